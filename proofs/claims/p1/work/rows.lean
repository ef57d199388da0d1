section
-- ===== PART A: goes FIRST, ahead of the names: the tables' words, and 'selects' of the private methods out of them =====
/-- a private method of a class that the tables say can be made, by its rows of tables_1 -/
def lw_okq (q : MethodName × Nat) : Prop := (q.1.cls ≠ "java/lang/invoke/MethodHandle" ∧ q.1.cls ≠ "java/lang/invoke/VarHandle") ∧ Cond.instantiable q.1.cls q.2 ∈ tables_1 ∧ Cond.privateMethod q.1 ∈ tables_1 ∧ Cond.instanceMethod q.1 ∈ tables_1
theorem lw_p0 : lw_okq (⟨"BillForge", "invoiceDifference", "(II)V"⟩, 11) := ⟨⟨by decide +kernel, by decide +kernel⟩, List.mem_of_getElem? (i := 23) (by decide +kernel), List.mem_of_getElem? (i := 261) (by decide +kernel), List.mem_of_getElem? (i := 262) (by decide +kernel)⟩
theorem lw_p1 : lw_okq (⟨"BillForge", "chargeOf", "(II)J"⟩, 11) := ⟨⟨by decide +kernel, by decide +kernel⟩, List.mem_of_getElem? (i := 23) (by decide +kernel), List.mem_of_getElem? (i := 269) (by decide +kernel), List.mem_of_getElem? (i := 270) (by decide +kernel)⟩
theorem lw_p2 : lw_okq (⟨"BillForge", "countLiveDays", "(II)V"⟩, 11) := ⟨⟨by decide +kernel, by decide +kernel⟩, List.mem_of_getElem? (i := 23) (by decide +kernel), List.mem_of_getElem? (i := 273) (by decide +kernel), List.mem_of_getElem? (i := 274) (by decide +kernel)⟩
theorem lw_p3 : lw_okq (⟨"BillForge$Customer", "liveTariffNow", "()I"⟩, 5) := ⟨⟨by decide +kernel, by decide +kernel⟩, List.mem_of_getElem? (i := 170) (by decide +kernel), List.mem_of_getElem? (i := 281) (by decide +kernel), List.mem_of_getElem? (i := 282) (by decide +kernel)⟩
theorem lw_p4 : lw_okq (⟨"BillForge", "countLiveUnits", "(II)V"⟩, 11) := ⟨⟨by decide +kernel, by decide +kernel⟩, List.mem_of_getElem? (i := 23) (by decide +kernel), List.mem_of_getElem? (i := 288) (by decide +kernel), List.mem_of_getElem? (i := 289) (by decide +kernel)⟩
theorem lw_p5 : lw_okq (⟨"BillForge$Tariff", "priceByPacks", "(J)J"⟩, 9) := ⟨⟨by decide +kernel, by decide +kernel⟩, List.mem_of_getElem? (i := 37) (by decide +kernel), List.mem_of_getElem? (i := 322) (by decide +kernel), List.mem_of_getElem? (i := 323) (by decide +kernel)⟩
theorem lw_p6 : lw_okq (⟨"BillForge$Tariff", "priceByTiers", "(J)J"⟩, 9) := ⟨⟨by decide +kernel, by decide +kernel⟩, List.mem_of_getElem? (i := 37) (by decide +kernel), List.mem_of_getElem? (i := 326) (by decide +kernel), List.mem_of_getElem? (i := 327) (by decide +kernel)⟩
theorem lw_p7 : lw_okq (⟨"BillForge", "spendCredit", "(I)V"⟩, 11) := ⟨⟨by decide +kernel, by decide +kernel⟩, List.mem_of_getElem? (i := 23) (by decide +kernel), List.mem_of_getElem? (i := 347) (by decide +kernel), List.mem_of_getElem? (i := 348) (by decide +kernel)⟩
theorem lw_p8 : lw_okq (⟨"BillForge", "lookAtStage", "(I)V"⟩, 11) := ⟨⟨by decide +kernel, by decide +kernel⟩, List.mem_of_getElem? (i := 23) (by decide +kernel), List.mem_of_getElem? (i := 359) (by decide +kernel), List.mem_of_getElem? (i := 360) (by decide +kernel)⟩
theorem lw_p9 : lw_okq (⟨"java/lang/Throwable", "fillInStackTrace", "(I)Ljava/lang/Throwable;"⟩, 6) := ⟨⟨by decide +kernel, by decide +kernel⟩, List.mem_of_getElem? (i := 433) (by decide +kernel), List.mem_of_getElem? (i := 431) (by decide +kernel), List.mem_of_getElem? (i := 432) (by decide +kernel)⟩
theorem lw_p10 : lw_okq (⟨"BillForge$TariffReader", "readPart", "()V"⟩, 7) := ⟨⟨by decide +kernel, by decide +kernel⟩, List.mem_of_getElem? (i := 31) (by decide +kernel), List.mem_of_getElem? (i := 500) (by decide +kernel), List.mem_of_getElem? (i := 501) (by decide +kernel)⟩
theorem lw_p11 : lw_okq (⟨"BillForge$TariffReader", "skipBlanks", "()V"⟩, 7) := ⟨⟨by decide +kernel, by decide +kernel⟩, List.mem_of_getElem? (i := 31) (by decide +kernel), List.mem_of_getElem? (i := 504) (by decide +kernel), List.mem_of_getElem? (i := 505) (by decide +kernel)⟩
theorem lw_p12 : lw_okq (⟨"BillForge$TariffReader", "skipLetters", "()V"⟩, 7) := ⟨⟨by decide +kernel, by decide +kernel⟩, List.mem_of_getElem? (i := 31) (by decide +kernel), List.mem_of_getElem? (i := 508) (by decide +kernel), List.mem_of_getElem? (i := 509) (by decide +kernel)⟩
theorem lw_p13 : lw_okq (⟨"BillForge$TariffReader", "wordBetween", "(II)I"⟩, 7) := ⟨⟨by decide +kernel, by decide +kernel⟩, List.mem_of_getElem? (i := 31) (by decide +kernel), List.mem_of_getElem? (i := 515) (by decide +kernel), List.mem_of_getElem? (i := 516) (by decide +kernel)⟩
theorem lw_p14 : lw_okq (⟨"BillForge$TariffReader", "isSpelled", "(Ljava/lang/String;II)Z"⟩, 7) := ⟨⟨by decide +kernel, by decide +kernel⟩, List.mem_of_getElem? (i := 31) (by decide +kernel), List.mem_of_getElem? (i := 528) (by decide +kernel), List.mem_of_getElem? (i := 529) (by decide +kernel)⟩
theorem lw_p15 : lw_okq (⟨"BillForge$TariffReader", "canStand", "(I)Z"⟩, 7) := ⟨⟨by decide +kernel, by decide +kernel⟩, List.mem_of_getElem? (i := 31) (by decide +kernel), List.mem_of_getElem? (i := 580) (by decide +kernel), List.mem_of_getElem? (i := 581) (by decide +kernel)⟩
def lw_privs_1 : List (MethodName × Nat) := [(⟨"BillForge", "invoiceDifference", "(II)V"⟩, 11), (⟨"BillForge", "chargeOf", "(II)J"⟩, 11), (⟨"BillForge", "countLiveDays", "(II)V"⟩, 11), (⟨"BillForge$Customer", "liveTariffNow", "()I"⟩, 5), (⟨"BillForge", "countLiveUnits", "(II)V"⟩, 11), (⟨"BillForge$Tariff", "priceByPacks", "(J)J"⟩, 9), (⟨"BillForge$Tariff", "priceByTiers", "(J)J"⟩, 9), (⟨"BillForge", "spendCredit", "(I)V"⟩, 11), (⟨"BillForge", "lookAtStage", "(I)V"⟩, 11), (⟨"java/lang/Throwable", "fillInStackTrace", "(I)Ljava/lang/Throwable;"⟩, 6), (⟨"BillForge$TariffReader", "readPart", "()V"⟩, 7), (⟨"BillForge$TariffReader", "skipBlanks", "()V"⟩, 7), (⟨"BillForge$TariffReader", "skipLetters", "()V"⟩, 7), (⟨"BillForge$TariffReader", "wordBetween", "(II)I"⟩, 7), (⟨"BillForge$TariffReader", "isSpelled", "(Ljava/lang/String;II)Z"⟩, 7), (⟨"BillForge$TariffReader", "canStand", "(I)Z"⟩, 7)]
theorem lw_r1 : ∀ q ∈ lw_privs_1, lw_okq q := List.forall_mem_cons.mpr ⟨lw_p0, List.forall_mem_cons.mpr ⟨lw_p1, List.forall_mem_cons.mpr ⟨lw_p2, List.forall_mem_cons.mpr ⟨lw_p3, List.forall_mem_cons.mpr ⟨lw_p4, List.forall_mem_cons.mpr ⟨lw_p5, List.forall_mem_cons.mpr ⟨lw_p6, List.forall_mem_cons.mpr ⟨lw_p7, List.forall_mem_cons.mpr ⟨lw_p8, List.forall_mem_cons.mpr ⟨lw_p9, List.forall_mem_cons.mpr ⟨lw_p10, List.forall_mem_cons.mpr ⟨lw_p11, List.forall_mem_cons.mpr ⟨lw_p12, List.forall_mem_cons.mpr ⟨lw_p13, List.forall_mem_cons.mpr ⟨lw_p14, List.forall_mem_cons.mpr ⟨lw_p15, fun _ h => absurd h List.not_mem_nil⟩⟩⟩⟩⟩⟩⟩⟩⟩⟩⟩⟩⟩⟩⟩⟩
theorem lw_p16 : lw_okq (⟨"BillForge$TariffReader", "readNumbers", "(I)V"⟩, 7) := ⟨⟨by decide +kernel, by decide +kernel⟩, List.mem_of_getElem? (i := 31) (by decide +kernel), List.mem_of_getElem? (i := 592) (by decide +kernel), List.mem_of_getElem? (i := 593) (by decide +kernel)⟩
theorem lw_p17 : lw_okq (⟨"BillForge$TariffReader", "readTwoNumbers", "(I)V"⟩, 7) := ⟨⟨by decide +kernel, by decide +kernel⟩, List.mem_of_getElem? (i := 31) (by decide +kernel), List.mem_of_getElem? (i := 596) (by decide +kernel), List.mem_of_getElem? (i := 597) (by decide +kernel)⟩
theorem lw_p18 : lw_okq (⟨"BillForge$TariffReader", "readNumber", "(I)I"⟩, 7) := ⟨⟨by decide +kernel, by decide +kernel⟩, List.mem_of_getElem? (i := 31) (by decide +kernel), List.mem_of_getElem? (i := 604) (by decide +kernel), List.mem_of_getElem? (i := 605) (by decide +kernel)⟩
theorem lw_p19 : lw_okq (⟨"BillForge$TariffReader", "readEndOfPart", "(I)V"⟩, 7) := ⟨⟨by decide +kernel, by decide +kernel⟩, List.mem_of_getElem? (i := 31) (by decide +kernel), List.mem_of_getElem? (i := 632) (by decide +kernel), List.mem_of_getElem? (i := 633) (by decide +kernel)⟩
theorem lw_p20 : lw_okq (⟨"BillForge", "passDay", "()V"⟩, 11) := ⟨⟨by decide +kernel, by decide +kernel⟩, List.mem_of_getElem? (i := 23) (by decide +kernel), List.mem_of_getElem? (i := 741) (by decide +kernel), List.mem_of_getElem? (i := 742) (by decide +kernel)⟩
theorem lw_p21 : lw_okq (⟨"BillForge", "allOpen", "()J"⟩, 11) := ⟨⟨by decide +kernel, by decide +kernel⟩, List.mem_of_getElem? (i := 23) (by decide +kernel), List.mem_of_getElem? (i := 869) (by decide +kernel), List.mem_of_getElem? (i := 870) (by decide +kernel)⟩
theorem lw_p22 : lw_okq (⟨"BillForge", "allCredit", "()J"⟩, 11) := ⟨⟨by decide +kernel, by decide +kernel⟩, List.mem_of_getElem? (i := 23) (by decide +kernel), List.mem_of_getElem? (i := 873) (by decide +kernel), List.mem_of_getElem? (i := 874) (by decide +kernel)⟩
theorem lw_p23 : lw_okq (⟨"BillForge", "allEarned", "()J"⟩, 11) := ⟨⟨by decide +kernel, by decide +kernel⟩, List.mem_of_getElem? (i := 23) (by decide +kernel), List.mem_of_getElem? (i := 881) (by decide +kernel), List.mem_of_getElem? (i := 882) (by decide +kernel)⟩
theorem lw_p24 : lw_okq (⟨"BillForgeModel", "refuse", "(I)I"⟩, 39) := ⟨⟨by decide +kernel, by decide +kernel⟩, List.mem_of_getElem? (i := 909) (by decide +kernel), List.mem_of_getElem? (i := 1046) (by decide +kernel), List.mem_of_getElem? (i := 1047) (by decide +kernel)⟩
theorem lw_p25 : lw_okq (⟨"BillForgeModel", "read", "()Z"⟩, 39) := ⟨⟨by decide +kernel, by decide +kernel⟩, List.mem_of_getElem? (i := 909) (by decide +kernel), List.mem_of_getElem? (i := 1055) (by decide +kernel), List.mem_of_getElem? (i := 1056) (by decide +kernel)⟩
theorem lw_p26 : lw_okq (⟨"BillForgeModel", "part", "()Z"⟩, 39) := ⟨⟨by decide +kernel, by decide +kernel⟩, List.mem_of_getElem? (i := 909) (by decide +kernel), List.mem_of_getElem? (i := 1059) (by decide +kernel), List.mem_of_getElem? (i := 1060) (by decide +kernel)⟩
theorem lw_p27 : lw_okq (⟨"BillForgeModel", "blanks", "()V"⟩, 39) := ⟨⟨by decide +kernel, by decide +kernel⟩, List.mem_of_getElem? (i := 909) (by decide +kernel), List.mem_of_getElem? (i := 1063) (by decide +kernel), List.mem_of_getElem? (i := 1064) (by decide +kernel)⟩
theorem lw_p28 : lw_okq (⟨"BillForgeModel", "look", "()I"⟩, 39) := ⟨⟨by decide +kernel, by decide +kernel⟩, List.mem_of_getElem? (i := 909) (by decide +kernel), List.mem_of_getElem? (i := 1067) (by decide +kernel), List.mem_of_getElem? (i := 1068) (by decide +kernel)⟩
theorem lw_p29 : lw_okq (⟨"BillForgeModel", "word", "(I)I"⟩, 39) := ⟨⟨by decide +kernel, by decide +kernel⟩, List.mem_of_getElem? (i := 909) (by decide +kernel), List.mem_of_getElem? (i := 1073) (by decide +kernel), List.mem_of_getElem? (i := 1074) (by decide +kernel)⟩
theorem lw_p30 : lw_okq (⟨"BillForgeModel", "number", "(I)I"⟩, 39) := ⟨⟨by decide +kernel, by decide +kernel⟩, List.mem_of_getElem? (i := 909) (by decide +kernel), List.mem_of_getElem? (i := 1083) (by decide +kernel), List.mem_of_getElem? (i := 1084) (by decide +kernel)⟩
theorem lw_p31 : lw_okq (⟨"BillForgeModel", "priced", "(IJJJ)J"⟩, 39) := ⟨⟨by decide +kernel, by decide +kernel⟩, List.mem_of_getElem? (i := 909) (by decide +kernel), List.mem_of_getElem? (i := 1101) (by decide +kernel), List.mem_of_getElem? (i := 1102) (by decide +kernel)⟩
def lw_privs_2 : List (MethodName × Nat) := [(⟨"BillForge$TariffReader", "readNumbers", "(I)V"⟩, 7), (⟨"BillForge$TariffReader", "readTwoNumbers", "(I)V"⟩, 7), (⟨"BillForge$TariffReader", "readNumber", "(I)I"⟩, 7), (⟨"BillForge$TariffReader", "readEndOfPart", "(I)V"⟩, 7), (⟨"BillForge", "passDay", "()V"⟩, 11), (⟨"BillForge", "allOpen", "()J"⟩, 11), (⟨"BillForge", "allCredit", "()J"⟩, 11), (⟨"BillForge", "allEarned", "()J"⟩, 11), (⟨"BillForgeModel", "refuse", "(I)I"⟩, 39), (⟨"BillForgeModel", "read", "()Z"⟩, 39), (⟨"BillForgeModel", "part", "()Z"⟩, 39), (⟨"BillForgeModel", "blanks", "()V"⟩, 39), (⟨"BillForgeModel", "look", "()I"⟩, 39), (⟨"BillForgeModel", "word", "(I)I"⟩, 39), (⟨"BillForgeModel", "number", "(I)I"⟩, 39), (⟨"BillForgeModel", "priced", "(IJJJ)J"⟩, 39)]
theorem lw_r2 : ∀ q ∈ lw_privs_2, lw_okq q := List.forall_mem_cons.mpr ⟨lw_p16, List.forall_mem_cons.mpr ⟨lw_p17, List.forall_mem_cons.mpr ⟨lw_p18, List.forall_mem_cons.mpr ⟨lw_p19, List.forall_mem_cons.mpr ⟨lw_p20, List.forall_mem_cons.mpr ⟨lw_p21, List.forall_mem_cons.mpr ⟨lw_p22, List.forall_mem_cons.mpr ⟨lw_p23, List.forall_mem_cons.mpr ⟨lw_p24, List.forall_mem_cons.mpr ⟨lw_p25, List.forall_mem_cons.mpr ⟨lw_p26, List.forall_mem_cons.mpr ⟨lw_p27, List.forall_mem_cons.mpr ⟨lw_p28, List.forall_mem_cons.mpr ⟨lw_p29, List.forall_mem_cons.mpr ⟨lw_p30, List.forall_mem_cons.mpr ⟨lw_p31, fun _ h => absurd h List.not_mem_nil⟩⟩⟩⟩⟩⟩⟩⟩⟩⟩⟩⟩⟩⟩⟩⟩
theorem lw_p32 : lw_okq (⟨"BillForgeModel", "due", "(II)J"⟩, 39) := ⟨⟨by decide +kernel, by decide +kernel⟩, List.mem_of_getElem? (i := 909) (by decide +kernel), List.mem_of_getElem? (i := 1123) (by decide +kernel), List.mem_of_getElem? (i := 1124) (by decide +kernel)⟩
theorem lw_p33 : lw_okq (⟨"BillForgeModel", "live", "(II)I"⟩, 39) := ⟨⟨by decide +kernel, by decide +kernel⟩, List.mem_of_getElem? (i := 909) (by decide +kernel), List.mem_of_getElem? (i := 1130) (by decide +kernel), List.mem_of_getElem? (i := 1131) (by decide +kernel)⟩
theorem lw_p34 : lw_okq (⟨"BillForgeModel", "look", "(I)V"⟩, 39) := ⟨⟨by decide +kernel, by decide +kernel⟩, List.mem_of_getElem? (i := 909) (by decide +kernel), List.mem_of_getElem? (i := 1153) (by decide +kernel), List.mem_of_getElem? (i := 1154) (by decide +kernel)⟩
theorem lw_p35 : lw_okq (⟨"BillForgeModel", "overdue", "(I)I"⟩, 39) := ⟨⟨by decide +kernel, by decide +kernel⟩, List.mem_of_getElem? (i := 909) (by decide +kernel), List.mem_of_getElem? (i := 1157) (by decide +kernel), List.mem_of_getElem? (i := 1158) (by decide +kernel)⟩
theorem lw_p36 : lw_okq (⟨"BillForgeModel", "settle", "(I)V"⟩, 39) := ⟨⟨by decide +kernel, by decide +kernel⟩, List.mem_of_getElem? (i := 909) (by decide +kernel), List.mem_of_getElem? (i := 1165) (by decide +kernel), List.mem_of_getElem? (i := 1166) (by decide +kernel)⟩
theorem lw_p37 : lw_okq (⟨"BillForgeModel", "open", "(I)J"⟩, 39) := ⟨⟨by decide +kernel, by decide +kernel⟩, List.mem_of_getElem? (i := 909) (by decide +kernel), List.mem_of_getElem? (i := 1187) (by decide +kernel), List.mem_of_getElem? (i := 1188) (by decide +kernel)⟩
theorem lw_p38 : lw_okq (⟨"BillForgeModel", "earned", "(I)J"⟩, 39) := ⟨⟨by decide +kernel, by decide +kernel⟩, List.mem_of_getElem? (i := 909) (by decide +kernel), List.mem_of_getElem? (i := 1191) (by decide +kernel), List.mem_of_getElem? (i := 1192) (by decide +kernel)⟩
def lw_privs_3 : List (MethodName × Nat) := [(⟨"BillForgeModel", "due", "(II)J"⟩, 39), (⟨"BillForgeModel", "live", "(II)I"⟩, 39), (⟨"BillForgeModel", "look", "(I)V"⟩, 39), (⟨"BillForgeModel", "overdue", "(I)I"⟩, 39), (⟨"BillForgeModel", "settle", "(I)V"⟩, 39), (⟨"BillForgeModel", "open", "(I)J"⟩, 39), (⟨"BillForgeModel", "earned", "(I)J"⟩, 39)]
theorem lw_r3 : ∀ q ∈ lw_privs_3, lw_okq q := List.forall_mem_cons.mpr ⟨lw_p32, List.forall_mem_cons.mpr ⟨lw_p33, List.forall_mem_cons.mpr ⟨lw_p34, List.forall_mem_cons.mpr ⟨lw_p35, List.forall_mem_cons.mpr ⟨lw_p36, List.forall_mem_cons.mpr ⟨lw_p37, List.forall_mem_cons.mpr ⟨lw_p38, fun _ h => absurd h List.not_mem_nil⟩⟩⟩⟩⟩⟩⟩
def lw_privs : List (MethodName × Nat) := lw_privs_1 ++ (lw_privs_2 ++ (lw_privs_3))
def lw_tbl : List Cond := k2_sels lw_privs ++ tables_1
theorem lw_privs_ok : ∀ q ∈ lw_privs, lw_okq q := by
  show ∀ q ∈ lw_privs_1 ++ (lw_privs_2 ++ (lw_privs_3)), lw_okq q
  exact List.forall_mem_append.mpr ⟨lw_r1, List.forall_mem_append.mpr ⟨lw_r2, lw_r3⟩⟩
end
section
/-! names: classes, their fields, methods -/
def R_cu : String := "BillForge$Customer"
def F_cu : u_T := fun k => match k with
  | 0 => ("BillForge$Customer", "liveTariffs", "[B", true)
  | 1 => ("BillForge$Customer", "tariff", "I", false)
  | 2 => ("BillForge$Customer", "paused", "Z", false)
  | 3 => ("BillForge$Customer", "stage", "I", false)
  | _ => ("BillForge$Customer", "credit", "J", false)
def t_cu : Nat → FieldType := fun k => match k with
  | 0 => .array .byte
  | 1 => .int
  | 2 => .boolean
  | 3 => .int
  | _ => .long
theorem n_cu : ∀ a, a < 5 → ∀ b, b < 5 → a ≠ b → (F_cu a).2.1 ≠ (F_cu b).2.1 := by decide +kernel
theorem t_cu_ok : ∀ k, k < 5 → parseFieldDescriptor (F_cu k).2.2.1 = some (t_cu k) := by decide +kernel
def R_ev : String := "BillForge$EventLog"
def F_ev : u_T := fun k => match k with
  | 0 => ("BillForge$EventLog", "keys", "[I", true)
  | 1 => ("BillForge$EventLog", "customers", "[I", true)
  | 2 => ("BillForge$EventLog", "days", "[I", true)
  | 3 => ("BillForge$EventLog", "units", "[I", true)
  | _ => ("BillForge$EventLog", "size", "I", false)
def t_ev : Nat → FieldType := fun k => match k with
  | 0 => .array .int
  | 1 => .array .int
  | 2 => .array .int
  | 3 => .array .int
  | _ => .int
theorem n_ev : ∀ a, a < 5 → ∀ b, b < 5 → a ≠ b → (F_ev a).2.1 ≠ (F_ev b).2.1 := by decide +kernel
theorem t_ev_ok : ∀ k, k < 5 → parseFieldDescriptor (F_ev k).2.2.1 = some (t_ev k) := by decide +kernel
def R_ib : String := "BillForge$InvoiceBook"
def F_ib : u_T := fun k => match k with
  | 0 => ("BillForge$InvoiceBook", "customers", "[I", true)
  | 1 => ("BillForge$InvoiceBook", "periods", "[I", true)
  | 2 => ("BillForge$InvoiceBook", "amounts", "[J", true)
  | 3 => ("BillForge$InvoiceBook", "days", "[I", true)
  | 4 => ("BillForge$InvoiceBook", "paid", "[J", true)
  | _ => ("BillForge$InvoiceBook", "size", "I", false)
def t_ib : Nat → FieldType := fun k => match k with
  | 0 => .array .int
  | 1 => .array .int
  | 2 => .array .long
  | 3 => .array .int
  | 4 => .array .long
  | _ => .int
theorem n_ib : ∀ a, a < 6 → ∀ b, b < 6 → a ≠ b → (F_ib a).2.1 ≠ (F_ib b).2.1 := by decide +kernel
theorem t_ib_ok : ∀ k, k < 6 → parseFieldDescriptor (F_ib k).2.2.1 = some (t_ib k) := by decide +kernel
def R_pb : String := "BillForge$PlanBook"
def F_pb : u_T := fun k => match k with
  | 0 => ("BillForge$PlanBook", "customers", "[I", true)
  | 1 => ("BillForge$PlanBook", "amounts", "[J", true)
  | 2 => ("BillForge$PlanBook", "lengths", "[I", true)
  | 3 => ("BillForge$PlanBook", "firstDays", "[I", true)
  | _ => ("BillForge$PlanBook", "size", "I", false)
def t_pb : Nat → FieldType := fun k => match k with
  | 0 => .array .int
  | 1 => .array .long
  | 2 => .array .int
  | 3 => .array .int
  | _ => .int
theorem n_pb : ∀ a, a < 5 → ∀ b, b < 5 → a ≠ b → (F_pb a).2.1 ≠ (F_pb b).2.1 := by decide +kernel
theorem t_pb_ok : ∀ k, k < 5 → parseFieldDescriptor (F_pb k).2.2.1 = some (t_pb k) := by decide +kernel
def R_tf : String := "BillForge$Tariff"
def F_tf : u_T := fun k => match k with
  | 0 => ("BillForge$Tariff", "fee", "I", false)
  | 1 => ("BillForge$Tariff", "free", "I", false)
  | 2 => ("BillForge$Tariff", "least", "I", false)
  | 3 => ("BillForge$Tariff", "packSize", "I", false)
  | 4 => ("BillForge$Tariff", "packPrice", "I", false)
  | 5 => ("BillForge$Tariff", "tiers", "I", false)
  | 6 => ("BillForge$Tariff", "tierEnds", "[I", true)
  | 7 => ("BillForge$Tariff", "tierPrices", "[I", true)
  | _ => ("BillForge$Tariff", "restPrice", "I", false)
def t_tf : Nat → FieldType := fun k => match k with
  | 0 => .int
  | 1 => .int
  | 2 => .int
  | 3 => .int
  | 4 => .int
  | 5 => .int
  | 6 => .array .int
  | 7 => .array .int
  | _ => .int
theorem n_tf : ∀ a, a < 9 → ∀ b, b < 9 → a ≠ b → (F_tf a).2.1 ≠ (F_tf b).2.1 := by decide +kernel
theorem t_tf_ok : ∀ k, k < 9 → parseFieldDescriptor (F_tf k).2.2.1 = some (t_tf k) := by decide +kernel
def R_tr : String := "BillForge$TariffReader"
def F_tr : u_T := fun k => match k with
  | 0 => ("BillForge$TariffReader", "characters", "[C", true)
  | 1 => ("BillForge$TariffReader", "wasThere", "[Z", true)
  | 2 => ("BillForge$TariffReader", "draft", "LBillForge$Tariff;", true)
  | 3 => ("BillForge$TariffReader", "length", "I", false)
  | 4 => ("BillForge$TariffReader", "at", "I", false)
  | 5 => ("BillForge$TariffReader", "parts", "I", false)
  | _ => ("BillForge$TariffReader", "fault", "I", false)
def t_tr : Nat → FieldType := fun k => match k with
  | 0 => .array .char
  | 1 => .array .boolean
  | 2 => .object "BillForge$Tariff"
  | 3 => .int
  | 4 => .int
  | 5 => .int
  | _ => .int
theorem n_tr : ∀ a, a < 7 → ∀ b, b < 7 → a ≠ b → (F_tr a).2.1 ≠ (F_tr b).2.1 := by decide +kernel
theorem t_tr_ok : ∀ k, k < 7 → parseFieldDescriptor (F_tr k).2.2.1 = some (t_tr k) := by decide +kernel
def R_bf : String := "BillForge"
def F_bf : u_T := fun k => match k with
  | 0 => ("BillForge", "reader", "LBillForge$TariffReader;", true)
  | 1 => ("BillForge", "tariffs", "[LBillForge$Tariff;", true)
  | 2 => ("BillForge", "customers", "[LBillForge$Customer;", true)
  | 3 => ("BillForge", "events", "LBillForge$EventLog;", true)
  | 4 => ("BillForge", "invoices", "LBillForge$InvoiceBook;", true)
  | 5 => ("BillForge", "plans", "LBillForge$PlanBook;", true)
  | 6 => ("BillForge", "firstDays", "[I", true)
  | 7 => ("BillForge", "liveDays", "[I", true)
  | 8 => ("BillForge", "liveUnits", "[J", true)
  | 9 => ("BillForge", "today", "I", false)
  | _ => ("BillForge", "cash", "J", false)
def t_bf : Nat → FieldType := fun k => match k with
  | 0 => .object "BillForge$TariffReader"
  | 1 => .array (.object "BillForge$Tariff")
  | 2 => .array (.object "BillForge$Customer")
  | 3 => .object "BillForge$EventLog"
  | 4 => .object "BillForge$InvoiceBook"
  | 5 => .object "BillForge$PlanBook"
  | 6 => .array .int
  | 7 => .array .int
  | 8 => .array .long
  | 9 => .int
  | _ => .long
theorem n_bf : ∀ a, a < 11 → ∀ b, b < 11 → a ≠ b → (F_bf a).2.1 ≠ (F_bf b).2.1 := by decide +kernel
theorem t_bf_ok : ∀ k, k < 11 → parseFieldDescriptor (F_bf k).2.2.1 = some (t_bf k) := by decide +kernel
def R_md : String := "BillForgeModel"
def F_md : u_T := fun k => match k with
  | 0 => ("BillForgeModel", "thrown", "I", false)
  | 1 => ("BillForgeModel", "where", "I", false)
  | 2 => ("BillForgeModel", "today", "I", false)
  | 3 => ("BillForgeModel", "text", "[I", true)
  | 4 => ("BillForgeModel", "length", "I", false)
  | 5 => ("BillForgeModel", "fee", "[I", true)
  | 6 => ("BillForgeModel", "free", "[I", true)
  | 7 => ("BillForgeModel", "min", "[I", true)
  | 8 => ("BillForgeModel", "per", "[I", true)
  | 9 => ("BillForgeModel", "perPrice", "[I", true)
  | 10 => ("BillForgeModel", "tiers", "[I", true)
  | 11 => ("BillForgeModel", "rest", "[I", true)
  | 12 => ("BillForgeModel", "upTo", "[I", true)
  | 13 => ("BillForgeModel", "price", "[I", true)
  | 14 => ("BillForgeModel", "plan", "[I", true)
  | 15 => ("BillForgeModel", "paused", "[I", true)
  | 16 => ("BillForgeModel", "stage", "[I", true)
  | 17 => ("BillForgeModel", "credit", "[J", true)
  | 18 => ("BillForgeModel", "was", "[I", true)
  | 19 => ("BillForgeModel", "eKey", "[I", true)
  | 20 => ("BillForgeModel", "eCustomer", "[I", true)
  | 21 => ("BillForgeModel", "eDay", "[I", true)
  | 22 => ("BillForgeModel", "eUnits", "[I", true)
  | 23 => ("BillForgeModel", "events", "I", false)
  | 24 => ("BillForgeModel", "iCustomer", "[I", true)
  | 25 => ("BillForgeModel", "iPeriod", "[I", true)
  | 26 => ("BillForgeModel", "iDay", "[I", true)
  | 27 => ("BillForgeModel", "iAmount", "[J", true)
  | 28 => ("BillForgeModel", "iPaid", "[J", true)
  | 29 => ("BillForgeModel", "invoices", "I", false)
  | 30 => ("BillForgeModel", "pCustomer", "[I", true)
  | 31 => ("BillForgeModel", "pDays", "[I", true)
  | 32 => ("BillForgeModel", "pFrom", "[I", true)
  | 33 => ("BillForgeModel", "pAmount", "[J", true)
  | 34 => ("BillForgeModel", "plans", "I", false)
  | 35 => ("BillForgeModel", "cash", "J", false)
  | 36 => ("BillForgeModel", "at", "I", false)
  | 37 => ("BillForgeModel", "seen", "I", false)
  | _ => ("BillForgeModel", "parts", "I", false)
def t_md : Nat → FieldType := fun k => match k with
  | 0 => .int
  | 1 => .int
  | 2 => .int
  | 3 => .array .int
  | 4 => .int
  | 5 => .array .int
  | 6 => .array .int
  | 7 => .array .int
  | 8 => .array .int
  | 9 => .array .int
  | 10 => .array .int
  | 11 => .array .int
  | 12 => .array .int
  | 13 => .array .int
  | 14 => .array .int
  | 15 => .array .int
  | 16 => .array .int
  | 17 => .array .long
  | 18 => .array .int
  | 19 => .array .int
  | 20 => .array .int
  | 21 => .array .int
  | 22 => .array .int
  | 23 => .int
  | 24 => .array .int
  | 25 => .array .int
  | 26 => .array .int
  | 27 => .array .long
  | 28 => .array .long
  | 29 => .int
  | 30 => .array .int
  | 31 => .array .int
  | 32 => .array .int
  | 33 => .array .long
  | 34 => .int
  | 35 => .long
  | 36 => .int
  | 37 => .int
  | _ => .int
theorem n_md : ∀ a, a < 39 → ∀ b, b < 39 → a ≠ b → (F_md a).2.1 ≠ (F_md b).2.1 := by decide +kernel
theorem t_md_ok : ∀ k, k < 39 → parseFieldDescriptor (F_md k).2.2.1 = some (t_md k) := by decide +kernel
abbrev qC : List vw_C := [(R_cu, F_cu, 5), (R_ev, F_ev, 5), (R_ib, F_ib, 6), (R_pb, F_pb, 5), (R_tf, F_tf, 9), (R_tr, F_tr, 7), (R_bf, F_bf, 11), (R_md, F_md, 39)]
/-- the classes of the arrays that the run makes -/
abbrev qT : List FieldType := [.int, .long, .char, .boolean, .byte, .object "BillForge$Tariff", .object "BillForge$Customer"]
/-- the tables' words that stay -/
def qg : List Cond := lw_tbl.filter goodWord
theorem qg_in {w : Cond} (h : w ∈ lw_tbl) (g : goodWord w = true) : w ∈ qg := List.mem_filter.mpr ⟨h, g⟩
theorem qg_good : ∀ w ∈ qg, goodWord w = true := fun w h => (List.mem_filter.mp h).2
/-- what a throw reads of Throwable's statics: no words of the tables alone -/
def qSpec : List Cond := [.laysStatic "java/lang/Throwable" "UNASSIGNED_STACK" "[Ljava/lang/StackTraceElement;", .laysStatic "java/lang/Throwable" "SUPPRESSED_SENTINEL" "Ljava/util/List;", .isRef (.static "java/lang/Throwable" "UNASSIGNED_STACK" "[Ljava/lang/StackTraceElement;"), .isRef (.static "java/lang/Throwable" "SUPPRESSED_SENTINEL" "Ljava/util/List;")]
/-- words that stay, of another kind -/
def qFw : List Cond := [.declares ⟨"java/lang/RuntimeException", "<init>", "()V"⟩, .declares ⟨"java/lang/Exception", "<init>", "()V"⟩, .declares ⟨"java/lang/Throwable", "<init>", "()V"⟩, .castable "java/lang/IllegalArgumentException" "java/lang/IllegalArgumentException", .castable "java/lang/IllegalStateException" "java/lang/IllegalStateException", .castable "java/lang/IndexOutOfBoundsException" "java/lang/IndexOutOfBoundsException", .castable "java/util/NoSuchElementException" "java/util/NoSuchElementException"]
theorem qFw_ok : ∀ w ∈ qFw, w.onTables = true ∧ w.keepsFace = true := by decide +kernel
theorem word_face {args a' : Array Value} {s U : State} (hW : s.WarmedH U.vm) {w : Cond} (h1 : w.onTables = true) (h2 : w.keepsFace = true) (h : w.before args s = true) : w.before a' U = true := by
  have h3 : w.before args (s.setVm U.vm) = true := Cond.before_shiftedFace (State.Shifted.of_warmed hW) _ h2 h
  have h4 := Cond.onTables_vm (A := args) (A' := a') (U := s) (U' := U) U.vm w h1
  rw [h4] at h3
  rwa [State.setVm_self] at h3
/-- 'throw new En()' stands at pc -/
def qThrow (own : String) (cc : ByteArray) (pc : Nat) (En : String) : Prop := ∃ ik ic : Nat, decode cc pc = .ok (.new ik, 3) ∧ decode cc (pc + 3) = .ok (.dup, 1) ∧ decode cc (pc + 4) = .ok (.invokespecial ic, 3) ∧ decode cc (pc + 7) = .ok (.athrow, 1) ∧ Cond.classLink own ik En ∈ qg ∧ Cond.initialized En ∈ qg ∧ (∀ w ∈ Jvm.Bundle.ownAtoms0 own ic En ["java/lang/RuntimeException", "java/lang/Exception"], w ∈ qg ∨ w ∈ qSpec ∨ w ∈ qFw) ∧ Jvm.Bundle.fit En = true
end
section
/-! the judgement qR: one method's walk, over a world of logical cells (cell k of the run lies at z + k), with the machine's context hidden -/
/-- where the logical cell k lies: those that the run made at z + k, the given ones (the script, text constants) by ex -/
def qa (z : Nat) (ex : Nat → Nat) (k : Nat) : Nat := if k < 77 then z + k else ex k
def qv (z : Nat) (ex : Nat → Nat) (v : Value) : Value := match v with
  | .ref k => .ref (qa z ex k)
  | .int i => .int i
  | .long i => .long i
  | .float i => .float i
  | .double i => .double i
  | .null => .null
  | .retAddr i => .retAddr i
def qp (z : Nat) (ex : Nat → Nat) (q : Nat × Value) : Nat × Value := (q.1, qv z ex q.2)
def qarr (z : Nat) (ex : Nat → Nat) (a : vp_A) : vp_A := match a with
  | (n, .inr (.inr (.inr (.inr g)))) => (n, .inr (.inr (.inr (.inr fun j => (g j).map (qa z ex)))))
  | (n, .inl g) => (n, .inl g)
  | (n, .inr (.inl g)) => (n, .inr (.inl g))
  | (n, .inr (.inr (.inl g))) => (n, .inr (.inr (.inl g)))
  | (n, .inr (.inr (.inr (.inl g)))) => (n, .inr (.inr (.inr (.inl g))))
def qe (z : Nat) (ex : Nat → Nat) (D3 : Nat → ClassId) (e : va_E) : va_E := match e with
  | .inl (t, a) => .inl (D3 t, qarr z ex a)
  | .inr (ci, fs) => .inr (ci, fs.map (qv z ex))
def qw (z : Nat) (ex : Nat → Nat) (D3 : Nat → ClassId) (n : Nat) (f : Nat → va_E) : va_W := (List.range (min n 77)).map fun k => (z + k, qe z ex D3 (f k))
theorem qa_lt {z : Nat} {ex : Nat → Nat} {k : Nat} (h : k < 77) : qa z ex k = z + k := if_pos h
theorem qv_cat (z : Nat) (ex : Nat → Nat) (v : Value) : (qv z ex v).category = v.category := by cases v <;> rfl
theorem qw_at {z : Nat} {ex : Nat → Nat} {D3 : Nat → ClassId} {n : Nat} {f : Nat → va_E} {k : Nat} (h : k < n) (h7 : k < 77) : (qw z ex D3 n f)[k]? = some (z + k, qe z ex D3 (f k)) := by
  have h8 : k < min n 77 := by omega
  simp [qw, h8]
theorem qw_len (z : Nat) (ex : Nat → Nat) (D3 : Nat → ClassId) (n : Nat) (f : Nat → va_E) : (qw z ex D3 n f).length = min n 77 := by simp [qw]
theorem qw_set {z : Nat} {ex : Nat → Nat} {D3 : Nat → ClassId} {n : Nat} {f : Nat → va_E} {k : Nat} (e : va_E) : (qw z ex D3 n f).set k (z + k, qe z ex D3 e) = qw z ex D3 n (va_up f k e) := by
  apply List.ext_getElem?
  intro i
  rw [List.getElem?_set]
  by_cases hi : i < n ∧ i < 77
  · by_cases hk : k = i
    · subst hk
      rw [if_pos rfl, qw_len, if_pos (by omega), qw_at hi.1 hi.2]
      simp [va_up]
    · rw [if_neg hk, qw_at hi.1 hi.2, qw_at hi.1 hi.2]
      simp [va_up, Ne.symm hk]
  · have h1 : (qw z ex D3 n f)[i]? = none := by simp [qw_len]; omega
    have h2 : (qw z ex D3 n (va_up f k e))[i]? = none := by simp [qw_len]; omega
    rw [h1, h2, qw_len]
    split
    · rw [if_neg (by omega)]
    · rfl
theorem qw_congr {z : Nat} {ex : Nat → Nat} {D3 : Nat → ClassId} {n : Nat} {f g : Nat → va_E} (h : ∀ k, k < n → f k = g k) : qw z ex D3 n f = qw z ex D3 n g := by
  apply List.map_congr_left
  intro k hk
  rw [h k (by have := List.mem_range.mp hk; omega)]
theorem qw_push {z : Nat} {ex : Nat → Nat} {D3 : Nat → ClassId} {n : Nat} {f : Nat → va_E} (hn : n < 77) (e : va_E) : qw z ex D3 n f ++ [(z + n, qe z ex D3 e)] = qw z ex D3 (n + 1) (va_up f n e) := by
  have h1 : qw z ex D3 n f = qw z ex D3 n (va_up f n e) := qw_congr fun k hk => by simp [va_up, Nat.ne_of_lt hk]
  rw [h1]
  have h2 : min (n + 1) 77 = min n 77 + 1 := by omega
  have h3 : min n 77 = n := by omega
  simp only [qw, h2, List.range_succ]
  simp [h3, va_up]
/-- what the run may change: its own cells -/
def qA (z : Nat) : Nat → Prop := fun q => z ≤ q ∧ q < z + 77
theorem qw_D (z : Nat) (ex : Nat → Nat) (D3 : Nat → ClassId) (n : Nat) (f : Nat → va_E) : va_D (qA z) (qw z ex D3 n f) := by
  have key : ∀ (i : Nat) (p : Nat × va_E), (qw z ex D3 n f)[i]? = some p → p.1 = z + i ∧ i < 77 := by
    intro i p hp
    have hi : i < min n 77 := by
      have := (List.getElem?_eq_some_iff.mp hp).1
      rwa [qw_len] at this
    rw [qw_at (by omega) (by omega)] at hp
    cases hp
    exact ⟨rfl, by omega⟩
  refine ⟨fun i j p q hp hq h => ?_, fun k q hq => ?_⟩
  · have := key i p hp
    have := key j q hq
    omega
  · have := key k q hq
    show z ≤ q.1 ∧ q.1 < z + 77
    omega

/-- words that stay by a law of their own: calls across the nest -/
def qNg : List Cond := lw_tbl.filter fun w => match w with | .methodLinkNest .. => true | _ => false
/-- classes of which there are arrays -/
def qAo : List Cond := [.arrayOver (.object "BillForge$Tariff"), .arrayOver (.object "BillForge$Customer")]
/-- Throwable's statics that a throw reads -/
def qSt : List (String × String) := [("UNASSIGNED_STACK", "[Ljava/lang/StackTraceElement;"), ("SUPPRESSED_SENTINEL", "Ljava/util/List;")]
def qZ (z : Nat) (n d : String) (U : State) (H : Heap) : Prop := ∃ (c i a : Nat) (k : Class) (f : Field) (cell : Cell) (v : Value), U.vm.findClass "java/lang/Throwable" = some c ∧ U.fieldFound? "java/lang/Throwable" n d = some (c, k, i, f) ∧ f.isStatic = true ∧ k.statics = some a ∧ H[a]? = some cell ∧ cell.vm.isStatics = true ∧ cell.cls = c ∧ f.slot < cell.slots.size ∧ k.staticTypes[f.slot]? = some f.type ∧ cell.slots[f.slot]? = some v ∧ (v = .null ∨ ∃ t, v = .ref t) ∧ a < z
theorem qZ_moved {z : Nat} {n d : String} {u U : State} {H H1 : Heap} (hvm : u.vm.Alike U.vm) (hq : ∀ a : Nat, a < H.size → a < z → H1[a]? = H[a]?) (h : qZ z n d u H) : qZ z n d U H1 := by
  obtain ⟨c, i, a, k, f, cell, v, h1, h2, h3, h4, h5, h6, h7, h8, h9, h10, h11, h12⟩ := h
  obtain ⟨k', hi', he⟩ := State.fieldFound?_setVm hvm h2
  exact ⟨c, i, a, k', f, cell, v, by rw [hvm.findClass]; exact h1, hi', h3, by rw [he]; exact h4, by rw [hq a (Array.getElem?_eq_some_iff.mp h5).1 h12]; exact h5, h6, h7, h8, by rw [he]; exact h9, h10, h11, h12⟩
theorem qZ_lays {z : Nat} {n d : String} {U : State} {args : Array Value} (h : qZ z n d U U.heap) : (Cond.laysStatic "java/lang/Throwable" n d).before args U = true := by
  obtain ⟨c, i, a, k, f, cell, v, h1, h2, h3, h4, h5, h6, h7, h8, h9, -⟩ := h
  exact Cond.laysStatic_of h1 h2 h3 h4 h5 h6 h7 h8 h9
theorem qZ_isRef {z : Nat} {n d : String} {U : State} {args : Array Value} (h : qZ z n d U U.heap) : (Cond.isRef (.static "java/lang/Throwable" n d)).before args U = true := by
  obtain ⟨c, i, a, k, f, cell, v, h1, h2, h3, h4, h5, h6, h7, h8, h9, h10, h11, h12⟩ := h
  have hv : (Term.static "java/lang/Throwable" n d).eval args U none [] U = some v := by
    simp [Term.eval, State.fieldNamed?, h2, h3, h4, h5, h6, h10]
  rcases h11 with rfl | ⟨t, rfl⟩ <;> simp [Cond.before, Cond.holds, Cond.value, hv]
theorem qZ_of {n d : String} {U : State} {args : Array Value} (hl : (Cond.laysStatic "java/lang/Throwable" n d).before args U = true) (hr : (Cond.isRef (.static "java/lang/Throwable" n d)).before args U = true) : qZ U.heap.size n d U U.heap := by
  obtain ⟨c, k, i, f, a, cell, h1, h2, h3, h4, h5, h6, h7, h8, h9⟩ := Cond.laysStatic_spec hl
  refine ⟨c, i, a, k, f, cell, cell.slots[f.slot], h1, h2, h3, h4, h5, h6, h7, h8, h9, by simp [h8], ?_, (Array.getElem?_eq_some_iff.mp h5).1⟩
  have hv : (Term.static "java/lang/Throwable" n d).eval args U none [] U = some cell.slots[f.slot] := by
    simp [Term.eval, State.fieldNamed?, h2, h3, h4, h5, h6, h8]
  simp only [Cond.before, Cond.holds, Cond.value, hv] at hr
  cases hc : cell.slots[f.slot] <;> simp_all
/-- what is not an instance of what -/
def qNc : List (String × String) := [("java/lang/IllegalStateException", "java/lang/IllegalArgumentException"), ("java/lang/IndexOutOfBoundsException", "java/lang/IllegalArgumentException"), ("java/lang/IllegalStateException", "java/lang/IndexOutOfBoundsException"), ("java/lang/IllegalArgumentException", "java/util/NoSuchElementException")]
theorem qNc_moved {c1 c2 : String} {u U : State} (hvm : u.vm.Alike U.vm) (h : (Cond.not (.castable c1 c2)).before #[] u = true) : (Cond.not (.castable c1 c2)).before #[] U = true := by
  have h1 := Cond.holds_not_iff.mp h
  refine Cond.holds_not_iff.mpr ?_
  simp only [Cond.value] at h1 ⊢
  simp only [hvm.findClass, hvm.assignable]
  exact h1
/-- what is given at the start and never changes -/
def qX (z : Nat) (ex : Nat → Nat) (U : State) (H : Heap) : Prop := z ≤ H.size ∧ (∀ w ∈ qNg, va_Nw w U) ∧ (∀ Cn, Cond.arrayOver (.object Cn) ∈ qAo → va_AO Cn U) ∧ (∀ q ∈ qSt, qZ z q.1 q.2 U H) ∧ (∀ q ∈ qNc, (Cond.not (.castable q.1 q.2)).before #[] U = true) ∧ ∀ w ∈ qFw, w.before #[] U = true
theorem qX.warm {z : Nat} {ex : Nat → Nat} {s U : State} {H H1 : Heap} (h : qX z ex s H) (hW : s.WarmedH U.vm) (hz : H.size ≤ H1.size) (hq : ∀ a : Nat, a < H.size → ¬ qA z a → H1[a]? = H[a]?) : qX z ex U H1 := by
  refine ⟨Nat.le_trans h.1 hz, fun w hw => ?_, fun Cn hC => va_AO.moved hW.alike (h.2.2.1 Cn hC), fun q hq9 => qZ_moved hW.alike (fun a h1 h2 => hq a h1 (fun h3 => absurd h3.1 (by omega))) (h.2.2.2.1 q hq9), fun q hq9 => qNc_moved hW.alike (h.2.2.2.2.1 q hq9), fun w hw => word_face hW (qFw_ok w hw).1 (qFw_ok w hw).2 (h.2.2.2.2.2 w hw)⟩
  have h1 := h.2.1 w hw
  have h2 := (List.mem_filter.mp hw).2
  cases w <;> first | exact va_Nw.warmM hW h1 | exact absurd h2 Bool.false_ne_true
def qtys (D3 : Nat → ClassId) : List (ClassId × FieldType) := (List.range qT.length).map fun t => (D3 t, qT.getD t .int)
theorem qtys_at {D3 : Nat → ClassId} {t : Nat} {ty : FieldType} (h : qT[t]? = some ty) : (qtys D3)[t]? = some (D3 t, ty) := by
  have hl : t < qT.length := (List.getElem?_eq_some_iff.mp h).1
  have h2 : qT.getD t .int = ty := by simp [List.getD, h]
  rw [← h2]
  unfold qtys
  rw [List.getElem?_map, List.getElem?_range hl]
  rfl
/-- a world at a state -/
def qW (z : Nat) (ex : Nat → Nat) (D : va_G) (D3 : Nat → ClassId) (x : Bool) (n : Nat) (f : Nat → va_E) (U : State) : Prop :=
  va_P D qC (qw z ex D3 n f) U.heap ∧ va_K D qC (qtys D3) U ∧ (x = true → U.heap.size = z + n) ∧ qX z ex U U.heap
/-- a method: launch, its class, its bytes, how many locals, what it answers, is it a constructor; is the heap's size known; how deep it may call; the cells and slots that it makes; how many logical cells there are at its start -/
abbrev qK : Type := Launch × String × ByteArray × Nat × Option FieldType × Bool × Bool × Nat × Nat × Nat × Nat × (Nat → (Nat → Nat) → State → Code → Prop)
abbrev kl (K : qK) : Launch := K.1
abbrev kown (K : qK) : String := K.2.1
abbrev kcc (K : qK) : ByteArray := K.2.2.1
abbrev knL (K : qK) : Nat := K.2.2.2.1
abbrev kret (K : qK) : Option FieldType := K.2.2.2.2.1
abbrev kini (K : qK) : Bool := K.2.2.2.2.2.1
abbrev kx (K : qK) : Bool := K.2.2.2.2.2.2.1
abbrev kd (K : qK) : Nat := K.2.2.2.2.2.2.2.1
abbrev kmc (K : qK) : Nat := K.2.2.2.2.2.2.2.2.1
abbrev kms (K : qK) : Nat := K.2.2.2.2.2.2.2.2.2.1
abbrev kn (K : qK) : Nat := K.2.2.2.2.2.2.2.2.2.2.1
/-- what else the walk may take as given: of the start, and of the method's table -/
abbrev kP (K : qK) : Nat → (Nat → Nat) → State → Code → Prop := K.2.2.2.2.2.2.2.2.2.2.2
abbrev q0 : Nat → (Nat → Nat) → State → Code → Prop := fun _ _ _ _ => True
def qrm (d mc ms : Nat) : Room := { frames := d, cells := mc, slots := ms, locals := 34 * d + 12 }
/-- the machine's context of a walk -/
def qCx (K : qK) (p : Program) (R : Room) (s : State) (m : MethodId) (args : Array Value) (meth : Method) (c : Code) (z : Nat) (ex : Nat → Nat) (D : va_G) (D3 : Nat → ClassId) : Prop :=
  p.tables.exec = Jvm.exec ∧ c.code = kcc K ∧ c.maxLocals = knL K ∧ s.vm.findClass (kown K) = some m.cls ∧ (∀ w ∈ qg, w.before args s = true) ∧ (kini K = true → meth.name = "<init>") ∧ va_K D qC (qtys D3) s ∧ qX z ex s s.heap ∧ R = qrm (kd K) (kmc K) (kms K) ∧ (kx K = true → s.heap.size = z + kn K) ∧ kP K z ex s c
abbrev qE : Type := Option Value → Nat → (Nat → va_E) → Prop
abbrev qXC : Type := String → Nat → (Nat → va_E) → Prop
/-- a return instruction, with its answer on the stack -/
def qRet (cc : ByteArray) (pc : Nat) (ret : Option FieldType) (v : Option Value) : Prop := match v with
  | none => ret = none ∧ decode cc pc = .ok (.return_, 1)
  | some (.int i) => (∃ ty, ret = some ty ∧ narrow ty (.int i) = .int i) ∧ decode cc pc = .ok (.ireturn, 1)
  | some (.long _) => ret = some .long ∧ decode cc pc = .ok (.lreturn, 1)
  | some (.ref _) => (∃ rt, ret = some rt ∧ ((∃ n, rt = .object n) ∨ ∃ t, rt = .array t)) ∧ decode cc pc = .ok (.areturn, 1)
  | _ => False
/-- what the ends of the walk give: a return, a throw -/
def qEnd (K : qK) (E : qE) (X : qXC) (p : Program) (e : Env) (R : Room) (s : State) (m : MethodId) (args : Array Value) (below : List Frame) (meth : Method) (c : Code) (Q : State → Prop) (z : Nat) (ex : Nat → Nat) (D : va_G) (D3 : Nat → ClassId) : Prop :=
  (∀ (v : Option Value) (n kc ks : Nat) (f : Nat → va_E) (H : Heap) (locs : List Loc) (pc : Nat) (ls : Array Slot), E v n f → kc ≤ kmc K → ks ≤ kms K → va_P D qC (qw z ex D3 n f) H → va_S (qA z) s.heap H locs → qRet (kcc K) pc (kret K) v →
    W p (kl K) e R s m args below meth c H locs kc ks Q (F0 m pc ls (v.toList.map (qv z ex)))) ∧
  (∀ (En : String) (n kc ks : Nat) (f : Nat → va_E) (H : Heap) (locs : List Loc) (pc : Nat) (ls : Array Slot) (rest : List Value), X En n f → kc + 1 ≤ kmc K → ks + 6 ≤ kms K → va_P D qC (qw z ex D3 n f) H → va_S (qA z) s.heap H locs → ls.size = knL K → (rest.map fun v => v.category).sum ≤ 8 → qThrow (kown K) (kcc K) pc En →
    W p (kl K) e R s m args below meth c H locs kc ks Q (F0 m pc ls rest))
def qR (K : qK) (E : qE) (X : qXC) (pc : Nat) (lv : List (Nat × Value)) (st : List Value) (n kc ks : Nat) (f : Nat → va_E) : Prop :=
  ∀ (p : Program) (e : Env) (R : Room) (s : State) (m : MethodId) (args : Array Value) (below : List Frame) (meth : Method) (c : Code) (H : Heap) (locs : List Loc) (ls : Array Slot) (Q : State → Prop) (z : Nat) (ex : Nat → Nat) (D : va_G) (D3 : Nat → ClassId),
    qCx K p R s m args meth c z ex D D3 → va_P D qC (qw z ex D3 n f) H → va_S (qA z) s.heap H locs → lv_has ls (knL K) (lv.map (qp z ex)) → qEnd K E X p e R s m args below meth c Q z ex D D3 →
    W p (kl K) e R s m args below meth c H locs kc ks Q (F0 m pc ls (st.map (qv z ex)))
section QR
variable {K : qK} {E : qE} {X : qXC} {pc : Nat} {lv : List (Nat × Value)} {st : List Value} {n kc ks : Nat} {f : Nat → va_E}

theorem qr_iconst {i : Int} {v : Int32} (hd : decode (kcc K) pc = .ok (.iconst i, 1)) (hv : Int32.ofInt i = v) (k : qR K E X (pc + 1) lv (.int v :: st) n kc ks f) : qR K E X pc lv st n kc ks f := by
  intro p e R s m args below meth c H locs ls Q z ex D D3 C hP hS hl hE
  exact lv_iconst C.1 C.2.1 hd hv (k p e R s m args below meth c H locs ls Q z ex D D3 C hP hS hl hE)
theorem qr_bipush {i : Int} {v : Int32} (hd : decode (kcc K) pc = .ok (.bipush i, 2)) (hv : (Int8.ofInt i).toInt32 = v) (k : qR K E X (pc + 2) lv (.int v :: st) n kc ks f) : qR K E X pc lv st n kc ks f := by
  intro p e R s m args below meth c H locs ls Q z ex D D3 C hP hS hl hE
  exact lv_bipush C.1 C.2.1 hd hv (k p e R s m args below meth c H locs ls Q z ex D D3 C hP hS hl hE)
theorem qr_sipush {i : Int} {v : Int32} (hd : decode (kcc K) pc = .ok (.sipush i, 3)) (hv : (Int16.ofInt i).toInt32 = v) (k : qR K E X (pc + 3) lv (.int v :: st) n kc ks f) : qR K E X pc lv st n kc ks f := by
  intro p e R s m args below meth c H locs ls Q z ex D D3 C hP hS hl hE
  exact lv_sipush C.1 C.2.1 hd hv (k p e R s m args below meth c H locs ls Q z ex D D3 C hP hS hl hE)
theorem qr_lconst {i : Fin 2} {v : Int64} (hd : decode (kcc K) pc = .ok (.lconst i, 1)) (hv : Int64.ofNat (i : Nat) = v) (k : qR K E X (pc + 1) lv (.long v :: st) n kc ks f) : qR K E X pc lv st n kc ks f := by
  intro p e R s m args below meth c H locs ls Q z ex D D3 C hP hS hl hE
  exact lv_lconst C.1 C.2.1 hd hv (k p e R s m args below meth c H locs ls Q z ex D D3 C hP hS hl hE)
theorem qr_ldc {i : Nat} {v : Int32} (hd : decode (kcc K) pc = .ok (.ldc i, 2)) (hw : Cond.constant (kown K) i v ∈ qg) (k : qR K E X (pc + 2) lv (.int v :: st) n kc ks f) : qR K E X pc lv st n kc ks f := by
  intro p e R s m args below meth c H locs ls Q z ex D D3 C hP hS hl hE
  exact lv_ldc C.1 C.2.1 C.2.2.2.1 (C.2.2.2.2.1 _ hw) hd (k p e R s m args below meth c H locs ls Q z ex D D3 C hP hS hl hE)
theorem qr_ldc2 {i : Nat} {v : Int64} (hd : decode (kcc K) pc = .ok (.ldc2_w i, 3)) (hw : Cond.constantLong (kown K) i v ∈ qg) (k : qR K E X (pc + 3) lv (.long v :: st) n kc ks f) : qR K E X pc lv st n kc ks f := by
  intro p e R s m args below meth c H locs ls Q z ex D D3 C hP hS hl hE
  exact lv_ldc2 C.1 C.2.1 C.2.2.2.1 (C.2.2.2.2.1 _ hw) hd (k p e R s m args below meth c H locs ls Q z ex D D3 C hP hS hl hE)
/-- the local i holds v -/
def qL (lv : List (Nat × Value)) (i : Nat) : Option Value := (lv.find? fun q => q.1 == i).map (·.2)
theorem qL_has {lv : List (Nat × Value)} {i : Nat} {v : Value} {z : Nat} {ex : Nat → Nat} {ls : Array Slot} {nL : Nat} (hl : lv_has ls nL (lv.map (qp z ex))) (h : qL lv i = some v) : ls[i]? = some (.val (qv z ex v)) := by
  obtain ⟨q, hq, rfl⟩ := Option.map_eq_some_iff.mp h
  have h1 : q.1 = i := by simpa using List.find?_some hq
  have h2 : q ∈ lv := List.mem_of_find?_eq_some hq
  have h3 := hl.2.2 (qp z ex q) (List.mem_map.mpr ⟨q, h2, rfl⟩)
  rw [← h1]
  exact h3
/-- a local of one word, of two words, is stored -/
def qS1 (lv : List (Nat × Value)) (i : Nat) (v : Value) : List (Nat × Value) := (i, v) :: lv.filter (fun q => !(q.1 == i) && !(q.1 + 1 == i && q.2.category == 2))
def qS2 (lv : List (Nat × Value)) (i : Nat) (v : Value) : List (Nat × Value) := (i, v) :: lv.filter (fun q => !(q.1 == i) && (!(q.1 == i + 1) && !(q.1 + 1 == i && q.2.category == 2)))
theorem qS1_map {lv : List (Nat × Value)} {i : Nat} {v : Value} {z : Nat} {ex : Nat → Nat} : (i, qv z ex v) :: (lv.map (qp z ex)).filter (fun q => !(q.1 == i) && !(q.1 + 1 == i && q.2.category == 2)) = (qS1 lv i v).map (qp z ex) := by
  simp only [qS1, List.map_cons, List.filter_map]
  congr 1
  congr 1
  apply List.filter_congr
  intro q _
  simp [qp, qv_cat]
theorem qS2_map {lv : List (Nat × Value)} {i : Nat} {v : Value} {z : Nat} {ex : Nat → Nat} : (i, qv z ex v) :: (lv.map (qp z ex)).filter (fun q => !(q.1 == i) && (!(q.1 == i + 1) && !(q.1 + 1 == i && q.2.category == 2))) = (qS2 lv i v).map (qp z ex) := by
  simp only [qS2, List.map_cons, List.filter_map]
  congr 1
  congr 1
  apply List.filter_congr
  intro q _
  simp [qp, qv_cat]
theorem qr_iload_n {j : Fin 4} {i : Nat} {x : Int32} (hd : decode (kcc K) pc = .ok (.iload_n j, 1)) (hi : (j : Nat) = i) (h : qL lv i = some (.int x)) (k : qR K E X (pc + 1) lv (.int x :: st) n kc ks f) : qR K E X pc lv st n kc ks f := by
  intro p e R s m args below meth c H locs ls Q z ex D D3 C hP hS hl hE
  exact lv_iload_n C.1 C.2.1 hd hi (qL_has hl h) (k p e R s m args below meth c H locs ls Q z ex D D3 C hP hS hl hE)
theorem qr_iload {i : Nat} {x : Int32} (hd : decode (kcc K) pc = .ok (.iload i, 2)) (h : qL lv i = some (.int x)) (k : qR K E X (pc + 2) lv (.int x :: st) n kc ks f) : qR K E X pc lv st n kc ks f := by
  intro p e R s m args below meth c H locs ls Q z ex D D3 C hP hS hl hE
  exact lv_iload C.1 C.2.1 hd (qL_has hl h) (k p e R s m args below meth c H locs ls Q z ex D D3 C hP hS hl hE)
theorem qr_istore_n {j : Fin 4} {i : Nat} {x : Int32} {lv' : List (Nat × Value)} (hd : decode (kcc K) pc = .ok (.istore_n j, 1)) (hi : (j : Nat) = i) (hn : i < knL K) (hlv : qS1 lv i (.int x) = lv') (k : qR K E X (pc + 1) lv' (st) n kc ks f) : qR K E X pc lv (.int x :: st) n kc ks f := by
  intro p e R s m args below meth c H locs ls Q z ex D D3 C hP hS hl hE
  subst hlv
  exact lv_istore_n C.1 C.2.1 hd hi hl hn (qS1_map (v := .int x)) (fun ls hl => k p e R s m args below meth c H locs ls Q z ex D D3 C hP hS hl hE)
theorem qr_istore {i : Nat} {x : Int32} {lv' : List (Nat × Value)} (hd : decode (kcc K) pc = .ok (.istore i, 2)) (hn : i < knL K) (hlv : qS1 lv i (.int x) = lv') (k : qR K E X (pc + 2) lv' (st) n kc ks f) : qR K E X pc lv (.int x :: st) n kc ks f := by
  intro p e R s m args below meth c H locs ls Q z ex D D3 C hP hS hl hE
  subst hlv
  exact lv_istore C.1 C.2.1 hd hl hn (qS1_map (v := .int x)) (fun ls hl => k p e R s m args below meth c H locs ls Q z ex D D3 C hP hS hl hE)
theorem qr_lload_n {j : Fin 4} {i : Nat} {x : Int64} (hd : decode (kcc K) pc = .ok (.lload_n j, 1)) (hi : (j : Nat) = i) (h : qL lv i = some (.long x)) (k : qR K E X (pc + 1) lv (.long x :: st) n kc ks f) : qR K E X pc lv st n kc ks f := by
  intro p e R s m args below meth c H locs ls Q z ex D D3 C hP hS hl hE
  exact lv_lload_n C.1 C.2.1 hd hi (qL_has hl h) (k p e R s m args below meth c H locs ls Q z ex D D3 C hP hS hl hE)
theorem qr_lload {i : Nat} {x : Int64} (hd : decode (kcc K) pc = .ok (.lload i, 2)) (h : qL lv i = some (.long x)) (k : qR K E X (pc + 2) lv (.long x :: st) n kc ks f) : qR K E X pc lv st n kc ks f := by
  intro p e R s m args below meth c H locs ls Q z ex D D3 C hP hS hl hE
  exact lv_lload C.1 C.2.1 hd (qL_has hl h) (k p e R s m args below meth c H locs ls Q z ex D D3 C hP hS hl hE)
theorem qr_lstore_n {j : Fin 4} {i : Nat} {x : Int64} {lv' : List (Nat × Value)} (hd : decode (kcc K) pc = .ok (.lstore_n j, 1)) (hi : (j : Nat) = i) (hn : i + 1 < knL K) (hlv : qS2 lv i (.long x) = lv') (k : qR K E X (pc + 1) lv' (st) n kc ks f) : qR K E X pc lv (.long x :: st) n kc ks f := by
  intro p e R s m args below meth c H locs ls Q z ex D D3 C hP hS hl hE
  subst hlv
  exact lv_lstore_n C.1 C.2.1 hd hi hl hn (qS2_map (v := .long x)) (fun ls hl => k p e R s m args below meth c H locs ls Q z ex D D3 C hP hS hl hE)
theorem qr_lstore {i : Nat} {x : Int64} {lv' : List (Nat × Value)} (hd : decode (kcc K) pc = .ok (.lstore i, 2)) (hn : i + 1 < knL K) (hlv : qS2 lv i (.long x) = lv') (k : qR K E X (pc + 2) lv' (st) n kc ks f) : qR K E X pc lv (.long x :: st) n kc ks f := by
  intro p e R s m args below meth c H locs ls Q z ex D D3 C hP hS hl hE
  subst hlv
  exact lv_lstore C.1 C.2.1 hd hl hn (qS2_map (v := .long x)) (fun ls hl => k p e R s m args below meth c H locs ls Q z ex D D3 C hP hS hl hE)
theorem qr_aload_n {j : Fin 4} {i : Nat} {x : Nat} (hd : decode (kcc K) pc = .ok (.aload_n j, 1)) (hi : (j : Nat) = i) (h : qL lv i = some (.ref x)) (k : qR K E X (pc + 1) lv (.ref x :: st) n kc ks f) : qR K E X pc lv st n kc ks f := by
  intro p e R s m args below meth c H locs ls Q z ex D D3 C hP hS hl hE
  exact lv_aload_n C.1 C.2.1 hd hi (qL_has hl h) (k p e R s m args below meth c H locs ls Q z ex D D3 C hP hS hl hE)
theorem qr_aload {i : Nat} {x : Nat} (hd : decode (kcc K) pc = .ok (.aload i, 2)) (h : qL lv i = some (.ref x)) (k : qR K E X (pc + 2) lv (.ref x :: st) n kc ks f) : qR K E X pc lv st n kc ks f := by
  intro p e R s m args below meth c H locs ls Q z ex D D3 C hP hS hl hE
  exact lv_aload C.1 C.2.1 hd (qL_has hl h) (k p e R s m args below meth c H locs ls Q z ex D D3 C hP hS hl hE)
theorem qr_astore_n {j : Fin 4} {i : Nat} {x : Nat} {lv' : List (Nat × Value)} (hd : decode (kcc K) pc = .ok (.astore_n j, 1)) (hi : (j : Nat) = i) (hn : i < knL K) (hlv : qS1 lv i (.ref x) = lv') (k : qR K E X (pc + 1) lv' (st) n kc ks f) : qR K E X pc lv (.ref x :: st) n kc ks f := by
  intro p e R s m args below meth c H locs ls Q z ex D D3 C hP hS hl hE
  subst hlv
  exact lv_astore_n C.1 C.2.1 hd hi hl hn (qS1_map (v := .ref x)) (fun ls hl => k p e R s m args below meth c H locs ls Q z ex D D3 C hP hS hl hE)
theorem qr_astore {i : Nat} {x : Nat} {lv' : List (Nat × Value)} (hd : decode (kcc K) pc = .ok (.astore i, 2)) (hn : i < knL K) (hlv : qS1 lv i (.ref x) = lv') (k : qR K E X (pc + 2) lv' (st) n kc ks f) : qR K E X pc lv (.ref x :: st) n kc ks f := by
  intro p e R s m args below meth c H locs ls Q z ex D D3 C hP hS hl hE
  subst hlv
  exact lv_astore C.1 C.2.1 hd hl hn (qS1_map (v := .ref x)) (fun ls hl => k p e R s m args below meth c H locs ls Q z ex D D3 C hP hS hl hE)
theorem qr_iinc {i : Nat} {j : Int} {x v : Int32} {lv' : List (Nat × Value)} (hd : decode (kcc K) pc = .ok (.iinc i j, 3)) (h : qL lv i = some (.int x)) (hv : x + Int32.ofInt j = v) (hn : i < knL K) (hlv : qS1 lv i (.int v) = lv') (k : qR K E X (pc + 3) lv' (st) n kc ks f) : qR K E X pc lv st n kc ks f := by
  intro p e R s m args below meth c H locs ls Q z ex D D3 C hP hS hl hE
  subst hlv
  obtain ⟨q, hq, hq2⟩ := Option.map_eq_some_iff.mp h
  have h1 : q.1 = i := by simpa using List.find?_some hq
  obtain ⟨kq, hkq⟩ := List.getElem?_of_mem (List.mem_of_find?_eq_some hq)
  have hk2 : (lv.map (qp z ex))[kq]? = some (i, .int x) := by
    rw [List.getElem?_map, hkq]
    obtain ⟨q1, q2⟩ := q
    cases h1; cases hq2
    rfl
  exact lv_iinc (v := v) C.1 C.2.1 hd hl hk2 hv hn (qS1_map (v := .int v)) (fun ls hl => k p e R s m args below meth c H locs ls Q z ex D D3 C hP hS hl hE)
theorem qr_iadd {x y : Int32} (hd : decode (kcc K) pc = .ok (.iadd, 1)) (k : qR K E X (pc + 1) lv (.int (x + y) :: st) n kc ks f) : qR K E X pc lv (.int y :: .int x :: st) n kc ks f := by
  intro p e R s m args below meth c H locs ls Q z ex D D3 C hP hS hl hE
  exact lv_iadd C.1 C.2.1 hd (k p e R s m args below meth c H locs ls Q z ex D D3 C hP hS hl hE)
theorem qr_isub {x y : Int32} (hd : decode (kcc K) pc = .ok (.isub, 1)) (k : qR K E X (pc + 1) lv (.int (x - y) :: st) n kc ks f) : qR K E X pc lv (.int y :: .int x :: st) n kc ks f := by
  intro p e R s m args below meth c H locs ls Q z ex D D3 C hP hS hl hE
  exact lv_isub C.1 C.2.1 hd (k p e R s m args below meth c H locs ls Q z ex D D3 C hP hS hl hE)
theorem qr_imul {x y : Int32} (hd : decode (kcc K) pc = .ok (.imul, 1)) (k : qR K E X (pc + 1) lv (.int (x * y) :: st) n kc ks f) : qR K E X pc lv (.int y :: .int x :: st) n kc ks f := by
  intro p e R s m args below meth c H locs ls Q z ex D D3 C hP hS hl hE
  exact lv_imul C.1 C.2.1 hd (k p e R s m args below meth c H locs ls Q z ex D D3 C hP hS hl hE)
theorem qr_iand {x y : Int32} (hd : decode (kcc K) pc = .ok (.iand, 1)) (k : qR K E X (pc + 1) lv (.int (x &&& y) :: st) n kc ks f) : qR K E X pc lv (.int y :: .int x :: st) n kc ks f := by
  intro p e R s m args below meth c H locs ls Q z ex D D3 C hP hS hl hE
  exact lv_iand C.1 C.2.1 hd (k p e R s m args below meth c H locs ls Q z ex D D3 C hP hS hl hE)
theorem qr_ior {x y : Int32} (hd : decode (kcc K) pc = .ok (.ior, 1)) (k : qR K E X (pc + 1) lv (.int (x ||| y) :: st) n kc ks f) : qR K E X pc lv (.int y :: .int x :: st) n kc ks f := by
  intro p e R s m args below meth c H locs ls Q z ex D D3 C hP hS hl hE
  exact lv_ior C.1 C.2.1 hd (k p e R s m args below meth c H locs ls Q z ex D D3 C hP hS hl hE)
theorem qr_ixor {x y : Int32} (hd : decode (kcc K) pc = .ok (.ixor, 1)) (k : qR K E X (pc + 1) lv (.int (x ^^^ y) :: st) n kc ks f) : qR K E X pc lv (.int y :: .int x :: st) n kc ks f := by
  intro p e R s m args below meth c H locs ls Q z ex D D3 C hP hS hl hE
  exact lv_ixor C.1 C.2.1 hd (k p e R s m args below meth c H locs ls Q z ex D D3 C hP hS hl hE)
theorem qr_ladd {x y : Int64} (hd : decode (kcc K) pc = .ok (.ladd, 1)) (k : qR K E X (pc + 1) lv (.long (x + y) :: st) n kc ks f) : qR K E X pc lv (.long y :: .long x :: st) n kc ks f := by
  intro p e R s m args below meth c H locs ls Q z ex D D3 C hP hS hl hE
  exact lv_ladd C.1 C.2.1 hd (k p e R s m args below meth c H locs ls Q z ex D D3 C hP hS hl hE)
theorem qr_lsub {x y : Int64} (hd : decode (kcc K) pc = .ok (.lsub, 1)) (k : qR K E X (pc + 1) lv (.long (x - y) :: st) n kc ks f) : qR K E X pc lv (.long y :: .long x :: st) n kc ks f := by
  intro p e R s m args below meth c H locs ls Q z ex D D3 C hP hS hl hE
  exact lv_lsub C.1 C.2.1 hd (k p e R s m args below meth c H locs ls Q z ex D D3 C hP hS hl hE)
theorem qr_lmul {x y : Int64} (hd : decode (kcc K) pc = .ok (.lmul, 1)) (k : qR K E X (pc + 1) lv (.long (x * y) :: st) n kc ks f) : qR K E X pc lv (.long y :: .long x :: st) n kc ks f := by
  intro p e R s m args below meth c H locs ls Q z ex D D3 C hP hS hl hE
  exact lv_lmul C.1 C.2.1 hd (k p e R s m args below meth c H locs ls Q z ex D D3 C hP hS hl hE)
theorem qr_land {x y : Int64} (hd : decode (kcc K) pc = .ok (.land, 1)) (k : qR K E X (pc + 1) lv (.long (x &&& y) :: st) n kc ks f) : qR K E X pc lv (.long y :: .long x :: st) n kc ks f := by
  intro p e R s m args below meth c H locs ls Q z ex D D3 C hP hS hl hE
  exact lv_land C.1 C.2.1 hd (k p e R s m args below meth c H locs ls Q z ex D D3 C hP hS hl hE)
theorem qr_lor {x y : Int64} (hd : decode (kcc K) pc = .ok (.lor, 1)) (k : qR K E X (pc + 1) lv (.long (x ||| y) :: st) n kc ks f) : qR K E X pc lv (.long y :: .long x :: st) n kc ks f := by
  intro p e R s m args below meth c H locs ls Q z ex D D3 C hP hS hl hE
  exact lv_lor C.1 C.2.1 hd (k p e R s m args below meth c H locs ls Q z ex D D3 C hP hS hl hE)
theorem qr_lxor {x y : Int64} (hd : decode (kcc K) pc = .ok (.lxor, 1)) (k : qR K E X (pc + 1) lv (.long (x ^^^ y) :: st) n kc ks f) : qR K E X pc lv (.long y :: .long x :: st) n kc ks f := by
  intro p e R s m args below meth c H locs ls Q z ex D D3 C hP hS hl hE
  exact lv_lxor C.1 C.2.1 hd (k p e R s m args below meth c H locs ls Q z ex D D3 C hP hS hl hE)
theorem qr_idiv {x y : Int32} (hd : decode (kcc K) pc = .ok (.idiv, 1)) (h0 : ¬ y = 0) (k : qR K E X (pc + 1) lv (.int (x / y) :: st) n kc ks f) : qR K E X pc lv (.int y :: .int x :: st) n kc ks f := by
  intro p e R s m args below meth c H locs ls Q z ex D D3 C hP hS hl hE
  exact lv_idiv C.1 C.2.1 hd h0 (k p e R s m args below meth c H locs ls Q z ex D D3 C hP hS hl hE)
theorem qr_ldiv {x y : Int64} (hd : decode (kcc K) pc = .ok (.ldiv, 1)) (h0 : ¬ y = 0) (k : qR K E X (pc + 1) lv (.long (x / y) :: st) n kc ks f) : qR K E X pc lv (.long y :: .long x :: st) n kc ks f := by
  intro p e R s m args below meth c H locs ls Q z ex D D3 C hP hS hl hE
  exact lv_ldiv C.1 C.2.1 hd h0 (k p e R s m args below meth c H locs ls Q z ex D D3 C hP hS hl hE)
theorem qr_irem {x y : Int32} (hd : decode (kcc K) pc = .ok (.irem, 1)) (h0 : ¬ y = 0) (k : qR K E X (pc + 1) lv (.int (x - x / y * y) :: st) n kc ks f) : qR K E X pc lv (.int y :: .int x :: st) n kc ks f := by
  intro p e R s m args below meth c H locs ls Q z ex D D3 C hP hS hl hE
  exact lv_irem C.1 C.2.1 hd h0 (k p e R s m args below meth c H locs ls Q z ex D D3 C hP hS hl hE)
theorem qr_lrem {x y : Int64} (hd : decode (kcc K) pc = .ok (.lrem, 1)) (h0 : ¬ y = 0) (k : qR K E X (pc + 1) lv (.long (x - x / y * y) :: st) n kc ks f) : qR K E X pc lv (.long y :: .long x :: st) n kc ks f := by
  intro p e R s m args below meth c H locs ls Q z ex D D3 C hP hS hl hE
  exact lv_lrem C.1 C.2.1 hd h0 (k p e R s m args below meth c H locs ls Q z ex D D3 C hP hS hl hE)
theorem qr_ineg {x : Int32} (hd : decode (kcc K) pc = .ok (.ineg, 1)) (k : qR K E X (pc + 1) lv (.int (-x) :: st) n kc ks f) : qR K E X pc lv (.int x :: st) n kc ks f := by
  intro p e R s m args below meth c H locs ls Q z ex D D3 C hP hS hl hE
  exact lv_ineg C.1 C.2.1 hd (k p e R s m args below meth c H locs ls Q z ex D D3 C hP hS hl hE)
theorem qr_lneg {x : Int64} (hd : decode (kcc K) pc = .ok (.lneg, 1)) (k : qR K E X (pc + 1) lv (.long (-x) :: st) n kc ks f) : qR K E X pc lv (.long x :: st) n kc ks f := by
  intro p e R s m args below meth c H locs ls Q z ex D D3 C hP hS hl hE
  exact lv_lneg C.1 C.2.1 hd (k p e R s m args below meth c H locs ls Q z ex D D3 C hP hS hl hE)
theorem qr_i2l {x : Int32} (hd : decode (kcc K) pc = .ok (.i2l, 1)) (k : qR K E X (pc + 1) lv (.long (x.toInt64) :: st) n kc ks f) : qR K E X pc lv (.int x :: st) n kc ks f := by
  intro p e R s m args below meth c H locs ls Q z ex D D3 C hP hS hl hE
  exact lv_i2l C.1 C.2.1 hd rfl (k p e R s m args below meth c H locs ls Q z ex D D3 C hP hS hl hE)
theorem qr_l2i {x : Int64} (hd : decode (kcc K) pc = .ok (.l2i, 1)) (k : qR K E X (pc + 1) lv (.int (x.toInt32) :: st) n kc ks f) : qR K E X pc lv (.long x :: st) n kc ks f := by
  intro p e R s m args below meth c H locs ls Q z ex D D3 C hP hS hl hE
  exact lv_l2i C.1 C.2.1 hd rfl (k p e R s m args below meth c H locs ls Q z ex D D3 C hP hS hl hE)
theorem qr_i2b {x : Int32} (hd : decode (kcc K) pc = .ok (.i2b, 1)) (k : qR K E X (pc + 1) lv (.int (x.toInt8.toInt32) :: st) n kc ks f) : qR K E X pc lv (.int x :: st) n kc ks f := by
  intro p e R s m args below meth c H locs ls Q z ex D D3 C hP hS hl hE
  exact lv_i2b C.1 C.2.1 hd rfl (k p e R s m args below meth c H locs ls Q z ex D D3 C hP hS hl hE)
theorem qr_i2c {x : Int32} (hd : decode (kcc K) pc = .ok (.i2c, 1)) (k : qR K E X (pc + 1) lv (.int ((x.toUInt32 % 65536).toInt32) :: st) n kc ks f) : qR K E X pc lv (.int x :: st) n kc ks f := by
  intro p e R s m args below meth c H locs ls Q z ex D D3 C hP hS hl hE
  exact lv_i2c C.1 C.2.1 hd rfl (k p e R s m args below meth c H locs ls Q z ex D D3 C hP hS hl hE)
theorem qr_lushr {x : Int64} {y : Int32} (hd : decode (kcc K) pc = .ok (.lushr, 1)) (k : qR K E X (pc + 1) lv (.long ((x.toUInt64 >>> (y.toInt64.toUInt64 &&& Int64.toUInt64 63)).toInt64) :: st) n kc ks f) : qR K E X pc lv (.int y :: .long x :: st) n kc ks f := by
  intro p e R s m args below meth c H locs ls Q z ex D D3 C hP hS hl hE
  exact lv_lushr C.1 C.2.1 hd rfl (k p e R s m args below meth c H locs ls Q z ex D D3 C hP hS hl hE)
theorem qr_lshl {x : Int64} {y : Int32} (hd : decode (kcc K) pc = .ok (.lshl, 1)) (k : qR K E X (pc + 1) lv (.long (x <<< (y.toInt64 &&& 63)) :: st) n kc ks f) : qR K E X pc lv (.int y :: .long x :: st) n kc ks f := by
  intro p e R s m args below meth c H locs ls Q z ex D D3 C hP hS hl hE
  exact lv_lshl C.1 C.2.1 hd rfl (k p e R s m args below meth c H locs ls Q z ex D D3 C hP hS hl hE)
theorem qr_ishr {x y : Int32} (hd : decode (kcc K) pc = .ok (.ishr, 1)) (k : qR K E X (pc + 1) lv (.int (x >>> (y &&& 31)) :: st) n kc ks f) : qR K E X pc lv (.int y :: .int x :: st) n kc ks f := by
  intro p e R s m args below meth c H locs ls Q z ex D D3 C hP hS hl hE
  exact lv_ishr C.1 C.2.1 hd (k p e R s m args below meth c H locs ls Q z ex D D3 C hP hS hl hE)
theorem qr_lcmp {x y : Int64} (hd : decode (kcc K) pc = .ok (.lcmp, 1)) (k : qR K E X (pc + 1) lv (.int (lg_cmp x y) :: st) n kc ks f) : qR K E X pc lv (.long y :: .long x :: st) n kc ks f := by
  intro p e R s m args below meth c H locs ls Q z ex D D3 C hP hS hl hE
  exact W.lcmp C.1 C.2.1 hd (k p e R s m args below meth c H locs ls Q z ex D D3 C hP hS hl hE)
theorem qr_dup {a : Value} (hd : decode (kcc K) pc = .ok (.dup, 1)) (ha : a.category = 1) (k : qR K E X (pc + 1) lv (a :: a :: st) n kc ks f) : qR K E X pc lv (a :: st) n kc ks f := by
  intro p e R s m args below meth c H locs ls Q z ex D D3 C hP hS hl hE
  exact lv_dup C.1 C.2.1 hd (by rw [qv_cat]; exact ha) (k p e R s m args below meth c H locs ls Q z ex D D3 C hP hS hl hE)
theorem qr_pop {a : Value} (hd : decode (kcc K) pc = .ok (.pop, 1)) (ha : a.category = 1) (k : qR K E X (pc + 1) lv (st) n kc ks f) : qR K E X pc lv (a :: st) n kc ks f := by
  intro p e R s m args below meth c H locs ls Q z ex D D3 C hP hS hl hE
  exact lv_pop C.1 C.2.1 hd (by rw [qv_cat]; exact ha) (k p e R s m args below meth c H locs ls Q z ex D D3 C hP hS hl hE)
theorem qr_dup2_11 {a b : Value} (hd : decode (kcc K) pc = .ok (.dup2, 1)) (ha : a.category = 1) (hb : b.category = 1) (k : qR K E X (pc + 1) lv (a :: b :: a :: b :: st) n kc ks f) : qR K E X pc lv (a :: b :: st) n kc ks f := by
  intro p e R s m args below meth c H locs ls Q z ex D D3 C hP hS hl hE
  exact lv_dup2_11 C.1 C.2.1 hd (by rw [qv_cat]; exact ha) (by rw [qv_cat]; exact hb) (k p e R s m args below meth c H locs ls Q z ex D D3 C hP hS hl hE)
theorem qr_dup2_2 {a : Value} (hd : decode (kcc K) pc = .ok (.dup2, 1)) (ha : a.category = 2) (k : qR K E X (pc + 1) lv (a :: a :: st) n kc ks f) : qR K E X pc lv (a :: st) n kc ks f := by
  intro p e R s m args below meth c H locs ls Q z ex D D3 C hP hS hl hE
  exact lv_dup2_2 C.1 C.2.1 hd (by rw [qv_cat]; exact ha) (k p e R s m args below meth c H locs ls Q z ex D D3 C hP hS hl hE)
theorem qr_dup_x1 {a b : Value} (hd : decode (kcc K) pc = .ok (.dup_x1, 1)) (ha : a.category = 1) (hb : b.category = 1) (k : qR K E X (pc + 1) lv (a :: b :: a :: st) n kc ks f) : qR K E X pc lv (a :: b :: st) n kc ks f := by
  intro p e R s m args below meth c H locs ls Q z ex D D3 C hP hS hl hE
  exact lv_dup_x1 C.1 C.2.1 hd (by rw [qv_cat]; exact ha) (by rw [qv_cat]; exact hb) (k p e R s m args below meth c H locs ls Q z ex D D3 C hP hS hl hE)
theorem qr_dup_x2 {a b d : Value} (hd : decode (kcc K) pc = .ok (.dup_x2, 1)) (ha : a.category = 1) (hb : b.category = 1) (hc : d.category = 1) (k : qR K E X (pc + 1) lv (a :: b :: d :: a :: st) n kc ks f) : qR K E X pc lv (a :: b :: d :: st) n kc ks f := by
  intro p e R s m args below meth c H locs ls Q z ex D D3 C hP hS hl hE
  exact lv_dup_x2 C.1 C.2.1 hd (by rw [qv_cat]; exact ha) (by rw [qv_cat]; exact hb) (by rw [qv_cat]; exact hc) (k p e R s m args below meth c H locs ls Q z ex D D3 C hP hS hl hE)
theorem qr_dup2_x1_2 {a b : Value} (hd : decode (kcc K) pc = .ok (.dup2_x1, 1)) (ha : a.category = 2) (hb : b.category = 1) (k : qR K E X (pc + 1) lv (a :: b :: a :: st) n kc ks f) : qR K E X pc lv (a :: b :: st) n kc ks f := by
  intro p e R s m args below meth c H locs ls Q z ex D D3 C hP hS hl hE
  exact lv_dup2_x1_2 C.1 C.2.1 hd (by rw [qv_cat]; exact ha) (by rw [qv_cat]; exact hb) (k p e R s m args below meth c H locs ls Q z ex D D3 C hP hS hl hE)
theorem qr_dup2_x2_2 {a b d : Value} (hd : decode (kcc K) pc = .ok (.dup2_x2, 1)) (ha : a.category = 2) (hb : b.category = 1) (hc : d.category = 1) (k : qR K E X (pc + 1) lv (a :: b :: d :: a :: st) n kc ks f) : qR K E X pc lv (a :: b :: d :: st) n kc ks f := by
  intro p e R s m args below meth c H locs ls Q z ex D D3 C hP hS hl hE
  exact lv_dup2_x2_2 C.1 C.2.1 hd (by rw [qv_cat]; exact ha) (by rw [qv_cat]; exact hb) (by rw [qv_cat]; exact hc) (k p e R s m args below meth c H locs ls Q z ex D D3 C hP hS hl hE)
theorem qr_goto {off : Int} {tgt : Nat} (hd : decode (kcc K) pc = .ok (.goto off, 3)) (ht : (pc : Int) + off = (tgt : Int)) (k : qR K E X (tgt) lv (st) n kc ks f) : qR K E X pc lv st n kc ks f := by
  intro p e R s m args below meth c H locs ls Q z ex D D3 C hP hS hl hE
  exact lv_goto C.1 C.2.1 hd ht (k p e R s m args below meth c H locs ls Q z ex D D3 C hP hS hl hE)
theorem qr_if_eq {x : Int32} {off : Int} {tgt : Nat} (hd : decode (kcc K) pc = .ok (.ifCond .eq off, 3)) (ht : (pc : Int) + off = (tgt : Int)) (kt : x = 0 → qR K E X tgt lv st n kc ks f) (kf : ¬ x = 0 → qR K E X (pc + 3) lv st n kc ks f) : qR K E X pc lv (.int x :: st) n kc ks f := by
  intro p e R s m args below meth c H locs ls Q z ex D D3 C hP hS hl hE
  exact lv_if_eq C.1 C.2.1 hd ht (fun h => kt h p e R s m args below meth c H locs ls Q z ex D D3 C hP hS hl hE) (fun h => kf h p e R s m args below meth c H locs ls Q z ex D D3 C hP hS hl hE)
theorem qr_icmp_eq {x y : Int32} {off : Int} {tgt : Nat} (hd : decode (kcc K) pc = .ok (.if_icmp .eq off, 3)) (ht : (pc : Int) + off = (tgt : Int)) (kt : x = y → qR K E X tgt lv st n kc ks f) (kf : ¬ x = y → qR K E X (pc + 3) lv st n kc ks f) : qR K E X pc lv (.int y :: .int x :: st) n kc ks f := by
  intro p e R s m args below meth c H locs ls Q z ex D D3 C hP hS hl hE
  exact lv_icmp_eq C.1 C.2.1 hd ht (fun h => kt h p e R s m args below meth c H locs ls Q z ex D D3 C hP hS hl hE) (fun h => kf h p e R s m args below meth c H locs ls Q z ex D D3 C hP hS hl hE)
theorem qr_if_ne {x : Int32} {off : Int} {tgt : Nat} (hd : decode (kcc K) pc = .ok (.ifCond .ne off, 3)) (ht : (pc : Int) + off = (tgt : Int)) (kt : ¬ x = 0 → qR K E X tgt lv st n kc ks f) (kf : x = 0 → qR K E X (pc + 3) lv st n kc ks f) : qR K E X pc lv (.int x :: st) n kc ks f := by
  intro p e R s m args below meth c H locs ls Q z ex D D3 C hP hS hl hE
  exact lv_if_ne C.1 C.2.1 hd ht (fun h => kt h p e R s m args below meth c H locs ls Q z ex D D3 C hP hS hl hE) (fun h => kf h p e R s m args below meth c H locs ls Q z ex D D3 C hP hS hl hE)
theorem qr_icmp_ne {x y : Int32} {off : Int} {tgt : Nat} (hd : decode (kcc K) pc = .ok (.if_icmp .ne off, 3)) (ht : (pc : Int) + off = (tgt : Int)) (kt : ¬ x = y → qR K E X tgt lv st n kc ks f) (kf : x = y → qR K E X (pc + 3) lv st n kc ks f) : qR K E X pc lv (.int y :: .int x :: st) n kc ks f := by
  intro p e R s m args below meth c H locs ls Q z ex D D3 C hP hS hl hE
  exact lv_icmp_ne C.1 C.2.1 hd ht (fun h => kt h p e R s m args below meth c H locs ls Q z ex D D3 C hP hS hl hE) (fun h => kf h p e R s m args below meth c H locs ls Q z ex D D3 C hP hS hl hE)
theorem qr_if_lt {x : Int32} {off : Int} {tgt : Nat} (hd : decode (kcc K) pc = .ok (.ifCond .lt off, 3)) (ht : (pc : Int) + off = (tgt : Int)) (kt : x < 0 → qR K E X tgt lv st n kc ks f) (kf : ¬ x < 0 → qR K E X (pc + 3) lv st n kc ks f) : qR K E X pc lv (.int x :: st) n kc ks f := by
  intro p e R s m args below meth c H locs ls Q z ex D D3 C hP hS hl hE
  exact lv_if_lt C.1 C.2.1 hd ht (fun h => kt h p e R s m args below meth c H locs ls Q z ex D D3 C hP hS hl hE) (fun h => kf h p e R s m args below meth c H locs ls Q z ex D D3 C hP hS hl hE)
theorem qr_icmp_lt {x y : Int32} {off : Int} {tgt : Nat} (hd : decode (kcc K) pc = .ok (.if_icmp .lt off, 3)) (ht : (pc : Int) + off = (tgt : Int)) (kt : x < y → qR K E X tgt lv st n kc ks f) (kf : ¬ x < y → qR K E X (pc + 3) lv st n kc ks f) : qR K E X pc lv (.int y :: .int x :: st) n kc ks f := by
  intro p e R s m args below meth c H locs ls Q z ex D D3 C hP hS hl hE
  exact lv_icmp_lt C.1 C.2.1 hd ht (fun h => kt h p e R s m args below meth c H locs ls Q z ex D D3 C hP hS hl hE) (fun h => kf h p e R s m args below meth c H locs ls Q z ex D D3 C hP hS hl hE)
theorem qr_if_ge {x : Int32} {off : Int} {tgt : Nat} (hd : decode (kcc K) pc = .ok (.ifCond .ge off, 3)) (ht : (pc : Int) + off = (tgt : Int)) (kt : 0 ≤ x → qR K E X tgt lv st n kc ks f) (kf : ¬ 0 ≤ x → qR K E X (pc + 3) lv st n kc ks f) : qR K E X pc lv (.int x :: st) n kc ks f := by
  intro p e R s m args below meth c H locs ls Q z ex D D3 C hP hS hl hE
  exact lv_if_ge C.1 C.2.1 hd ht (fun h => kt h p e R s m args below meth c H locs ls Q z ex D D3 C hP hS hl hE) (fun h => kf h p e R s m args below meth c H locs ls Q z ex D D3 C hP hS hl hE)
theorem qr_icmp_ge {x y : Int32} {off : Int} {tgt : Nat} (hd : decode (kcc K) pc = .ok (.if_icmp .ge off, 3)) (ht : (pc : Int) + off = (tgt : Int)) (kt : y ≤ x → qR K E X tgt lv st n kc ks f) (kf : ¬ y ≤ x → qR K E X (pc + 3) lv st n kc ks f) : qR K E X pc lv (.int y :: .int x :: st) n kc ks f := by
  intro p e R s m args below meth c H locs ls Q z ex D D3 C hP hS hl hE
  exact lv_icmp_ge C.1 C.2.1 hd ht (fun h => kt h p e R s m args below meth c H locs ls Q z ex D D3 C hP hS hl hE) (fun h => kf h p e R s m args below meth c H locs ls Q z ex D D3 C hP hS hl hE)
theorem qr_if_gt {x : Int32} {off : Int} {tgt : Nat} (hd : decode (kcc K) pc = .ok (.ifCond .gt off, 3)) (ht : (pc : Int) + off = (tgt : Int)) (kt : 0 < x → qR K E X tgt lv st n kc ks f) (kf : ¬ 0 < x → qR K E X (pc + 3) lv st n kc ks f) : qR K E X pc lv (.int x :: st) n kc ks f := by
  intro p e R s m args below meth c H locs ls Q z ex D D3 C hP hS hl hE
  exact lv_if_gt C.1 C.2.1 hd ht (fun h => kt h p e R s m args below meth c H locs ls Q z ex D D3 C hP hS hl hE) (fun h => kf h p e R s m args below meth c H locs ls Q z ex D D3 C hP hS hl hE)
theorem qr_icmp_gt {x y : Int32} {off : Int} {tgt : Nat} (hd : decode (kcc K) pc = .ok (.if_icmp .gt off, 3)) (ht : (pc : Int) + off = (tgt : Int)) (kt : y < x → qR K E X tgt lv st n kc ks f) (kf : ¬ y < x → qR K E X (pc + 3) lv st n kc ks f) : qR K E X pc lv (.int y :: .int x :: st) n kc ks f := by
  intro p e R s m args below meth c H locs ls Q z ex D D3 C hP hS hl hE
  exact lv_icmp_gt C.1 C.2.1 hd ht (fun h => kt h p e R s m args below meth c H locs ls Q z ex D D3 C hP hS hl hE) (fun h => kf h p e R s m args below meth c H locs ls Q z ex D D3 C hP hS hl hE)
theorem qr_if_le {x : Int32} {off : Int} {tgt : Nat} (hd : decode (kcc K) pc = .ok (.ifCond .le off, 3)) (ht : (pc : Int) + off = (tgt : Int)) (kt : x ≤ 0 → qR K E X tgt lv st n kc ks f) (kf : ¬ x ≤ 0 → qR K E X (pc + 3) lv st n kc ks f) : qR K E X pc lv (.int x :: st) n kc ks f := by
  intro p e R s m args below meth c H locs ls Q z ex D D3 C hP hS hl hE
  exact lv_if_le C.1 C.2.1 hd ht (fun h => kt h p e R s m args below meth c H locs ls Q z ex D D3 C hP hS hl hE) (fun h => kf h p e R s m args below meth c H locs ls Q z ex D D3 C hP hS hl hE)
theorem qr_icmp_le {x y : Int32} {off : Int} {tgt : Nat} (hd : decode (kcc K) pc = .ok (.if_icmp .le off, 3)) (ht : (pc : Int) + off = (tgt : Int)) (kt : x ≤ y → qR K E X tgt lv st n kc ks f) (kf : ¬ x ≤ y → qR K E X (pc + 3) lv st n kc ks f) : qR K E X pc lv (.int y :: .int x :: st) n kc ks f := by
  intro p e R s m args below meth c H locs ls Q z ex D D3 C hP hS hl hE
  exact lv_icmp_le C.1 C.2.1 hd ht (fun h => kt h p e R s m args below meth c H locs ls Q z ex D D3 C hP hS hl hE) (fun h => kf h p e R s m args below meth c H locs ls Q z ex D D3 C hP hS hl hE)
theorem qr_tableOut {dflt lo hi : Int} {offs : Array Int} {len : Nat} {x : Int32} {tgt : Nat} (hd : decode (kcc K) pc = .ok (.tableswitch dflt lo hi offs, len)) (h : x.toInt < lo ∨ hi < x.toInt) (ht : (pc : Int) + dflt = (tgt : Int)) (k : qR K E X (tgt) lv (st) n kc ks f) : qR K E X pc lv (.int x :: st) n kc ks f := by
  intro p e R s m args below meth c H locs ls Q z ex D D3 C hP hS hl hE
  exact lv_tableOut C.1 C.2.1 hd h ht (k p e R s m args below meth c H locs ls Q z ex D D3 C hP hS hl hE)
theorem qr_tableIn {dflt lo hi : Int} {offs : Array Int} {len : Nat} {x : Int32} {off : Int} {tgt : Nat} (hd : decode (kcc K) pc = .ok (.tableswitch dflt lo hi offs, len)) (h1 : ¬ x.toInt < lo) (h2 : ¬ hi < x.toInt) (ho : offs[(x.toInt - lo).toNat]? = some off) (ht : (pc : Int) + off = (tgt : Int)) (k : qR K E X (tgt) lv (st) n kc ks f) : qR K E X pc lv (.int x :: st) n kc ks f := by
  intro p e R s m args below meth c H locs ls Q z ex D D3 C hP hS hl hE
  exact lv_tableIn C.1 C.2.1 hd h1 h2 ho ht (k p e R s m args below meth c H locs ls Q z ex D D3 C hP hS hl hE)
theorem qr_lookup {dflt : Int} {ps : Array (Int × Int)} {len : Nat} {x : Int32} {off : Int} {tgt : Nat} (hd : decode (kcc K) pc = .ok (.lookupswitch dflt ps, len)) (hp : (ps.toList.zip (ps.toList.drop 1)).all (fun (a, next) => a.1 < next.1) = true) (ho : Op.lookupswitch.offset ps.toList dflt x.toInt = off) (ht : (pc : Int) + off = (tgt : Int)) (k : qR K E X (tgt) lv (st) n kc ks f) : qR K E X pc lv (.int x :: st) n kc ks f := by
  intro p e R s m args below meth c H locs ls Q z ex D D3 C hP hS hl hE
  exact lv_lookup C.1 C.2.1 hd hp ho ht (k p e R s m args below meth c H locs ls Q z ex D D3 C hP hS hl hE)
end QR
end
section
/-! fields, arrays, Math, contracts, calls -/
/-- the field at pool place idx of the class own: field j of the objects of class ci -/
def qFl (own : String) (idx ci j : Nat) (ty : FieldType) (fin : Bool) : Prop := ∃ (C : String) (T : u_T) (N : Nat) (ty0 : Nat → FieldType), qC[ci]? = some (C, T, N) ∧ (∀ w ∈ u_ws C T N, w ∈ qg) ∧ (∀ k, k < N → parseFieldDescriptor (T k).2.2.1 = some (ty0 k)) ∧ (∀ a, a < N → ∀ b, b < N → a ≠ b → (T a).2.1 ≠ (T b).2.1) ∧ j < N ∧ Cond.fieldLink own idx (T j).1 (T j).2.1 (T j).2.2.1 ∈ qg ∧ (T j).2.2.2 = fin ∧ parseFieldDescriptor (T j).2.2.1 = some ty ∧ (T j).1 = C
/-- the value may lie in a field of that type as it is -/
def qFit (ty : FieldType) (v : Value) : Prop := ∀ z ex, narrow ty (qv z ex v) = qv z ex v ∧ fits ty (qv z ex v) = true
section QF
variable {K : qK} {E : qE} {X : qXC} {pc : Nat} {lv : List (Nat × Value)} {st : List Value} {n kc ks : Nat} {f f' : Nat → va_E}
theorem qe_obj {z : Nat} {ex : Nat → Nat} {D3 : Nat → ClassId} {n q ci : Nat} {f : Nat → va_E} {fs : List Value} (hq : q < n) (hq5 : q < 77) (hf : f q = .inr (ci, fs)) : (qw z ex D3 n f)[q]? = some (z + q, .inr (ci, fs.map (qv z ex))) := by
  rw [qw_at hq hq5, hf]
  rfl
theorem qe_arr {z : Nat} {ex : Nat → Nat} {D3 : Nat → ClassId} {n q t : Nat} {f : Nat → va_E} {a : vp_A} (hq : q < n) (hq5 : q < 77) (hf : f q = .inl (t, a)) : (qw z ex D3 n f)[q]? = some (z + q, .inl (D3 t, qarr z ex a)) := by
  rw [qw_at hq hq5, hf]
  rfl
theorem qr_get {idx ci j q : Nat} {ty : FieldType} {fin : Bool} {fs : List Value} {v : Value} (hd : decode (kcc K) pc = .ok (.getfield idx, 3)) (hF : qFl (kown K) idx ci j ty fin) (hq : q < n) (hq5 : q < 77) (hf : f q = .inr (ci, fs)) (hv : fs[j]? = some v) (k : qR K E X (pc + 3) lv (v :: st) n kc ks f) : qR K E X pc lv (.ref q :: st) n kc ks f := by
  intro p e R s m args below meth c H locs ls Q z ex D D3 C hP hS hl hE
  obtain ⟨Cn, T, N, ty0, hc, hin, -, -, hj, hw, -, -, -⟩ := hF
  show W _ _ _ _ _ _ _ _ _ _ _ _ _ _ _ (F0 m pc ls (.ref (qa z ex _) :: st.map (qv z ex)))
  rw [qa_lt hq5]
  exact va_get (v := qv z ex v) C.1 C.2.1 C.2.2.2.2.1 hin C.2.2.2.1 C.2.2.2.2.2.2.1 hP _ (qe_obj hq hq5 hf) hc j hj (C.2.2.2.2.1 _ hw) (fun _ h => h) (by rw [List.getElem?_map, hv]; rfl) hd (k p e R s m args below meth c H locs ls Q z ex D D3 C hP hS hl hE)
theorem qr_put {idx ci j q : Nat} {ty : FieldType} {fs : List Value} {v : Value} (hd : decode (kcc K) pc = .ok (.putfield idx, 3)) (hF : qFl (kown K) idx ci j ty false) (hq : q < n) (hq5 : q < 77) (hf : f q = .inr (ci, fs)) (hl2 : j < fs.length) (hv : qFit ty v) (hf' : va_up f q (.inr (ci, fs.set j v)) = f') (k : qR K E X (pc + 3) lv st n kc ks f') : qR K E X pc lv (v :: .ref q :: st) n kc ks f := by
  intro p e R s m args below meth c H locs ls Q z ex D D3 C hP hS hl hE
  obtain ⟨Cn, T, N, ty0, hc, hin, hty, hnm, hj, hw, hfin, hd2, hdc⟩ := hF
  show W _ _ _ _ _ _ _ _ _ _ _ _ _ _ _ (F0 m pc ls (qv z ex v :: .ref (qa z ex _) :: st.map (qv z ex)))
  rw [qa_lt hq5]
  refine va_put (v := qv z ex v) C.1 C.2.1 C.2.2.2.2.1 hin ty0 hty hnm C.2.2.2.1 C.2.2.2.2.2.2.1 hP (qw_D z ex D3 n f) hS _ (qe_obj hq hq5 hf) hc j hj (C.2.2.2.2.1 _ hw) (fun _ h => h) hfin hd2 (hv z ex).1 (hv z ex).2 (by rw [List.length_map]; exact hl2) hd (fun H1 locs1 hP1 hD1 hS1 => ?_)
  have e1 : (Sum.inr (ci, (fs.map (qv z ex)).set j (qv z ex v)) : va_E) = qe z ex D3 (.inr (ci, fs.set j v)) := by
    show (Sum.inr (ci, (fs.map (qv z ex)).set j (qv z ex v)) : va_E) = .inr (ci, (fs.set j v).map (qv z ex))
    rw [List.map_set]
  rw [e1, qw_set, hf'] at hP1
  exact k p e R s m args below meth c H1 locs1 ls Q z ex D D3 C hP1 hS1 hl hE
theorem qr_putF {idx ci j q : Nat} {ty : FieldType} {fs : List Value} {v : Value} (hd : decode (kcc K) pc = .ok (.putfield idx, 3)) (hF : qFl (kown K) idx ci j ty true) {T9 : u_T} {N9 : Nat} (hini : kini K = true ∧ qC[ci]? = some (kown K, T9, N9)) (hq : q < n) (hq5 : q < 77) (hf : f q = .inr (ci, fs)) (hl2 : j < fs.length) (hv : qFit ty v) (hf' : va_up f q (.inr (ci, fs.set j v)) = f') (k : qR K E X (pc + 3) lv st n kc ks f') : qR K E X pc lv (v :: .ref q :: st) n kc ks f := by
  intro p e R s m args below meth c H locs ls Q z ex D D3 C hP hS hl hE
  obtain ⟨Cn, T, N, ty0, hc, hin, hty, hnm, hj, hw, hfin, hd2, hdc⟩ := hF
  show W _ _ _ _ _ _ _ _ _ _ _ _ _ _ _ (F0 m pc ls (qv z ex v :: .ref (qa z ex _) :: st.map (qv z ex)))
  rw [qa_lt hq5]
  refine va_putF (v := qv z ex v) C.1 C.2.1 C.2.2.2.2.1 hin ty0 hty hnm C.2.2.2.1 C.2.2.2.2.2.2.1 hP (qw_D z ex D3 n f) hS _ (qe_obj hq hq5 hf) hc j hj (C.2.2.2.2.1 _ hw) (fun _ h => h) hfin (C.2.2.2.2.2.1 hini.1) (hdc.trans (congrArg Prod.fst (Option.some.inj (hc.symm.trans hini.2)))) hd2 (hv z ex).1 (hv z ex).2 (by rw [List.length_map]; exact hl2) hd (fun H1 locs1 hP1 hD1 hS1 => ?_)
  have e1 : (Sum.inr (ci, (fs.map (qv z ex)).set j (qv z ex v)) : va_E) = qe z ex D3 (.inr (ci, fs.set j v)) := by
    show (Sum.inr (ci, (fs.map (qv z ex)).set j (qv z ex v)) : va_E) = .inr (ci, (fs.set j v).map (qv z ex))
    rw [List.map_set]
  rw [e1, qw_set, hf'] at hP1
  exact k p e R s m args below meth c H1 locs1 ls Q z ex D D3 C hP1 hS1 hl hE
theorem qr_iald {q len : Nat} {i : Int32} {g : Nat → Int32} (hd : decode (kcc K) pc = .ok (.iaload, 1)) (hq : q < n) (hq5 : q < 77) (hf : f q = .inl (0, len, .inl g)) (hi : vp_in i len) (k : qR K E X (pc + 1) lv (.int (g i.toNatClampNeg) :: st) n kc ks f) : qR K E X pc lv (.int i :: .ref q :: st) n kc ks f := by
  intro p e R s m args below meth c H locs ls Q z ex D D3 C hP hS hl hE
  show W _ _ _ _ _ _ _ _ _ _ _ _ _ _ _ (F0 m pc ls (.int i :: .ref (qa z ex _) :: st.map (qv z ex)))
  rw [qa_lt hq5]
  exact va_iald C.1 C.2.1 C.2.2.2.2.2.2.1 hP q 0 (qe_arr hq hq5 hf) (qtys_at rfl) hi hd (k p e R s m args below meth c H locs ls Q z ex D D3 C hP hS hl hE)
theorem qr_ialdN {q len j : Nat} {g : Nat → Int32} (hd : decode (kcc K) pc = .ok (.iaload, 1)) (hq : q < n) (hq5 : q < 77) (hf : f q = .inl (0, len, .inl g)) (hj : j < len) (hlen : len < 2 ^ 31) (k : qR K E X (pc + 1) lv (.int (g j) :: st) n kc ks f) : qR K E X pc lv (.int (nI j) :: .ref q :: st) n kc ks f :=
  qr_iald hd hq hq5 hf (vp_in_nI hj hlen) (by rw [nI_clamp (Nat.lt_trans hj hlen)]; exact k)
theorem qr_lald {q len : Nat} {i : Int32} {g : Nat → Int64} (hd : decode (kcc K) pc = .ok (.laload, 1)) (hq : q < n) (hq5 : q < 77) (hf : f q = .inl (1, len, .inr (.inl g))) (hi : vp_in i len) (k : qR K E X (pc + 1) lv (.long (g i.toNatClampNeg) :: st) n kc ks f) : qR K E X pc lv (.int i :: .ref q :: st) n kc ks f := by
  intro p e R s m args below meth c H locs ls Q z ex D D3 C hP hS hl hE
  show W _ _ _ _ _ _ _ _ _ _ _ _ _ _ _ (F0 m pc ls (.int i :: .ref (qa z ex _) :: st.map (qv z ex)))
  rw [qa_lt hq5]
  exact va_lald C.1 C.2.1 C.2.2.2.2.2.2.1 hP q 1 (qe_arr hq hq5 hf) (qtys_at rfl) hi hd (k p e R s m args below meth c H locs ls Q z ex D D3 C hP hS hl hE)
theorem qr_laldN {q len j : Nat} {g : Nat → Int64} (hd : decode (kcc K) pc = .ok (.laload, 1)) (hq : q < n) (hq5 : q < 77) (hf : f q = .inl (1, len, .inr (.inl g))) (hj : j < len) (hlen : len < 2 ^ 31) (k : qR K E X (pc + 1) lv (.long (g j) :: st) n kc ks f) : qR K E X pc lv (.int (nI j) :: .ref q :: st) n kc ks f :=
  qr_lald hd hq hq5 hf (vp_in_nI hj hlen) (by rw [nI_clamp (Nat.lt_trans hj hlen)]; exact k)
theorem qr_cald {q len : Nat} {i : Int32} {g : Nat → Int32} (hd : decode (kcc K) pc = .ok (.caload, 1)) (hq : q < n) (hq5 : q < 77) (hf : f q = .inl (2, len, .inl g)) (hi : vp_in i len) (k : qR K E X (pc + 1) lv (.int (g i.toNatClampNeg) :: st) n kc ks f) : qR K E X pc lv (.int i :: .ref q :: st) n kc ks f := by
  intro p e R s m args below meth c H locs ls Q z ex D D3 C hP hS hl hE
  show W _ _ _ _ _ _ _ _ _ _ _ _ _ _ _ (F0 m pc ls (.int i :: .ref (qa z ex _) :: st.map (qv z ex)))
  rw [qa_lt hq5]
  exact va_cald C.1 C.2.1 C.2.2.2.2.2.2.1 hP q 2 (qe_arr hq hq5 hf) (qtys_at rfl) hi hd (k p e R s m args below meth c H locs ls Q z ex D D3 C hP hS hl hE)
theorem qr_caldN {q len j : Nat} {g : Nat → Int32} (hd : decode (kcc K) pc = .ok (.caload, 1)) (hq : q < n) (hq5 : q < 77) (hf : f q = .inl (2, len, .inl g)) (hj : j < len) (hlen : len < 2 ^ 31) (k : qR K E X (pc + 1) lv (.int (g j) :: st) n kc ks f) : qR K E X pc lv (.int (nI j) :: .ref q :: st) n kc ks f :=
  qr_cald hd hq hq5 hf (vp_in_nI hj hlen) (by rw [nI_clamp (Nat.lt_trans hj hlen)]; exact k)
theorem qr_zald {q len : Nat} {i : Int32} {g : Nat → Int32} (hd : decode (kcc K) pc = .ok (.baload, 1)) (hq : q < n) (hq5 : q < 77) (hf : f q = .inl (3, len, .inl g)) (hi : vp_in i len) (k : qR K E X (pc + 1) lv (.int (g i.toNatClampNeg) :: st) n kc ks f) : qR K E X pc lv (.int i :: .ref q :: st) n kc ks f := by
  intro p e R s m args below meth c H locs ls Q z ex D D3 C hP hS hl hE
  show W _ _ _ _ _ _ _ _ _ _ _ _ _ _ _ (F0 m pc ls (.int i :: .ref (qa z ex _) :: st.map (qv z ex)))
  rw [qa_lt hq5]
  exact va_zald C.1 C.2.1 C.2.2.2.2.2.2.1 hP q 3 (qe_arr hq hq5 hf) (qtys_at rfl) hi hd (k p e R s m args below meth c H locs ls Q z ex D D3 C hP hS hl hE)
theorem qr_zaldN {q len j : Nat} {g : Nat → Int32} (hd : decode (kcc K) pc = .ok (.baload, 1)) (hq : q < n) (hq5 : q < 77) (hf : f q = .inl (3, len, .inl g)) (hj : j < len) (hlen : len < 2 ^ 31) (k : qR K E X (pc + 1) lv (.int (g j) :: st) n kc ks f) : qR K E X pc lv (.int (nI j) :: .ref q :: st) n kc ks f :=
  qr_zald hd hq hq5 hf (vp_in_nI hj hlen) (by rw [nI_clamp (Nat.lt_trans hj hlen)]; exact k)
theorem qr_bald {q len : Nat} {i : Int32} {g : Nat → Int32} (hd : decode (kcc K) pc = .ok (.baload, 1)) (hq : q < n) (hq5 : q < 77) (hf : f q = .inl (4, len, .inl g)) (hi : vp_in i len) (k : qR K E X (pc + 1) lv (.int (g i.toNatClampNeg) :: st) n kc ks f) : qR K E X pc lv (.int i :: .ref q :: st) n kc ks f := by
  intro p e R s m args below meth c H locs ls Q z ex D D3 C hP hS hl hE
  show W _ _ _ _ _ _ _ _ _ _ _ _ _ _ _ (F0 m pc ls (.int i :: .ref (qa z ex _) :: st.map (qv z ex)))
  rw [qa_lt hq5]
  exact va_bald C.1 C.2.1 C.2.2.2.2.2.2.1 hP q 4 (qe_arr hq hq5 hf) (qtys_at rfl) hi hd (k p e R s m args below meth c H locs ls Q z ex D D3 C hP hS hl hE)
theorem qr_baldN {q len j : Nat} {g : Nat → Int32} (hd : decode (kcc K) pc = .ok (.baload, 1)) (hq : q < n) (hq5 : q < 77) (hf : f q = .inl (4, len, .inl g)) (hj : j < len) (hlen : len < 2 ^ 31) (k : qR K E X (pc + 1) lv (.int (g j) :: st) n kc ks f) : qR K E X pc lv (.int (nI j) :: .ref q :: st) n kc ks f :=
  qr_bald hd hq hq5 hf (vp_in_nI hj hlen) (by rw [nI_clamp (Nat.lt_trans hj hlen)]; exact k)
theorem qr_aald {q len t : Nat} {i : Int32} {Cn : String} {g : Nat → Option Nat} {w : Nat} (hd : decode (kcc K) pc = .ok (.aaload, 1)) (hq : q < n) (hq5 : q < 77) (hf : f q = .inl (t, len, .inr (.inr (.inr (.inr g))))) (ht : qT[t]? = some (.object Cn)) (hi : vp_in i len) (hg : g i.toNatClampNeg = some w) (k : qR K E X (pc + 1) lv (.ref w :: st) n kc ks f) : qR K E X pc lv (.int i :: .ref q :: st) n kc ks f := by
  intro p e R s m args below meth c H locs ls Q z ex D D3 C hP hS hl hE
  show W _ _ _ _ _ _ _ _ _ _ _ _ _ _ _ (F0 m pc ls (.int i :: .ref (qa z ex _) :: st.map (qv z ex)))
  rw [qa_lt hq5]
  refine va_aldq C.1 C.2.1 C.2.2.2.2.2.2.1 hP q t (qe_arr hq hq5 hf) (qtys_at ht) hi hd ?_
  show W _ _ _ _ _ _ _ _ _ _ _ _ _ _ _ (F0 m (pc + 1) ls (va_rf ((g i.toNatClampNeg).map (qa z ex)) :: st.map (qv z ex)))
  rw [hg]
  exact k p e R s m args below meth c H locs ls Q z ex D D3 C hP hS hl hE
theorem qr_alen {q t : Nat} {a : vp_A} {v : Int32} {ty : FieldType} (hd : decode (kcc K) pc = .ok (.arraylength, 1)) (hq : q < n) (hq5 : q < 77) (hf : f q = .inl (t, a)) (ht : qT[t]? = some ty) (hv : Int32.ofNat a.1 = v) (k : qR K E X (pc + 1) lv (.int v :: st) n kc ks f) : qR K E X pc lv (.ref q :: st) n kc ks f := by
  intro p e R s m args below meth c H locs ls Q z ex D D3 C hP hS hl hE
  show W _ _ _ _ _ _ _ _ _ _ _ _ _ _ _ (F0 m pc ls (.ref (qa z ex _) :: st.map (qv z ex)))
  rw [qa_lt hq5]
  exact va_alen C.1 C.2.1 C.2.2.2.2.2.2.1 hP q t (qe_arr hq hq5 hf) (qtys_at ht) (v := v) (by
    obtain ⟨a1, a2⟩ := a
    rcases a2 with g | g | g | g | g <;> exact hv) hd (k p e R s m args below meth c H locs ls Q z ex D D3 C hP hS hl hE)
theorem qr_iast {q len : Nat} {i : Int32} {x : Int32} {g : Nat → Int32} (hd : decode (kcc K) pc = .ok (.iastore, 1)) (hq : q < n) (hq5 : q < 77) (hf : f q = .inl (0, len, .inl g)) (hi : vp_in i len) (hf' : va_up f q (.inl (0, len, .inl (upd g i.toNatClampNeg x))) = f') (k : qR K E X (pc + 1) lv st n kc ks f') : qR K E X pc lv (.int x :: .int i :: .ref q :: st) n kc ks f := by
  intro p e R s m args below meth c H locs ls Q z ex D D3 C hP hS hl hE
  show W _ _ _ _ _ _ _ _ _ _ _ _ _ _ _ (F0 m pc ls (.int x :: .int i :: .ref (qa z ex _) :: st.map (qv z ex)))
  rw [qa_lt hq5]
  refine va_iast C.1 C.2.1 C.2.2.2.2.2.2.1 hP (qw_D z ex D3 n f) hS q 0 (qe_arr hq hq5 hf) (qtys_at rfl) hi hd (fun H1 locs1 hP1 hD1 hS1 => ?_)
  have hP2 : va_P D qC ((qw z ex D3 n f).set q (z + q, qe z ex D3 (.inl (0, len, .inl (upd g i.toNatClampNeg x))))) H1 := hP1
  rw [qw_set, hf'] at hP2
  exact k p e R s m args below meth c H1 locs1 ls Q z ex D D3 C hP2 hS1 hl hE
theorem qr_iastN {q len j : Nat} {x : Int32} {g : Nat → Int32} (hd : decode (kcc K) pc = .ok (.iastore, 1)) (hq : q < n) (hq5 : q < 77) (hf : f q = .inl (0, len, .inl g)) (hj : j < len) (hlen : len < 2 ^ 31) (hf' : va_up f q (.inl (0, len, .inl (upd g j x))) = f') (k : qR K E X (pc + 1) lv st n kc ks f') : qR K E X pc lv (.int x :: .int (nI j) :: .ref q :: st) n kc ks f :=
  qr_iast hd hq hq5 hf (vp_in_nI hj hlen) (by rw [nI_clamp (Nat.lt_trans hj hlen)]; exact hf') k
theorem qr_last {q len : Nat} {i : Int32} {x : Int64} {g : Nat → Int64} (hd : decode (kcc K) pc = .ok (.lastore, 1)) (hq : q < n) (hq5 : q < 77) (hf : f q = .inl (1, len, .inr (.inl g))) (hi : vp_in i len) (hf' : va_up f q (.inl (1, len, .inr (.inl (vp_updL g i.toNatClampNeg x)))) = f') (k : qR K E X (pc + 1) lv st n kc ks f') : qR K E X pc lv (.long x :: .int i :: .ref q :: st) n kc ks f := by
  intro p e R s m args below meth c H locs ls Q z ex D D3 C hP hS hl hE
  show W _ _ _ _ _ _ _ _ _ _ _ _ _ _ _ (F0 m pc ls (.long x :: .int i :: .ref (qa z ex _) :: st.map (qv z ex)))
  rw [qa_lt hq5]
  refine va_last C.1 C.2.1 C.2.2.2.2.2.2.1 hP (qw_D z ex D3 n f) hS q 1 (qe_arr hq hq5 hf) (qtys_at rfl) hi hd (fun H1 locs1 hP1 hD1 hS1 => ?_)
  have hP2 : va_P D qC ((qw z ex D3 n f).set q (z + q, qe z ex D3 (.inl (1, len, .inr (.inl (vp_updL g i.toNatClampNeg x)))))) H1 := hP1
  rw [qw_set, hf'] at hP2
  exact k p e R s m args below meth c H1 locs1 ls Q z ex D D3 C hP2 hS1 hl hE
theorem qr_lastN {q len j : Nat} {x : Int64} {g : Nat → Int64} (hd : decode (kcc K) pc = .ok (.lastore, 1)) (hq : q < n) (hq5 : q < 77) (hf : f q = .inl (1, len, .inr (.inl g))) (hj : j < len) (hlen : len < 2 ^ 31) (hf' : va_up f q (.inl (1, len, .inr (.inl (vp_updL g j x)))) = f') (k : qR K E X (pc + 1) lv st n kc ks f') : qR K E X pc lv (.long x :: .int (nI j) :: .ref q :: st) n kc ks f :=
  qr_last hd hq hq5 hf (vp_in_nI hj hlen) (by rw [nI_clamp (Nat.lt_trans hj hlen)]; exact hf') k
theorem qr_cast {q len : Nat} {i : Int32} {x : Int32} {g : Nat → Int32} (hd : decode (kcc K) pc = .ok (.castore, 1)) (hq : q < n) (hq5 : q < 77) (hf : f q = .inl (2, len, .inl g)) (hi : vp_in i len) (hf' : va_up f q (.inl (2, len, .inl (upd g i.toNatClampNeg (vp_nar .char x)))) = f') (k : qR K E X (pc + 1) lv st n kc ks f') : qR K E X pc lv (.int x :: .int i :: .ref q :: st) n kc ks f := by
  intro p e R s m args below meth c H locs ls Q z ex D D3 C hP hS hl hE
  show W _ _ _ _ _ _ _ _ _ _ _ _ _ _ _ (F0 m pc ls (.int x :: .int i :: .ref (qa z ex _) :: st.map (qv z ex)))
  rw [qa_lt hq5]
  refine va_cast C.1 C.2.1 C.2.2.2.2.2.2.1 hP (qw_D z ex D3 n f) hS q 2 (qe_arr hq hq5 hf) (qtys_at rfl) hi hd (fun H1 locs1 hP1 hD1 hS1 => ?_)
  have hP2 : va_P D qC ((qw z ex D3 n f).set q (z + q, qe z ex D3 (.inl (2, len, .inl (upd g i.toNatClampNeg (vp_nar .char x)))))) H1 := hP1
  rw [qw_set, hf'] at hP2
  exact k p e R s m args below meth c H1 locs1 ls Q z ex D D3 C hP2 hS1 hl hE
theorem qr_castN {q len j : Nat} {x : Int32} {g : Nat → Int32} (hd : decode (kcc K) pc = .ok (.castore, 1)) (hq : q < n) (hq5 : q < 77) (hf : f q = .inl (2, len, .inl g)) (hj : j < len) (hlen : len < 2 ^ 31) (hf' : va_up f q (.inl (2, len, .inl (upd g j (vp_nar .char x)))) = f') (k : qR K E X (pc + 1) lv st n kc ks f') : qR K E X pc lv (.int x :: .int (nI j) :: .ref q :: st) n kc ks f :=
  qr_cast hd hq hq5 hf (vp_in_nI hj hlen) (by rw [nI_clamp (Nat.lt_trans hj hlen)]; exact hf') k
theorem qr_zast {q len : Nat} {i : Int32} {x : Int32} {g : Nat → Int32} (hd : decode (kcc K) pc = .ok (.bastore, 1)) (hq : q < n) (hq5 : q < 77) (hf : f q = .inl (3, len, .inl g)) (hi : vp_in i len) (hf' : va_up f q (.inl (3, len, .inl (upd g i.toNatClampNeg (vp_nar .boolean x)))) = f') (k : qR K E X (pc + 1) lv st n kc ks f') : qR K E X pc lv (.int x :: .int i :: .ref q :: st) n kc ks f := by
  intro p e R s m args below meth c H locs ls Q z ex D D3 C hP hS hl hE
  show W _ _ _ _ _ _ _ _ _ _ _ _ _ _ _ (F0 m pc ls (.int x :: .int i :: .ref (qa z ex _) :: st.map (qv z ex)))
  rw [qa_lt hq5]
  refine va_zast C.1 C.2.1 C.2.2.2.2.2.2.1 hP (qw_D z ex D3 n f) hS q 3 (qe_arr hq hq5 hf) (qtys_at rfl) hi hd (fun H1 locs1 hP1 hD1 hS1 => ?_)
  have hP2 : va_P D qC ((qw z ex D3 n f).set q (z + q, qe z ex D3 (.inl (3, len, .inl (upd g i.toNatClampNeg (vp_nar .boolean x)))))) H1 := hP1
  rw [qw_set, hf'] at hP2
  exact k p e R s m args below meth c H1 locs1 ls Q z ex D D3 C hP2 hS1 hl hE
theorem qr_zastN {q len j : Nat} {x : Int32} {g : Nat → Int32} (hd : decode (kcc K) pc = .ok (.bastore, 1)) (hq : q < n) (hq5 : q < 77) (hf : f q = .inl (3, len, .inl g)) (hj : j < len) (hlen : len < 2 ^ 31) (hf' : va_up f q (.inl (3, len, .inl (upd g j (vp_nar .boolean x)))) = f') (k : qR K E X (pc + 1) lv st n kc ks f') : qR K E X pc lv (.int x :: .int (nI j) :: .ref q :: st) n kc ks f :=
  qr_zast hd hq hq5 hf (vp_in_nI hj hlen) (by rw [nI_clamp (Nat.lt_trans hj hlen)]; exact hf') k
theorem qr_bast {q len : Nat} {i : Int32} {x : Int32} {g : Nat → Int32} (hd : decode (kcc K) pc = .ok (.bastore, 1)) (hq : q < n) (hq5 : q < 77) (hf : f q = .inl (4, len, .inl g)) (hi : vp_in i len) (hf' : va_up f q (.inl (4, len, .inl (upd g i.toNatClampNeg (vp_nar .byte x)))) = f') (k : qR K E X (pc + 1) lv st n kc ks f') : qR K E X pc lv (.int x :: .int i :: .ref q :: st) n kc ks f := by
  intro p e R s m args below meth c H locs ls Q z ex D D3 C hP hS hl hE
  show W _ _ _ _ _ _ _ _ _ _ _ _ _ _ _ (F0 m pc ls (.int x :: .int i :: .ref (qa z ex _) :: st.map (qv z ex)))
  rw [qa_lt hq5]
  refine va_bast C.1 C.2.1 C.2.2.2.2.2.2.1 hP (qw_D z ex D3 n f) hS q 4 (qe_arr hq hq5 hf) (qtys_at rfl) hi hd (fun H1 locs1 hP1 hD1 hS1 => ?_)
  have hP2 : va_P D qC ((qw z ex D3 n f).set q (z + q, qe z ex D3 (.inl (4, len, .inl (upd g i.toNatClampNeg (vp_nar .byte x)))))) H1 := hP1
  rw [qw_set, hf'] at hP2
  exact k p e R s m args below meth c H1 locs1 ls Q z ex D D3 C hP2 hS1 hl hE
theorem qr_bastN {q len j : Nat} {x : Int32} {g : Nat → Int32} (hd : decode (kcc K) pc = .ok (.bastore, 1)) (hq : q < n) (hq5 : q < 77) (hf : f q = .inl (4, len, .inl g)) (hj : j < len) (hlen : len < 2 ^ 31) (hf' : va_up f q (.inl (4, len, .inl (upd g j (vp_nar .byte x)))) = f') (k : qR K E X (pc + 1) lv st n kc ks f') : qR K E X pc lv (.int x :: .int (nI j) :: .ref q :: st) n kc ks f :=
  qr_bast hd hq hq5 hf (vp_in_nI hj hlen) (by rw [nI_clamp (Nat.lt_trans hj hlen)]; exact hf') k
def qmmax (x y : Int32) : Int32 := if x < y then y else x
theorem qr_mmax {idx : Nat} {x y : Int32} (hd : decode (kcc K) pc = .ok (.invokestatic idx, 3)) (h1 : Cond.methodLink (kown K) idx Lib.Math.max.name ∈ qg) (h2 : Cond.static Lib.Math.max.name ∈ qg) (h3 : Cond.initialized "java/lang/Math" ∈ qg) (h4 : Cond.code Lib.Math.max.name Lib.Math.max.code 2 (some .int) ∈ qg) (hdep : 1 ≤ kd K) (hrm : (st.map fun v => v.category).sum ≤ 8) (hkc : kc ≤ kmc K) (hks : ks ≤ kms K) (k : qR K E X (pc + 3) lv (.int (qmmax x y) :: st) n kc ks f) : qR K E X pc lv (.int y :: .int x :: st) n kc ks f := by
  intro p e R s m args below meth c H locs ls Q z ex D D3 C hP hS hl hE
  have hr : ((st.map (qv z ex)).map fun v => v.category).sum = (st.map fun v => v.category).sum := by
    rw [List.map_map]
    congr 1
    exact List.map_congr_left (fun v _ => qv_cat z ex v)
  have hR : R = qrm (kd K) (kmc K) (kms K) := C.2.2.2.2.2.2.2.2.1
  exact va_mmax C.1 C.2.1 (C.2.2.1.trans hl.1.symm) C.2.2.2.1 (C.2.2.2.2.1 _ h1) (C.2.2.2.2.1 _ h2) (C.2.2.2.2.1 _ h3) (C.2.2.2.2.1 _ h4) (by rw [hR]; exact hdep) (by rw [hr, hR]; show _ + 13 ≤ 34 * kd K + 12; omega) (by rw [hR]; exact hkc) (by rw [hR]; exact hks) hd (k p e R s m args below meth c H locs ls Q z ex D D3 C hP hS hl hE)
def qmmin (x y : Int32) : Int32 := if y < x then y else x
theorem qr_mmin {idx : Nat} {x y : Int32} (hd : decode (kcc K) pc = .ok (.invokestatic idx, 3)) (h1 : Cond.methodLink (kown K) idx Lib.Math.min.name ∈ qg) (h2 : Cond.static Lib.Math.min.name ∈ qg) (h3 : Cond.initialized "java/lang/Math" ∈ qg) (h4 : Cond.code Lib.Math.min.name Lib.Math.min.code 2 (some .int) ∈ qg) (hdep : 1 ≤ kd K) (hrm : (st.map fun v => v.category).sum ≤ 8) (hkc : kc ≤ kmc K) (hks : ks ≤ kms K) (k : qR K E X (pc + 3) lv (.int (qmmin x y) :: st) n kc ks f) : qR K E X pc lv (.int y :: .int x :: st) n kc ks f := by
  intro p e R s m args below meth c H locs ls Q z ex D D3 C hP hS hl hE
  have hr : ((st.map (qv z ex)).map fun v => v.category).sum = (st.map fun v => v.category).sum := by
    rw [List.map_map]
    congr 1
    exact List.map_congr_left (fun v _ => qv_cat z ex v)
  have hR : R = qrm (kd K) (kmc K) (kms K) := C.2.2.2.2.2.2.2.2.1
  exact va_mmin C.1 C.2.1 (C.2.2.1.trans hl.1.symm) C.2.2.2.1 (C.2.2.2.2.1 _ h1) (C.2.2.2.2.1 _ h2) (C.2.2.2.2.1 _ h3) (C.2.2.2.2.1 _ h4) (by rw [hR]; exact hdep) (by rw [hr, hR]; show _ + 13 ≤ 34 * kd K + 12; omega) (by rw [hR]; exact hkc) (by rw [hR]; exact hks) hd (k p e R s m args below meth c H locs ls Q z ex D D3 C hP hS hl hE)
def qmmaxl (x y : Int64) : Int64 := if y < x then x else y
theorem qr_mmaxl {idx : Nat} {x y : Int64} (hd : decode (kcc K) pc = .ok (.invokestatic idx, 3)) (h1 : Cond.methodLink (kown K) idx Lib.MathLoose.max_long.x ∈ qg) (h2 : Cond.static Lib.MathLoose.max_long.x ∈ qg) (h3 : Cond.initialized "java/lang/Math" ∈ qg) (h4 : Cond.code Lib.MathLoose.max_long.x Lib.MathLoose.max_long.code 4 (some .long) ∈ qg) (hdep : 1 ≤ kd K) (hrm : (st.map fun v => v.category).sum ≤ 8) (hkc : kc ≤ kmc K) (hks : ks ≤ kms K) (k : qR K E X (pc + 3) lv (.long (qmmaxl x y) :: st) n kc ks f) : qR K E X pc lv (.long y :: .long x :: st) n kc ks f := by
  intro p e R s m args below meth c H locs ls Q z ex D D3 C hP hS hl hE
  have hr : ((st.map (qv z ex)).map fun v => v.category).sum = (st.map fun v => v.category).sum := by
    rw [List.map_map]
    congr 1
    exact List.map_congr_left (fun v _ => qv_cat z ex v)
  have hR : R = qrm (kd K) (kmc K) (kms K) := C.2.2.2.2.2.2.2.2.1
  exact va_mmax_long C.1 C.2.1 (C.2.2.1.trans hl.1.symm) C.2.2.2.1 (C.2.2.2.2.1 _ h1) (C.2.2.2.2.1 _ h2) (C.2.2.2.2.1 _ h3) (C.2.2.2.2.1 _ h4) (by rw [hR]; exact hdep) (by rw [hr, hR]; show _ + 15 ≤ 34 * kd K + 12; omega) (by rw [hR]; exact hkc) (by rw [hR]; exact hks) hd (k p e R s m args below meth c H locs ls Q z ex D D3 C hP hS hl hE)
def qmminl (x y : Int64) : Int64 := if y < x then y else x
theorem qr_mminl {idx : Nat} {x y : Int64} (hd : decode (kcc K) pc = .ok (.invokestatic idx, 3)) (h1 : Cond.methodLink (kown K) idx Lib.MathLoose.min_long.x ∈ qg) (h2 : Cond.static Lib.MathLoose.min_long.x ∈ qg) (h3 : Cond.initialized "java/lang/Math" ∈ qg) (h4 : Cond.code Lib.MathLoose.min_long.x Lib.MathLoose.min_long.code 4 (some .long) ∈ qg) (hdep : 1 ≤ kd K) (hrm : (st.map fun v => v.category).sum ≤ 8) (hkc : kc ≤ kmc K) (hks : ks ≤ kms K) (k : qR K E X (pc + 3) lv (.long (qmminl x y) :: st) n kc ks f) : qR K E X pc lv (.long y :: .long x :: st) n kc ks f := by
  intro p e R s m args below meth c H locs ls Q z ex D D3 C hP hS hl hE
  have hr : ((st.map (qv z ex)).map fun v => v.category).sum = (st.map fun v => v.category).sum := by
    rw [List.map_map]
    congr 1
    exact List.map_congr_left (fun v _ => qv_cat z ex v)
  have hR : R = qrm (kd K) (kmc K) (kms K) := C.2.2.2.2.2.2.2.2.1
  exact va_mmin_long C.1 C.2.1 (C.2.2.1.trans hl.1.symm) C.2.2.2.1 (C.2.2.2.2.1 _ h1) (C.2.2.2.2.1 _ h2) (C.2.2.2.2.1 _ h3) (C.2.2.2.2.1 _ h4) (by rw [hR]; exact hdep) (by rw [hr, hR]; show _ + 15 ≤ 34 * kd K + 12; omega) (by rw [hR]; exact hkc) (by rw [hR]; exact hks) hd (k p e R s m args below meth c H locs ls Q z ex D D3 C hP hS hl hE)
theorem qr_vret (hd : decode (kcc K) pc = .ok (.return_, 1)) (hr : kret K = none) (hE0 : E none n f) (hkc : kc ≤ kmc K) (hks : ks ≤ kms K) : qR K E X pc lv [] n kc ks f := by
  intro p e R s m args below meth c H locs ls Q z ex D D3 C hP hS hl hE
  exact hE.1 none n kc ks f H locs pc ls hE0 hkc hks hP hS ⟨hr, hd⟩
theorem qr_iret {v : Int32} {ty : FieldType} (hd : decode (kcc K) pc = .ok (.ireturn, 1)) (hr : kret K = some ty) (hn : narrow ty (.int v) = .int v) (hE0 : E (some (.int v)) n f) (hkc : kc ≤ kmc K) (hks : ks ≤ kms K) : qR K E X pc lv [.int v] n kc ks f := by
  intro p e R s m args below meth c H locs ls Q z ex D D3 C hP hS hl hE
  exact hE.1 (some (.int v)) n kc ks f H locs pc ls hE0 hkc hks hP hS ⟨⟨ty, hr, hn⟩, hd⟩
theorem qr_lret {v : Int64} (hd : decode (kcc K) pc = .ok (.lreturn, 1)) (hr : kret K = some .long) (hE0 : E (some (.long v)) n f) (hkc : kc ≤ kmc K) (hks : ks ≤ kms K) : qR K E X pc lv [.long v] n kc ks f := by
  intro p e R s m args below meth c H locs ls Q z ex D D3 C hP hS hl hE
  exact hE.1 (some (.long v)) n kc ks f H locs pc ls hE0 hkc hks hP hS ⟨hr, hd⟩
theorem qr_aret {v : Nat} {rt : FieldType} (hd : decode (kcc K) pc = .ok (.areturn, 1)) (hr : kret K = some rt) (ho : (∃ n, rt = .object n) ∨ ∃ t, rt = .array t) (hE0 : E (some (.ref v)) n f) (hkc : kc ≤ kmc K) (hks : ks ≤ kms K) : qR K E X pc lv [.ref v] n kc ks f := by
  intro p e R s m args below meth c H locs ls Q z ex D D3 C hP hS hl hE
  exact hE.1 (some (.ref v)) n kc ks f H locs pc ls hE0 hkc hks hP hS ⟨⟨rt, hr, ho⟩, hd⟩
theorem qr_throw {En : String} (ht : qThrow (kown K) (kcc K) pc En) (hrm : (st.map fun v => v.category).sum ≤ 8) (hX : X En n f) (hkc : kc + 1 ≤ kmc K) (hks : ks + 6 ≤ kms K) : qR K E X pc lv st n kc ks f := by
  intro p e R s m args below meth c H locs ls Q z ex D D3 C hP hS hl hE
  have hr : ((st.map (qv z ex)).map fun v => v.category).sum = (st.map fun v => v.category).sum := by
    rw [List.map_map]
    congr 1
    exact List.map_congr_left (fun v _ => qv_cat z ex v)
  exact hE.2 En n kc ks f H locs pc ls _ hX hkc hks hP hS hl.1 (by rw [hr]; exact hrm) ht
theorem qr_obj {idx : Nat} {q : Nat} (hd : decode (kcc K) pc = .ok (.invokespecial idx, 3)) (h1 : Cond.methodLink (kown K) idx Lib.objectInit ∈ qg) (h2 : Cond.instanceMethod Lib.objectInit ∈ qg) (h3 : Cond.code Lib.objectInit ⟨#[0xb1]⟩ 1 none ∈ qg) (hdep : 1 ≤ kd K) (hrm : (st.map fun v => v.category).sum ≤ 8) (k : qR K E X (pc + 3) lv st n kc ks f) : qR K E X pc lv (.ref q :: st) n kc ks f := by
  intro p e R s m args below meth c H locs ls Q z ex D D3 C hP hS hl hE
  have hr : ((st.map (qv z ex)).map fun v => v.category).sum = (st.map fun v => v.category).sum := by
    rw [List.map_map]
    congr 1
    exact List.map_congr_left (fun v _ => qv_cat z ex v)
  have hR : R = qrm (kd K) (kmc K) (kms K) := C.2.2.2.2.2.2.2.2.1
  refine W.objInit C.1 C.2.1 C.2.2.2.1 (C.2.2.2.2.1 _ h1) (C.2.2.2.2.1 _ h2) (C.2.2.2.2.1 _ h3) rfl (hl.1.trans C.2.2.1.symm) rfl hd (by rw [hR]; exact hdep) (by rw [hR]; have := lv_room (m := m) (pc := pc) (ls := ls) (rest := (Value.ref q :: st).map (qv z ex)) (st := st.map (qv z ex)) (by rw [hr]; exact hrm); show _ ≤ 34 * kd K + 12; omega) ?_
  exact W.eq (g2 := F0 m (pc + 3) ls (st.map (qv z ex))) rfl (k p e R s m args below meth c H locs ls Q z ex D D3 C hP hS hl hE)
end QF
end
section
/-! contracts, calls, new cells -/
/-- behind a method: its answer and the world -/
def qO (z : Nat) (ex : Nat → Nat) (D : va_G) (D3 : Nat → ClassId) (E : qE) : Array Value → State → Outcome → State → Prop := fun _ st oc t =>
  (∃ (v : Option Value) (n : Nat) (f : Nat → va_E), oc = .returned (v.map (qv z ex)) ∧ E v n f ∧ va_P D qC (qw z ex D3 n f) t.heap) ∧ va_F (qA z) st t
/-- a method that returns: from the world n, f with the arguments As; E says its answer and the world behind it -/
def qSp (l : Launch) (y : MethodName) (cc : ByteArray) (nL : Nat) (ret : Option FieldType) (x : Bool) (d mc ms : Nat) (As : List Value) (n : Nat) (f : Nat → va_E) (E : qE) : Prop :=
  ∀ (z : Nat) (ex : Nat → Nat) (D : va_G) (D3 : Nat → ClassId), Met l y (Cond.code y cc nL ret :: qg) (qrm d mc ms) (va_Pc (As.map (qv z ex)) (qW z ex D D3 x n f)) (qO z ex D D3 E) mc ms (qA z)
theorem q_args (z : Nat) (ex : Nat → Nat) : ∀ (As : List Value) (i : Nat), lv_args i (As.map (qv z ex)) = (lv_args i As).map (qp z ex)
  | [], _ => rfl
  | v :: vs, i => by
    simp only [List.map_cons, lv_args, qv_cat]
    rw [q_args z ex vs]
    rfl
theorem q_sl (z : Nat) (ex : Nat → Nat) : ∀ (As : List Value), (lg_sl (As.map (qv z ex))).length = (lg_sl As).length
  | [] => rfl
  | v :: vs => by
    have h := q_sl z ex vs
    unfold lg_sl at h ⊢
    rw [List.map_cons, List.flatMap_cons, List.flatMap_cons, List.length_append, List.length_append, h, qv_cat]
    split <;> rfl
/-- the two ends of a method that only returns -/
theorem q_ends {K : qK} {E : qE} {p : Program} {e : Env} {R : Room} {s : State} {m : MethodId} {args : Array Value} {below : List Frame} {meth : Method} {c : Code} {z : Nat} {ex : Nat → Nat} {D : va_G} {D3 : Nat → ClassId}
    (hx : p.tables.exec = Jvm.exec) (hb : c.code = kcc K) (hr : meth.sig.returnType = kret K) (hlocks : meth.locks = false) :
    qEnd K E (fun _ _ _ => False) p e R s m args below meth c (MQ below (qO z ex D D3 E) args s (kmc K) (kms K) (qA z)) z ex D D3 := by
  refine ⟨fun v n kc ks f H locs pc ls hE hkc hks hP hS hret => ?_, fun En n kc ks f H locs pc ls rest hX => hX.elim⟩
  have hq : ∀ t : State, t.heap = H → s.WarmedH t.vm → qO z ex D D3 E args s (.returned (v.map (qv z ex))) t := fun t ht hW => ⟨⟨v, n, f, rfl, hE, by rw [ht]; exact hP⟩, hS.F ht⟩
  refine W.widen (k := kmc K) (n := kms K) hkc hks ?_
  match v, hret, hq with
  | none, hret, hq => exact W.vret hx hb (hr.trans hret.1) hq hS.2.2 hret.2
  | some (.int i), hret, hq =>
    obtain ⟨⟨ty, h1, h2⟩, h3⟩ := hret
    exact W.zret hx hb (hr.trans h1) h2 hq hS.2.2 h3
  | some (.long i), hret, hq => exact W.lret hx hb (hr.trans hret.1) hq hS.2.2 hret.2
  | some (.ref i), hret, hq =>
    obtain ⟨⟨rt, h1, h2⟩, h3⟩ := hret
    exact W.aret hx hb (hr.trans h1) h2 (Or.inr ⟨_, rfl⟩) hq hS.2.2 h3
/-- a contract out of the walk of its body -/
theorem qSp_of {l : Launch} {y : MethodName} {cc : ByteArray} {nL : Nat} {ret : Option FieldType} {ini x : Bool} {d mc ms n : Nat} {As : List Value} {f : Nat → va_E} {E : qE} (hy : plainName y.cls = true) (hini : ini = true → y.name = "<init>") (hlen : (lg_sl As).length ≤ nL)
    (k : qR (l, y.cls, cc, nL, ret, ini, x, d, mc, ms, n, q0) E (fun _ _ _ => False) 0 (lv_args 0 As) [] n 0 0 f) : qSp l y cc nL ret x d mc ms As n f E := by
  intro z ex D D3
  refine Met.ofW (cc := cc) (maxL := nL) (ret := ret) hy rfl ?_
  intro p e s m args below meth c s₁ B hml hv
  obtain ⟨rfl, hP, hK, hx, hX⟩ := hv
  have hts := atoms_spec (ws := Cond.code y cc nL ret :: qg) B.pre
  have hown : s.vm.findClass y.cls = some m.cls := findClass_of_methodNamed B.named
  have hl := lv_entry (As.map (qv z ex)) (n := nL) (by rw [q_sl]; exact hlen)
  rw [lg_entry_eq]
  generalize (lg_sl (As.map (qv z ex)) ++ List.replicate (nL - (lg_sl (As.map (qv z ex))).length) Slot.unset).toArray = ls at hl ⊢
  rw [q_args] at hl
  exact k p e _ s m _ below meth c s.heap [] ls _ z ex D D3 ⟨B.exec, B.bytes, hml, hown, fun w h => hts w (List.mem_cons_of_mem _ h), fun h => (name_of_methodNamed B.named B.method).1.trans (hini h), hK, hX, rfl, hx, trivial⟩ hP va_S.rf hl (q_ends B.exec B.bytes B.returns B.notSynchronized)
/-- what links a call: the pool's place idx of the class own names y, with these bytes, na arguments -/
def qLk (own : String) (idx : Nat) (y : MethodName) (cc : ByteArray) (nL : Nat) (ret : Option FieldType) (na : Nat) : Prop :=
  Cond.methodLink own idx y ∈ qg ∧ Cond.initialized y.cls ∈ qg ∧ Cond.code y cc nL ret ∈ qg ∧ y.cls ≠ "java/lang/invoke/MethodHandle" ∧ y.cls ≠ "java/lang/invoke/VarHandle" ∧ (parseMethodDescriptor y.desc).map (fun d => d.parameters.length) = some na
theorem qg_GoodIn {w : Cond} (h : w ∈ qg) : GoodIn qg (w :: qg) := fun v hv => by
  rcases List.mem_cons.mp hv with rfl | hv
  · exact ⟨h, good_of_word (qg_good _ h)⟩
  · exact ⟨hv, good_of_word (qg_good _ hv)⟩
section QC
variable {K : qK} {E E' : qE} {X : qXC} {pc : Nat} {lv : List (Nat × Value)} {st stk : List Value} {n kc ks : Nat} {f f' : Nat → va_E}
variable {y : MethodName} {cc : ByteArray} {nL : Nat} {ret : Option FieldType} {x : Bool} {d mc ms na idx q : Nat} {As : List Value}
theorem q_cat (z : Nat) (ex : Nat → Nat) (st : List Value) : ((st.map (qv z ex)).map fun v => v.category).sum = (st.map fun v => v.category).sum := by
  rw [List.map_map]
  congr 1
  exact List.map_congr_left (fun v _ => qv_cat z ex v)
/-- the callee's start does not look at the frames -/
theorem q_blind {z : Nat} {ex : Nat → Nat} {D : va_G} {D3 : Nat → ClassId} {av : List Value} : FrameBlind (va_Pc av (qW z ex D D3 x n f)) := by
  intro a U g mk h
  obtain ⟨h0, hP, hK, hx, hX⟩ := h
  exact ⟨h0, hP, va_K.moved (u := U) (U := U.calling g mk a) (Vm.Alike.refl U.vm) hK, hx, hX.warm (s := U) (U := U.calling g mk a) (State.WarmedH.refl U) (Nat.le_refl _) (fun _ _ _ => rfl)⟩
/-- the callee's start, out of the caller's world -/
theorem q_pre {p : Program} {R : Room} {s : State} {m : MethodId} {args : Array Value} {meth : Method} {c : Code} {H : Heap} {locs : List Loc} {z : Nat} {ex : Nat → Nat} {D : va_G} {D3 : Nat → ClassId} {av : List Value}
    (C : qCx K p R s m args meth c z ex D D3) (hP : va_P D qC (qw z ex D3 n f) H) (hS : va_S (qA z) s.heap H locs) (hx : x = true → H.size = z + n) : ∀ U : State, U.heap = H → s.WarmedH U.vm → va_Pc av (qW z ex D D3 x n f) av.toArray U :=
  fun U hU hW => ⟨rfl, by rw [hU]; exact hP, va_K.moved hW.alike C.2.2.2.2.2.2.1, fun h => by rw [hU]; exact hx h, by rw [hU]; exact C.2.2.2.2.2.2.2.1.warm hW hS.1 hS.2.1⟩
/-- behind a call -/
theorem q_cont {p : Program} {l : Launch} {e : Env} {R : Room} {s : State} {m : MethodId} {args : Array Value} {below : List Frame} {meth : Method} {c : Code} {H : Heap} {locs : List Loc} {ls : Array Slot} {Q : State → Prop} {z : Nat} {ex : Nat → Nat} {D : va_G} {D3 : Nat → ClassId} {g rest : List Value} {a : Array Value}
    (hr : va_Run p l e R s m args below meth c H locs kc ks mc ms (F0 m pc ls g) rest (qO z ex D D3 E' a) (qA z)) (hS : va_S (qA z) s.heap H locs)
    (kk : ∀ (v : Option Value) (n' : Nat) (f' : Nat → va_E) (H1 : Heap) (locs1 : List Loc), E' v n' f' → va_P D qC (qw z ex D3 n' f') H1 → va_S (qA z) s.heap H1 locs1 → W p l e R s m args below meth c H1 locs1 (kc + mc) (ks + ms) Q (F0 m (pc + 3) ls ((v.map (qv z ex)).toList ++ rest))) : W p l e R s m args below meth c H locs kc ks Q (F0 m pc ls g) := by
  intro T hT X9
  obtain ⟨v9, st₀, t, T', L, h0, X', hL, e1, e2, ⟨⟨v, n', f', hv, hE, hP1⟩, hz, hk⟩, st9⟩ := hr T hT X9
  cases hv
  rw [h0] at hz hk
  obtain ⟨t2, a1, b1⟩ := kk v n' f' T'.heap (locs ++ L) hE (by rw [e1]; exact hP1) ⟨Nat.le_trans hS.1 (by rw [e1]; exact hz), fun q h1 h2 => by rw [e1, hk q (Nat.lt_of_lt_of_le h1 hS.1) h2]; exact hS.2.1 q h1 h2, fun q hq => by
      rcases List.mem_append.mp hq with h | h
      · exact hS.2.2 q h
      · exact hL q h⟩ T' rfl X'
  exact ⟨t2, st9 t2 a1, b1⟩
theorem qg_all {ws : List Cond} (h : ∀ w ∈ ws, w ∈ qg) : GoodIn qg ws := fun w hw => ⟨h w hw, good_of_word (qg_good _ (h w hw))⟩
theorem q_low {s : State} {H : Heap} {locs : List Loc} {z : Nat} {ex : Nat → Nat} {D : va_G} {D3 : Nat → ClassId} (hX : qX z ex s s.heap) (hS : va_S (qA z) s.heap H locs) (hn : n ≤ 77) (hP : va_P D qC (qw z ex D3 n f) H) : z + n ≤ H.size := by
  match n, hn, hP with
  | 0, _, _ => exact Nat.le_trans hX.1 hS.1
  | n + 1, hn, hP =>
    have := (hP n _ (qw_at (Nat.lt_succ_self n) (by omega))).lt
    show z + n + 1 ≤ H.size
    exact this
/-- where all that was made since the method's start is logical, the heap's size is known -/
theorem q_size {p : Program} {e : Env} {R : Room} {s : State} {m : MethodId} {args : Array Value} {below : List Frame} {meth : Method} {c : Code} {H : Heap} {locs : List Loc} {z : Nat} {ex : Nat → Nat} {D : va_G} {D3 : Nat → ClassId} {T : State}
    (C : qCx K p R s m args meth c z ex D D3) (hP : va_P D qC (qw z ex D3 n f) H) (hS : va_S (qA z) s.heap H locs) (hT : T.heap = H) (X9 : Stand p (kl K) e R s m args below meth c T locs kc ks) (hx : kx K = true ∧ n = kn K + kc) (hn : n ≤ 77) : H.size = z + n := by
  have h1 := X9.heapSize
  rw [hT, C.2.2.2.2.2.2.2.2.2.1 hx.1] at h1
  have h2 := q_low C.2.2.2.2.2.2.2.1 hS hn hP
  have h3 := hx.2
  omega
theorem qr_callV {ci N : Nat} {T9 : u_T} {fs : List Value} (hd : decode (kcc K) pc = .ok (.invokevirtual idx, 3)) (hL : qLk (kown K) idx y cc nL ret na) (hi : Cond.instanceMethod y ∈ qg) (hs : Cond.selects y.cls y y ∈ qg) (hc : qC[ci]? = some (y.cls, T9, N)) (hq : q < n) (hq5 : q < 77) (hf : f q = .inr (ci, fs))
    (hsp : qSp (kl K) y cc nL ret x d mc ms (.ref q :: As) n f E') (hn : As.length = na) (hstk : stk = As.reverse ++ .ref q :: st) (hrm : (st.map fun v => v.category).sum ≤ 8) (hdep : d + 1 ≤ kd K) (hloc : 19 + nL + 34 * d ≤ 34 * kd K) (hkc : kc + mc ≤ kmc K) (hks : ks + ms ≤ kms K) (hx : x = true → (kx K = true ∧ n = kn K + kc) ∧ n ≤ 77)
    (k : ∀ (v : Option Value) (n' : Nat) (f' : Nat → va_E), E' v n' f' → qR K E X (pc + 3) lv (v.toList ++ st) n' (kc + mc) (ks + ms) f') : qR K E X pc lv stk n kc ks f := by
  intro p e R s m args below meth c H locs ls Q z ex D D3 C hP hS hl hE
  subst hstk
  intro T hT X9
  obtain ⟨l1, l2, l3, l4, l5, l6⟩ := hL
  have hR : R = qrm (kd K) (kmc K) (kms K) := C.2.2.2.2.2.2.2.2.1
  have hstk : (As.reverse ++ .ref q :: st).map (qv z ex) = (As.map (qv z ex)).reverse ++ .ref (qa z ex q) :: st.map (qv z ex) := by
    rw [List.map_append, List.map_reverse]
    rfl
  have hr := va_runV (l := kl K) (e := e) (below := below) (meth := meth) (locs := locs) (cells := kc) (slots := ks) (R := R) (H := H) (C := y.cls) (b := qa z ex q) (As := As.map (qv z ex)) (rest := st.map (qv z ex)) (g := F0 m pc ls ((As.reverse ++ .ref q :: st).map (qv z ex))) ⟨C.1, C.2.1, C.2.2.1, C.2.2.2.1, C.2.2.2.2.1⟩ (hsp z ex D D3) (cwV na C.2.2.2.2.1 (qg_all (fun w hw => by
      rcases List.mem_append.mp hw with h | h
      · rcases List.mem_cons.mp h with rfl | h
        · exact l1
        rcases List.mem_cons.mp h with rfl | h
        · exact hi
        rcases List.mem_cons.mp h with rfl | h
        · exact hs
        rcases List.mem_cons.mp h with rfl | h
        · exact l2
        cases h
      · rcases List.mem_cons.mp h with rfl | h
        · exact l3
        · exact h)) rfl rfl rfl ⟨rfl, l4, l5, l6⟩ (by rw [hR]; exact ⟨hdep, by show 8 + (nL + 11) + (34 * d + 12) ≤ 34 * kd K + 12; omega⟩))
    ⟨q_blind, by rw [qa_lt hq5]; exact va_recv C.2.2.2.2.2.2.1 hP hc (qe_obj hq hq5 hf), q_pre C hP hS (fun h => q_size C hP hS hT X9 (hx h).1 (hx h).2)⟩ rfl (by rw [List.length_map]; exact hn) hl.1 hstk (lv_room (by rw [q_cat]; exact hrm)) hd (by rw [hR]; exact ⟨hkc, hks⟩)
  refine q_cont hr hS (fun v n' f' H1 locs1 hE1 hP1 hS1 => ?_) T hT X9
  have h9 := k v n' f' hE1 p e R s m args below meth c H1 locs1 ls Q z ex D D3 C hP1 hS1 hl hE
  rw [List.map_append] at h9
  have h8 : (v.map (qv z ex)).toList = v.toList.map (qv z ex) := by cases v <;> rfl
  rw [h8]
  exact h9
end QC
end
section
/-! calls of static methods and constructors, across the nest too; new cells -/
section QD
variable {K : qK} {E E' : qE} {X : qXC} {pc : Nat} {lv : List (Nat × Value)} {st stk : List Value} {n kc ks : Nat} {f f' : Nat → va_E}
variable {y : MethodName} {cc : ByteArray} {nL : Nat} {ret : Option FieldType} {x : Bool} {d mc ms na idx q : Nat} {As : List Value}
/-- what links a call across the nest -/
def qLn (own : String) (idx : Nat) (y : MethodName) (host : String) (cc : ByteArray) (nL : Nat) (ret : Option FieldType) (na : Nat) : Prop :=
  Cond.methodLinkNest own idx y host ∈ qNg ∧ Cond.initialized y.cls ∈ qg ∧ Cond.code y cc nL ret ∈ qg ∧ y.cls ≠ "java/lang/invoke/MethodHandle" ∧ y.cls ≠ "java/lang/invoke/VarHandle" ∧ (parseMethodDescriptor y.desc).map (fun d => d.parameters.length) = some na
theorem qr_callS (hd : decode (kcc K) pc = .ok (.invokestatic idx, 3)) (hL : qLk (kown K) idx y cc nL ret na) (hst : Cond.static y ∈ qg)
    (hsp : qSp (kl K) y cc nL ret x d mc ms (As) n f E') (hn : As.length = na) (hstk : stk = As.reverse ++ st) (hrm : (st.map fun v => v.category).sum ≤ 8) (hdep : d + 1 ≤ kd K) (hloc : 19 + nL + 34 * d ≤ 34 * kd K) (hkc : kc + mc ≤ kmc K) (hks : ks + ms ≤ kms K) (hx : x = true → (kx K = true ∧ n = kn K + kc) ∧ n ≤ 77)
    (k : ∀ (v : Option Value) (n' : Nat) (f' : Nat → va_E), E' v n' f' → qR K E X (pc + 3) lv (v.toList ++ st) n' (kc + mc) (ks + ms) f') : qR K E X pc lv stk n kc ks f := by
  intro p e R s m args below meth c H locs ls Q z ex D D3 C hP hS hl hE
  subst hstk
  intro T hT X9
  obtain ⟨l1, l2, l3, l4, l5, l6⟩ := hL
  have hR : R = qrm (kd K) (kmc K) (kms K) := C.2.2.2.2.2.2.2.2.1
  have hstk : (As.reverse ++ st).map (qv z ex) = (As.map (qv z ex)).reverse ++ st.map (qv z ex) := by
    rw [List.map_append, List.map_reverse]
    done
  have hr := va_runS (l := kl K) (e := e) (below := below) (meth := meth) (locs := locs) (cells := kc) (slots := ks) (R := R) (H := H) (As := As.map (qv z ex)) (rest := st.map (qv z ex)) (g := F0 m pc ls ((As.reverse ++ st).map (qv z ex))) ⟨C.1, C.2.1, C.2.2.1, C.2.2.2.1, C.2.2.2.2.1⟩ (hsp z ex D D3) ⟨callB_of na C.2.2.2.2.1 (qg_all (fun w hw => by
      rcases List.mem_cons.mp hw with rfl | h
      · exact l3
      · exact h)) rfl rfl rfl (C.2.2.2.2.1 _ l2) (C.2.2.2.2.1 _ l1) ⟨l4, l5, l6⟩ (by rw [hR]; exact ⟨hdep, by show 8 + (nL + 11) + (34 * d + 12) ≤ 34 * kd K + 12; omega⟩), C.2.2.2.2.1 _ hst⟩
    ⟨q_blind, q_pre C hP hS (fun h => q_size C hP hS hT X9 (hx h).1 (hx h).2)⟩ rfl (by rw [List.length_map]; exact hn) hl.1 hstk (lv_room (by rw [q_cat]; exact hrm)) hd (by rw [hR]; exact ⟨hkc, hks⟩)
  refine q_cont hr hS (fun v n' f' H1 locs1 hE1 hP1 hS1 => ?_) T hT X9
  have h9 := k v n' f' hE1 p e R s m args below meth c H1 locs1 ls Q z ex D D3 C hP1 hS1 hl hE
  rw [List.map_append] at h9
  have h8 : (v.map (qv z ex)).toList = v.toList.map (qv z ex) := by cases v <;> rfl
  rw [h8]
  exact h9
theorem qr_callSN {host : String} (hd : decode (kcc K) pc = .ok (.invokestatic idx, 3)) (hL : qLn (kown K) idx y host cc nL ret na) (hst : Cond.static y ∈ qg)
    (hsp : qSp (kl K) y cc nL ret x d mc ms (As) n f E') (hn : As.length = na) (hstk : stk = As.reverse ++ st) (hrm : (st.map fun v => v.category).sum ≤ 8) (hdep : d + 1 ≤ kd K) (hloc : 19 + nL + 34 * d ≤ 34 * kd K) (hkc : kc + mc ≤ kmc K) (hks : ks + ms ≤ kms K) (hx : x = true → (kx K = true ∧ n = kn K + kc) ∧ n ≤ 77)
    (k : ∀ (v : Option Value) (n' : Nat) (f' : Nat → va_E), E' v n' f' → qR K E X (pc + 3) lv (v.toList ++ st) n' (kc + mc) (ks + ms) f') : qR K E X pc lv stk n kc ks f := by
  intro p e R s m args below meth c H locs ls Q z ex D D3 C hP hS hl hE
  subst hstk
  intro T hT X9
  obtain ⟨l1, l2, l3, l4, l5, l6⟩ := hL
  have hR : R = qrm (kd K) (kmc K) (kms K) := C.2.2.2.2.2.2.2.2.1
  have hstk : (As.reverse ++ st).map (qv z ex) = (As.map (qv z ex)).reverse ++ st.map (qv z ex) := by
    rw [List.map_append, List.map_reverse]
    done
  have hr := va_runSN (l := kl K) (e := e) (below := below) (meth := meth) (locs := locs) (cells := kc) (slots := ks) (R := R) (H := H) (As := As.map (qv z ex)) (rest := st.map (qv z ex)) (g := F0 m pc ls ((As.reverse ++ st).map (qv z ex))) ⟨C.1, C.2.1, C.2.2.1, C.2.2.2.1, C.2.2.2.2.1⟩ (hsp z ex D D3) ⟨va_cnB na C.2.2.2.2.1 (qg_all (fun w hw => by
      rcases List.mem_cons.mp hw with rfl | h
      · exact l3
      · exact h)) rfl rfl rfl (C.2.2.2.2.2.2.2.1.2.1 _ l1) (C.2.2.2.2.1 _ l2) ⟨l4, l5, l6⟩ (by rw [hR]; exact ⟨hdep, by show 8 + (nL + 11) + (34 * d + 12) ≤ 34 * kd K + 12; omega⟩), C.2.2.2.2.1 _ hst, trivial⟩
    ⟨q_blind, q_pre C hP hS (fun h => q_size C hP hS hT X9 (hx h).1 (hx h).2)⟩ rfl (by rw [List.length_map]; exact hn) hl.1 hstk (lv_room (by rw [q_cat]; exact hrm)) hd (by rw [hR]; exact ⟨hkc, hks⟩)
  refine q_cont hr hS (fun v n' f' H1 locs1 hE1 hP1 hS1 => ?_) T hT X9
  have h9 := k v n' f' hE1 p e R s m args below meth c H1 locs1 ls Q z ex D D3 C hP1 hS1 hl hE
  rw [List.map_append] at h9
  have h8 : (v.map (qv z ex)).toList = v.toList.map (qv z ex) := by cases v <;> rfl
  rw [h8]
  exact h9
theorem qr_callI (hd : decode (kcc K) pc = .ok (.invokespecial idx, 3)) (hL : qLk (kown K) idx y cc nL none na) (hi : Cond.instanceMethod y ∈ qg) (hnm : y.name = "<init>")
    (hsp : qSp (kl K) y cc nL none x d mc ms (.ref q :: As) n f E') (hn : As.length = na) (hstk : stk = As.reverse ++ .ref q :: st) (hrm : (st.map fun v => v.category).sum ≤ 8) (hdep : d + 1 ≤ kd K) (hloc : 19 + nL + 34 * d ≤ 34 * kd K) (hkc : kc + mc ≤ kmc K) (hks : ks + ms ≤ kms K) (hx : x = true → (kx K = true ∧ n = kn K + kc) ∧ n ≤ 77)
    (k : ∀ (v : Option Value) (n' : Nat) (f' : Nat → va_E), E' v n' f' → qR K E X (pc + 3) lv (v.toList ++ st) n' (kc + mc) (ks + ms) f') : qR K E X pc lv stk n kc ks f := by
  intro p e R s m args below meth c H locs ls Q z ex D D3 C hP hS hl hE
  subst hstk
  intro T hT X9
  obtain ⟨l1, l2, l3, l4, l5, l6⟩ := hL
  have hR : R = qrm (kd K) (kmc K) (kms K) := C.2.2.2.2.2.2.2.2.1
  have hstk : (As.reverse ++ .ref q :: st).map (qv z ex) = (As.map (qv z ex)).reverse ++ .ref (qa z ex q) :: st.map (qv z ex) := by
    rw [List.map_append, List.map_reverse]
    rfl
  have hr := va_runI (l := kl K) (e := e) (below := below) (meth := meth) (locs := locs) (cells := kc) (slots := ks) (R := R) (H := H) (b := qa z ex q) (As := As.map (qv z ex)) (rest := st.map (qv z ex)) (g := F0 m pc ls ((As.reverse ++ .ref q :: st).map (qv z ex))) ⟨C.1, C.2.1, C.2.2.1, C.2.2.2.1, C.2.2.2.2.1⟩ (hsp z ex D D3) ⟨callB_of na C.2.2.2.2.1 (qg_all (fun w hw => by
      rcases List.mem_cons.mp hw with rfl | h
      · exact l3
      · exact h)) rfl rfl rfl (C.2.2.2.2.1 _ l2) (C.2.2.2.2.1 _ l1) ⟨l4, l5, l6⟩ (by rw [hR]; exact ⟨hdep, by show 8 + (nL + 11) + (34 * d + 12) ≤ 34 * kd K + 12; omega⟩), hnm, C.2.2.2.2.1 _ hi⟩
    ⟨q_blind, q_pre C hP hS (fun h => q_size C hP hS hT X9 (hx h).1 (hx h).2)⟩ rfl (by rw [List.length_map]; exact hn) hl.1 hstk (lv_room (by rw [q_cat]; exact hrm)) hd (by rw [hR]; exact ⟨hkc, hks⟩)
  refine q_cont hr hS (fun v n' f' H1 locs1 hE1 hP1 hS1 => ?_) T hT X9
  have h9 := k v n' f' hE1 p e R s m args below meth c H1 locs1 ls Q z ex D D3 C hP1 hS1 hl hE
  rw [List.map_append] at h9
  have h8 : (v.map (qv z ex)).toList = v.toList.map (qv z ex) := by cases v <;> rfl
  rw [h8]
  exact h9
theorem qr_callIN {host : String} (hd : decode (kcc K) pc = .ok (.invokespecial idx, 3)) (hL : qLn (kown K) idx y host cc nL none na) (hi : Cond.instanceMethod y ∈ qg) (hnm : y.name = "<init>")
    (hsp : qSp (kl K) y cc nL none x d mc ms (.ref q :: As) n f E') (hn : As.length = na) (hstk : stk = As.reverse ++ .ref q :: st) (hrm : (st.map fun v => v.category).sum ≤ 8) (hdep : d + 1 ≤ kd K) (hloc : 19 + nL + 34 * d ≤ 34 * kd K) (hkc : kc + mc ≤ kmc K) (hks : ks + ms ≤ kms K) (hx : x = true → (kx K = true ∧ n = kn K + kc) ∧ n ≤ 77)
    (k : ∀ (v : Option Value) (n' : Nat) (f' : Nat → va_E), E' v n' f' → qR K E X (pc + 3) lv (v.toList ++ st) n' (kc + mc) (ks + ms) f') : qR K E X pc lv stk n kc ks f := by
  intro p e R s m args below meth c H locs ls Q z ex D D3 C hP hS hl hE
  subst hstk
  intro T hT X9
  obtain ⟨l1, l2, l3, l4, l5, l6⟩ := hL
  have hR : R = qrm (kd K) (kmc K) (kms K) := C.2.2.2.2.2.2.2.2.1
  have hstk : (As.reverse ++ .ref q :: st).map (qv z ex) = (As.map (qv z ex)).reverse ++ .ref (qa z ex q) :: st.map (qv z ex) := by
    rw [List.map_append, List.map_reverse]
    rfl
  have hr := va_runIN (l := kl K) (e := e) (below := below) (meth := meth) (locs := locs) (cells := kc) (slots := ks) (R := R) (H := H) (b := qa z ex q) (As := As.map (qv z ex)) (rest := st.map (qv z ex)) (g := F0 m pc ls ((As.reverse ++ .ref q :: st).map (qv z ex))) ⟨C.1, C.2.1, C.2.2.1, C.2.2.2.1, C.2.2.2.2.1⟩ (hsp z ex D D3) ⟨va_cnB na C.2.2.2.2.1 (qg_all (fun w hw => by
      rcases List.mem_cons.mp hw with rfl | h
      · exact l3
      · exact h)) rfl rfl rfl (C.2.2.2.2.2.2.2.1.2.1 _ l1) (C.2.2.2.2.1 _ l2) ⟨l4, l5, l6⟩ (by rw [hR]; exact ⟨hdep, by show 8 + (nL + 11) + (34 * d + 12) ≤ 34 * kd K + 12; omega⟩), hnm, C.2.2.2.2.1 _ hi⟩
    ⟨q_blind, q_pre C hP hS (fun h => q_size C hP hS hT X9 (hx h).1 (hx h).2)⟩ rfl (by rw [List.length_map]; exact hn) hl.1 hstk (lv_room (by rw [q_cat]; exact hrm)) hd (by rw [hR]; exact ⟨hkc, hks⟩)
  refine q_cont hr hS (fun v n' f' H1 locs1 hE1 hP1 hS1 => ?_) T hT X9
  have h9 := k v n' f' hE1 p e R s m args below meth c H1 locs1 ls Q z ex D D3 C hP1 hS1 hl hE
  rw [List.map_append] at h9
  have h8 : (v.map (qv z ex)).toList = v.toList.map (qv z ex) := by cases v <;> rfl
  rw [h8]
  exact h9
/-- a fresh object: all fields as they begin -/
theorem qr_new {ci N : Nat} {T9 : u_T} {Cn : String} {ty9 : Nat → FieldType} {fs : List Value} (hd : decode (kcc K) pc = .ok (.new idx, 3)) (hc : qC[ci]? = some (Cn, T9, N)) (hin : ∀ w ∈ u_ws Cn T9 N, w ∈ qg) (hty : ∀ k, k < N → parseFieldDescriptor (T9 k).2.2.1 = some (ty9 k)) (h1 : Cond.classLink (kown K) idx Cn ∈ qg) (h2 : Cond.instantiable Cn N ∈ qg) (h3 : Cond.initialized Cn ∈ qg)
    (hfs : ∀ j, j < N → defaultValue (ty9 j) = vp_V fs j) (hfr : ∀ v ∈ fs, ∀ z ex, qv z ex v = v) (hx : kx K = true ∧ n = kn K + kc) (hn5 : n < 77) (hkc : kc + 1 ≤ kmc K) (hks : ks + N ≤ kms K) (k : qR K E X (pc + 3) lv (.ref n :: st) (n + 1) (kc + 1) (ks + N) (va_up f n (.inr (ci, fs)))) : qR K E X pc lv st n kc ks f := by
  intro p e R s m args below meth c H locs ls Q z ex D D3 C hP hS hl hE
  intro T hT X9
  have hR : R = qrm (kd K) (kmc K) (kms K) := C.2.2.2.2.2.2.2.2.1
  have hsz := q_size C hP hS hT X9 hx (by omega)
  have hKn := C.2.2.2.2.2.2.1.1 ci _ hc
  refine W.newcK (p := p) (l := kl K) (e := e) (R := R) (s := s) (m := m) (args := args) (below := below) (meth := meth) (c := c) (H := H) (locs := locs) (cells := kc) (slots := ks) (g := F0 m pc ls (st.map (qv z ex))) C.1 C.2.1 C.2.2.2.1 (C.2.2.2.2.1 _ h1) (C.2.2.2.2.1 _ h2) (C.2.2.2.2.1 _ h3) rfl hd (by rw [hR]; exact hkc) (by rw [hR]; exact hks) hKn.2.1 hsz (fun H1 kC hkC e1 z1 o1 => ?_) T hT X9
  have hfs2 : fs.map (qv z ex) = fs := by
    conv => rhs; rw [← List.map_id fs]
    exact List.map_congr_left (fun v hv => hfr v hv z ex)
  have hP1 : va_P D qC (qw z ex D3 (n + 1) (va_up f n (.inr (ci, fs)))) H1 := by
    rw [← qw_push hn5]
    refine (hP.kept (fun k x hx => o1 x.1 (by rw [← hsz]; exact (hP k x hx).lt))).app (fun k x hx => ?_)
    have hz : k < 1 := (List.getElem?_eq_some_iff.mp hx).1
    rw [show k = 0 by omega] at hx
    cases hx
    show va_at D qC (z + n, .inr (ci, fs.map (qv z ex))) H1
    rw [hfs2]
    exact ⟨_, hc, (u_born ty9 C.2.2.2.2.1 hin hKn hkC e1 hty).to hfs⟩
  have hS1 : va_S (qA z) s.heap H1 locs := ⟨Nat.le_trans hS.1 (by rw [z1, hsz]; omega), fun q h1 h2 => (o1 q (by have := hS.1; omega)).trans (hS.2.1 q h1 h2), hS.2.2⟩
  have h9 := k p e R s m args below meth c H1 locs ls Q z ex D D3 C hP1 hS1 hl hE
  have h8 : (Value.ref n :: st).map (qv z ex) = .ref (z + n) :: st.map (qv z ex) := by
    show Value.ref (qa z ex n) :: _ = _
    rw [qa_lt hn5]
  rw [h8] at h9
  exact h9
/-- a fresh array of numbers -/
theorem qr_newa {t len : Nat} {at9 : ArrayType} {ty9 : FieldType} {i : Int32} {a : vp_A} (hd : decode (kcc K) pc = .ok (.newarray at9, 2)) (hty : newarray.typeOf at9 = ty9) (ht : qT[t]? = some ty9) (h1 : Cond.arrayClass ty9 ∈ qg) (hi : ¬ i < 0) (hlen : i.toNatClampNeg = len) (hb9 : len * componentBytes ty9 ≤ 536870912) (hpr : ∀ Cn, ty9 ≠ .object Cn) (ha : ∀ cA : ClassId, vp_cell cA a = arrV cA len (fun _ => defaultValue ty9)) (har : ∀ z ex, qarr z ex a = a)
    (hx : kx K = true ∧ n = kn K + kc) (hn5 : n < 77) (hkc : kc + 1 ≤ kmc K) (hks : ks + len ≤ kms K) (k : qR K E X (pc + 2) lv (.ref n :: st) (n + 1) (kc + 1) (ks + len) (va_up f n (.inl (t, a)))) : qR K E X pc lv (.int i :: st) n kc ks f := by
  intro p e R s m args below meth c H locs ls Q z ex D D3 C hP hS hl hE
  intro T hT X9
  subst hty
  have hR : R = qrm (kd K) (kmc K) (kms K) := C.2.2.2.2.2.2.2.2.1
  have hsz := q_size C hP hS hT X9 hx (by omega)
  refine va_newaK (p := p) (l := kl K) (e := e) (R := R) (s := s) (m := m) (args := args) (below := below) (meth := meth) (c := c) (H := H) (locs := locs) (cells := kc) (slots := ks) (g := F0 m pc ls (.int i :: st.map (qv z ex))) (rest := st.map (qv z ex)) C.1 C.2.1 (C.2.2.2.2.1 _ h1) rfl hd rfl hi hlen hb9 (by rw [hR]; exact hkc) (by rw [hR]; exact hks) hsz (fun H1 cA e1 z1 o1 hAr hNm => ?_) T hT X9
  have hcA : cA = D3 t := by
    have h2 := (C.2.2.2.2.2.2.1.2 t _ (qtys_at ht)).2
    have h3 : s.vm.findClass ("[" ++ (newarray.typeOf at9).toString) = some (D3 t) := by cases at9 <;> exact h2
    exact Option.some.inj (hNm.symm.trans h3)
  subst hcA
  have hP1 : va_P D qC (qw z ex D3 (n + 1) (va_up f n (.inl (t, a)))) H1 := by
    rw [← qw_push hn5]
    refine (hP.kept (fun k x hx => o1 x.1 (by rw [← hsz]; exact (hP k x hx).lt))).app (fun k x hx => ?_)
    have hz : k < 1 := (List.getElem?_eq_some_iff.mp hx).1
    rw [show k = 0 by omega] at hx
    cases hx
    show H1[z + n]? = some (vp_cell (D3 t) (qarr z ex a))
    rw [har, ha]
    exact e1
  have hS1 : va_S (qA z) s.heap H1 locs := ⟨Nat.le_trans hS.1 (by rw [z1, hsz]; omega), fun q h1 h2 => (o1 q (by have := hS.1; omega)).trans (hS.2.1 q h1 h2), hS.2.2⟩
  have h9 := k p e R s m args below meth c H1 locs ls Q z ex D D3 C hP1 hS1 hl hE
  have h8 : (Value.ref n :: st).map (qv z ex) = .ref (z + n) :: st.map (qv z ex) := by
    show Value.ref (qa z ex n) :: _ = _
    rw [qa_lt hn5]
  rw [h8] at h9
  exact h9
/-- a fresh array of references -/
theorem qr_anew {t len : Nat} {Cn : String} {i : Int32} (hd : decode (kcc K) pc = .ok (.anewarray idx, 3)) (ht : qT[t]? = some (.object Cn)) (h1 : Cond.classLink (kown K) idx Cn ∈ qg) (h2 : Cond.arrayOver (.object Cn) ∈ qAo) (hi : ¬ i < 0) (hlen : i.toNatClampNeg = len) (hb9 : len * 4 ≤ 536870912)
    (hx : kx K = true ∧ n = kn K + kc) (hn5 : n < 77) (hkc : kc + 1 ≤ kmc K) (hks : ks + len ≤ kms K) (k : qR K E X (pc + 3) lv (.ref n :: st) (n + 1) (kc + 1) (ks + len) (va_up f n (.inl (t, len, .inr (.inr (.inr (.inr (fun _ => none)))))))) : qR K E X pc lv (.int i :: st) n kc ks f := by
  intro p e R s m args below meth c H locs ls Q z ex D D3 C hP hS hl hE
  intro T hT X9
  subst hlen
  have hR : R = qrm (kd K) (kmc K) (kms K) := C.2.2.2.2.2.2.2.2.1
  have hsz := q_size C hP hS hT X9 hx (by omega)
  refine W.anew (p := p) (l := kl K) (e := e) (R := R) (s := s) (m := m) (args := args) (below := below) (meth := meth) (c := c) (H := H) (locs := locs) (cells := kc) (slots := ks) (g := F0 m pc ls (.int i :: st.map (qv z ex))) (rest := st.map (qv z ex)) C.1 C.2.1 C.2.2.2.1 (C.2.2.2.2.1 _ h1) (va_AO.use (C.2.2.2.2.2.2.2.1.2.2.1 Cn h2)) rfl hd rfl hi hb9 (by rw [hR]; exact hkc) (by rw [hR]; exact hks) (fun cA kA comp f1 f2 f3 f4 => ?_) T hT X9
  have hcA : cA = D3 t := by
    obtain ⟨kA2, comp2, g1, g2, g3, g4⟩ := (C.2.2.2.2.2.2.1.2 t _ (qtys_at ht)).2
    exact Option.some.inj (f1.symm.trans g4)
  subst hcA
  generalize hH1 : H.push ({ cls := D3 t, slots := Array.replicate i.toNatClampNeg .null, vm := .none } : Cell) = H1
  have z1 : H1.size = H.size + 1 := by rw [← hH1, Array.size_push]
  have e1 : H1[H.size]? = some (arrV (D3 t) i.toNatClampNeg (fun _ => .null)) := by rw [← hH1, Array.getElem?_push_size, ← arrV_new]
  have o1 : ∀ q : Nat, q < H.size → H1[q]? = H[q]? := fun q hq => by rw [← hH1, Array.getElem?_push, if_neg (Nat.ne_of_lt hq)]
  have hP1 : va_P D qC (qw z ex D3 (n + 1) (va_up f n (.inl (t, i.toNatClampNeg, .inr (.inr (.inr (.inr (fun _ => none)))))))) H1 := by
    rw [← qw_push hn5]
    refine (hP.kept (fun k x hx => o1 x.1 ((hP k x hx).lt))).app (fun k x hx => ?_)
    have hz : k < 1 := (List.getElem?_eq_some_iff.mp hx).1
    rw [show k = 0 by omega] at hx
    cases hx
    show H1[z + n]? = some (vp_cell (D3 t) (i.toNatClampNeg, .inr (.inr (.inr (.inr (fun _ => none))))))
    rw [← hsz, vp_cell_q]
    exact e1
  have hS1 : va_S (qA z) s.heap H1 locs := ⟨Nat.le_trans hS.1 (by rw [z1]; omega), fun q h1 h2 => (o1 q (by have := hS.1; omega)).trans (hS.2.1 q h1 h2), hS.2.2⟩
  have h9 := k p e R s m args below meth c H1 locs ls Q z ex D D3 C hP1 hS1 hl hE
  have h8 : (Value.ref n :: st).map (qv z ex) = .ref (z + n) :: st.map (qv z ex) := by
    show Value.ref (qa z ex n) :: _ = _
    rw [qa_lt hn5]
  rw [h8] at h9
  rw [← hsz] at h9
  exact h9
/-- an object is laid into a row of its class -/
theorem qr_aast {q len t w ci N : Nat} {i : Int32} {Cn : String} {T9 : u_T} {fs : List Value} {g : Nat → Option Nat} (hd : decode (kcc K) pc = .ok (.aastore, 1)) (hq : q < n) (hq5 : q < 77) (hf : f q = .inl (t, len, .inr (.inr (.inr (.inr g))))) (ht : qT[t]? = some (.object Cn)) (hw : w < n) (hw5 : w < 77) (hfw : f w = .inr (ci, fs)) (hc : qC[ci]? = some (Cn, T9, N)) (hi : vp_in i len) (hf' : va_up f q (.inl (t, len, .inr (.inr (.inr (.inr (va_up g i.toNatClampNeg (some w))))))) = f') (k : qR K E X (pc + 1) lv st n kc ks f') : qR K E X pc lv (.ref w :: .int i :: .ref q :: st) n kc ks f := by
  intro p e R s m args below meth c H locs ls Q z ex D D3 C hP hS hl hE
  show W _ _ _ _ _ _ _ _ _ _ _ _ _ _ _ (F0 m pc ls (.ref (qa z ex w) :: .int i :: .ref (qa z ex q) :: st.map (qv z ex)))
  rw [qa_lt hq5, qa_lt hw5]
  refine va_astq (r := (Cn, T9, N)) C.1 C.2.1 C.2.2.2.2.2.2.1 hP (qw_D z ex D3 n f) hS q t w ci (qe_arr hq hq5 hf) (qtys_at ht) (qe_obj hw hw5 hfw) hc hi hd (fun H1 locs1 hP1 hD1 hS1 => ?_)
  have e1 : (Sum.inl (D3 t, len, .inr (.inr (.inr (.inr (va_up (fun j => (g j).map (qa z ex)) i.toNatClampNeg (some (z + w))))))) : va_E) = qe z ex D3 (.inl (t, len, .inr (.inr (.inr (.inr (va_up g i.toNatClampNeg (some w))))))) := by
    show (Sum.inl (D3 t, len, .inr (.inr (.inr (.inr (va_up (fun j => (g j).map (qa z ex)) i.toNatClampNeg (some (z + w))))))) : va_E) = .inl (D3 t, len, .inr (.inr (.inr (.inr fun j => (va_up g i.toNatClampNeg (some w) j).map (qa z ex)))))
    congr 7
    funext j
    by_cases hj : j = i.toNatClampNeg
    · simp [va_up, hj, qa_lt hw5]
    · simp [va_up, hj]
  have hP2 : va_P D qC ((qw z ex D3 n f).set q (z + q, .inl (D3 t, len, .inr (.inr (.inr (.inr (va_up (fun j => (g j).map (qa z ex)) i.toNatClampNeg (some (z + w))))))))) H1 := hP1
  rw [e1, qw_set, hf'] at hP2
  exact k p e R s m args below meth c H1 locs1 ls Q z ex D D3 C hP2 hS1 hl hE
end QD
end
section
/-! the tables' words, by their places -/
theorem q_t1 {w : Cond} (i : Nat) (h : tables_1_1[i]? = some w) (g : goodWord w = true) : w ∈ qg := qg_in (List.mem_append_right _ (show w ∈ tables_1 from List.mem_append_left _ (List.mem_of_getElem? h))) g
theorem q_t2 {w : Cond} (i : Nat) (h : tables_1_2[i]? = some w) (g : goodWord w = true) : w ∈ qg := qg_in (List.mem_append_right _ (show w ∈ tables_1 from List.mem_append_right _ (List.mem_append_left _ (List.mem_of_getElem? h)))) g
theorem q_t3 {w : Cond} (i : Nat) (h : tables_1_3[i]? = some w) (g : goodWord w = true) : w ∈ qg := qg_in (List.mem_append_right _ (show w ∈ tables_1 from List.mem_append_right _ (List.mem_append_right _ (List.mem_append_left _ (List.mem_of_getElem? h))))) g
theorem q_t4 {w : Cond} (i : Nat) (h : tables_1_4[i]? = some w) (g : goodWord w = true) : w ∈ qg := qg_in (List.mem_append_right _ (show w ∈ tables_1 from List.mem_append_right _ (List.mem_append_right _ (List.mem_append_right _ (List.mem_append_left _ (List.mem_of_getElem? h)))))) g
theorem q_t5 {w : Cond} (i : Nat) (h : tables_1_5[i]? = some w) (g : goodWord w = true) : w ∈ qg := qg_in (List.mem_append_right _ (show w ∈ tables_1 from List.mem_append_right _ (List.mem_append_right _ (List.mem_append_right _ (List.mem_append_right _ (List.mem_append_left _ (List.mem_of_getElem? h))))))) g
theorem q_t6 {w : Cond} (i : Nat) (h : tables_1_6[i]? = some w) (g : goodWord w = true) : w ∈ qg := qg_in (List.mem_append_right _ (show w ∈ tables_1 from List.mem_append_right _ (List.mem_append_right _ (List.mem_append_right _ (List.mem_append_right _ (List.mem_append_right _ (List.mem_of_getElem? h))))))) g
theorem q_sel {w : Cond} (i : Nat) (h : (k2_sels lw_privs)[i]? = some w) (g : goodWord w = true) : w ∈ qg := qg_in (List.mem_append_left _ (List.mem_of_getElem? h)) g
theorem i_cu : ∀ w ∈ u_ws R_cu F_cu 5, w ∈ qg := by
  intro w hw
  obtain ⟨k, hk, rfl⟩ := List.mem_map.mp hw
  have hk := List.mem_range.mp hk
  match k, hk with
  | 0, _ => exact q_t1 180 rfl rfl
  | 1, _ => exact q_t1 182 rfl rfl
  | 2, _ => exact q_t1 184 rfl rfl
  | 3, _ => exact q_t1 186 rfl rfl
  | 4, _ => exact q_t1 188 rfl rfl
  | k + 5, h => exact absurd h (by omega)
theorem in_cu : Cond.instantiable R_cu 5 ∈ qg := q_t1 170 rfl rfl
theorem i_ev : ∀ w ∈ u_ws R_ev F_ev 5, w ∈ qg := by
  intro w hw
  obtain ⟨k, hk, rfl⟩ := List.mem_map.mp hw
  have hk := List.mem_range.mp hk
  match k, hk with
  | 0, _ => exact q_t1 110 rfl rfl
  | 1, _ => exact q_t1 112 rfl rfl
  | 2, _ => exact q_t1 114 rfl rfl
  | 3, _ => exact q_t1 116 rfl rfl
  | 4, _ => exact q_t1 118 rfl rfl
  | k + 5, h => exact absurd h (by omega)
theorem in_ev : Cond.instantiable R_ev 5 ∈ qg := q_t1 100 rfl rfl
theorem i_ib : ∀ w ∈ u_ws R_ib F_ib 6, w ∈ qg := by
  intro w hw
  obtain ⟨k, hk, rfl⟩ := List.mem_map.mp hw
  have hk := List.mem_range.mp hk
  match k, hk with
  | 0, _ => exact q_t1 133 rfl rfl
  | 1, _ => exact q_t1 135 rfl rfl
  | 2, _ => exact q_t1 137 rfl rfl
  | 3, _ => exact q_t1 139 rfl rfl
  | 4, _ => exact q_t1 141 rfl rfl
  | 5, _ => exact q_t1 143 rfl rfl
  | k + 6, h => exact absurd h (by omega)
theorem in_ib : Cond.instantiable R_ib 6 ∈ qg := q_t1 122 rfl rfl
theorem i_pb : ∀ w ∈ u_ws R_pb F_pb 5, w ∈ qg := by
  intro w hw
  obtain ⟨k, hk, rfl⟩ := List.mem_map.mp hw
  have hk := List.mem_range.mp hk
  match k, hk with
  | 0, _ => exact q_t1 158 rfl rfl
  | 1, _ => exact q_t1 160 rfl rfl
  | 2, _ => exact q_t1 162 rfl rfl
  | 3, _ => exact q_t1 164 rfl rfl
  | 4, _ => exact q_t1 166 rfl rfl
  | k + 5, h => exact absurd h (by omega)
theorem in_pb : Cond.instantiable R_pb 5 ∈ qg := q_t1 148 rfl rfl
theorem i_tf : ∀ w ∈ u_ws R_tf F_tf 9, w ∈ qg := by
  intro w hw
  obtain ⟨k, hk, rfl⟩ := List.mem_map.mp hw
  have hk := List.mem_range.mp hk
  match k, hk with
  | 0, _ => exact q_t1 51 rfl rfl
  | 1, _ => exact q_t1 53 rfl rfl
  | 2, _ => exact q_t1 55 rfl rfl
  | 3, _ => exact q_t1 57 rfl rfl
  | 4, _ => exact q_t1 59 rfl rfl
  | 5, _ => exact q_t1 61 rfl rfl
  | 6, _ => exact q_t1 63 rfl rfl
  | 7, _ => exact q_t1 65 rfl rfl
  | 8, _ => exact q_t1 67 rfl rfl
  | k + 9, h => exact absurd h (by omega)
theorem in_tf : Cond.instantiable R_tf 9 ∈ qg := q_t1 37 rfl rfl
theorem i_tr : ∀ w ∈ u_ws R_tr F_tr 7, w ∈ qg := by
  intro w hw
  obtain ⟨k, hk, rfl⟩ := List.mem_map.mp hw
  have hk := List.mem_range.mp hk
  match k, hk with
  | 0, _ => exact q_t1 80 rfl rfl
  | 1, _ => exact q_t1 82 rfl rfl
  | 2, _ => exact q_t1 84 rfl rfl
  | 3, _ => exact q_t1 86 rfl rfl
  | 4, _ => exact q_t1 88 rfl rfl
  | 5, _ => exact q_t1 90 rfl rfl
  | 6, _ => exact q_t1 92 rfl rfl
  | k + 7, h => exact absurd h (by omega)
theorem in_tr : Cond.instantiable R_tr 7 ∈ qg := q_t1 31 rfl rfl
theorem i_bf : ∀ w ∈ u_ws R_bf F_bf 11, w ∈ qg := by
  intro w hw
  obtain ⟨k, hk, rfl⟩ := List.mem_map.mp hw
  have hk := List.mem_range.mp hk
  match k, hk with
  | 0, _ => exact q_t1 221 rfl rfl
  | 1, _ => exact q_t1 223 rfl rfl
  | 2, _ => exact q_t1 225 rfl rfl
  | 3, _ => exact q_t1 227 rfl rfl
  | 4, _ => exact q_t1 229 rfl rfl
  | 5, _ => exact q_t1 231 rfl rfl
  | 6, _ => exact q_t1 233 rfl rfl
  | 7, _ => exact q_t1 235 rfl rfl
  | 8, _ => exact q_t1 237 rfl rfl
  | 9, _ => exact q_t1 239 rfl rfl
  | 10, _ => exact q_t2 1 rfl rfl
  | k + 11, h => exact absurd h (by omega)
theorem in_bf : Cond.instantiable R_bf 11 ∈ qg := q_t1 23 rfl rfl
theorem i_md : ∀ w ∈ u_ws R_md F_md 39, w ∈ qg := by
  intro w hw
  obtain ⟨k, hk, rfl⟩ := List.mem_map.mp hw
  have hk := List.mem_range.mp hk
  match k, hk with
  | 0, _ => exact q_t4 233 rfl rfl
  | 1, _ => exact q_t4 235 rfl rfl
  | 2, _ => exact q_t4 237 rfl rfl
  | 3, _ => exact q_t4 239 rfl rfl
  | 4, _ => exact q_t5 1 rfl rfl
  | 5, _ => exact q_t5 3 rfl rfl
  | 6, _ => exact q_t5 5 rfl rfl
  | 7, _ => exact q_t5 7 rfl rfl
  | 8, _ => exact q_t5 9 rfl rfl
  | 9, _ => exact q_t5 11 rfl rfl
  | 10, _ => exact q_t5 13 rfl rfl
  | 11, _ => exact q_t5 15 rfl rfl
  | 12, _ => exact q_t5 17 rfl rfl
  | 13, _ => exact q_t5 19 rfl rfl
  | 14, _ => exact q_t5 21 rfl rfl
  | 15, _ => exact q_t5 23 rfl rfl
  | 16, _ => exact q_t5 25 rfl rfl
  | 17, _ => exact q_t5 27 rfl rfl
  | 18, _ => exact q_t5 29 rfl rfl
  | 19, _ => exact q_t5 31 rfl rfl
  | 20, _ => exact q_t5 33 rfl rfl
  | 21, _ => exact q_t5 35 rfl rfl
  | 22, _ => exact q_t5 37 rfl rfl
  | 23, _ => exact q_t5 39 rfl rfl
  | 24, _ => exact q_t5 41 rfl rfl
  | 25, _ => exact q_t5 43 rfl rfl
  | 26, _ => exact q_t5 45 rfl rfl
  | 27, _ => exact q_t5 47 rfl rfl
  | 28, _ => exact q_t5 49 rfl rfl
  | 29, _ => exact q_t5 51 rfl rfl
  | 30, _ => exact q_t5 53 rfl rfl
  | 31, _ => exact q_t5 55 rfl rfl
  | 32, _ => exact q_t5 57 rfl rfl
  | 33, _ => exact q_t5 59 rfl rfl
  | 34, _ => exact q_t5 61 rfl rfl
  | 35, _ => exact q_t5 63 rfl rfl
  | 36, _ => exact q_t5 65 rfl rfl
  | 37, _ => exact q_t5 67 rfl rfl
  | 38, _ => exact q_t5 69 rfl rfl
  | k + 39, h => exact absurd h (by omega)
theorem in_md : Cond.instantiable R_md 39 ∈ qg := q_t4 189 rfl rfl
theorem ii_cu : Cond.initialized "BillForge$Customer" ∈ qg := q_t1 7 rfl rfl
theorem ii_ev : Cond.initialized "BillForge$EventLog" ∈ qg := q_t1 4 rfl rfl
theorem ii_ib : Cond.initialized "BillForge$InvoiceBook" ∈ qg := q_t1 5 rfl rfl
theorem ii_pb : Cond.initialized "BillForge$PlanBook" ∈ qg := q_t1 6 rfl rfl
theorem ii_tf : Cond.initialized "BillForge$Tariff" ∈ qg := q_t1 3 rfl rfl
theorem ii_tr : Cond.initialized "BillForge$TariffReader" ∈ qg := q_t1 2 rfl rfl
theorem ii_bf : Cond.initialized "BillForge" ∈ qg := q_t1 1 rfl rfl
theorem ii_md : Cond.initialized "BillForgeModel" ∈ qg := q_t1 9 rfl rfl
theorem ii_al : Cond.initialized "BillForge$Almanac" ∈ qg := q_t1 8 rfl rfl
theorem ii_lw : Cond.initialized "BillForgeLaw" ∈ qg := q_t1 0 rfl rfl
abbrev b_bf_init : ByteArray := prog_1_method_1_code
def y_bf_init : MethodName := ⟨"BillForge", "<init>", "()V"⟩
theorem co_bf_init : Cond.code y_bf_init b_bf_init 2 none ∈ qg := q_t1 26 rfl rfl
theorem im_bf_init : Cond.instanceMethod y_bf_init ∈ qg := q_t1 25 rfl rfl
abbrev b_bf_text : ByteArray := prog_1_method_2_code
def y_bf_text : MethodName := ⟨"BillForge", "text", "(J)I"⟩
theorem co_bf_text : Cond.code y_bf_text b_bf_text 4 (some .int) ∈ qg := q_t2 149 rfl rfl
theorem im_bf_text : Cond.instanceMethod y_bf_text ∈ qg := q_t2 147 rfl rfl
theorem se_bf_text : Cond.selects y_bf_text.cls y_bf_text y_bf_text ∈ qg := q_t2 148 rfl rfl
abbrev b_bf_tariff : ByteArray := prog_1_method_3_code
def y_bf_tariff : MethodName := ⟨"BillForge", "tariff", "(I)I"⟩
theorem co_bf_tariff : Cond.code y_bf_tariff b_bf_tariff 2 (some .int) ∈ qg := q_t3 6 rfl rfl
theorem im_bf_tariff : Cond.instanceMethod y_bf_tariff ∈ qg := q_t3 4 rfl rfl
theorem se_bf_tariff : Cond.selects y_bf_tariff.cls y_bf_tariff y_bf_tariff ∈ qg := q_t3 5 rfl rfl
abbrev b_bf_where : ByteArray := prog_1_method_4_code
def y_bf_where : MethodName := ⟨"BillForge", "where", "()I"⟩
theorem co_bf_where : Cond.code y_bf_where b_bf_where 1 (some .int) ∈ qg := q_t2 7 rfl rfl
theorem im_bf_where : Cond.instanceMethod y_bf_where ∈ qg := q_t2 5 rfl rfl
theorem se_bf_where : Cond.selects y_bf_where.cls y_bf_where y_bf_where ∈ qg := q_t2 6 rfl rfl
abbrev b_bf_use : ByteArray := prog_1_method_5_code
def y_bf_use : MethodName := ⟨"BillForge", "use", "(II)J"⟩
theorem co_bf_use : Cond.code y_bf_use b_bf_use 3 (some .long) ∈ qg := q_t3 177 rfl rfl
theorem im_bf_use : Cond.instanceMethod y_bf_use ∈ qg := q_t3 175 rfl rfl
theorem se_bf_use : Cond.selects y_bf_use.cls y_bf_use y_bf_use ∈ qg := q_t3 176 rfl rfl
abbrev b_bf_subscribe : ByteArray := prog_1_method_6_code
def y_bf_subscribe : MethodName := ⟨"BillForge", "subscribe", "(II)I"⟩
theorem co_bf_subscribe : Cond.code y_bf_subscribe b_bf_subscribe 4 (some .int) ∈ qg := q_t3 185 rfl rfl
theorem im_bf_subscribe : Cond.instanceMethod y_bf_subscribe ∈ qg := q_t3 183 rfl rfl
theorem se_bf_subscribe : Cond.selects y_bf_subscribe.cls y_bf_subscribe y_bf_subscribe ∈ qg := q_t3 184 rfl rfl
abbrev b_bf_pause : ByteArray := prog_1_method_7_code
def y_bf_pause : MethodName := ⟨"BillForge", "pause", "(IZ)Z"⟩
theorem co_bf_pause : Cond.code y_bf_pause b_bf_pause 5 (some .boolean) ∈ qg := q_t3 207 rfl rfl
theorem im_bf_pause : Cond.instanceMethod y_bf_pause ∈ qg := q_t3 205 rfl rfl
theorem se_bf_pause : Cond.selects y_bf_pause.cls y_bf_pause y_bf_pause ∈ qg := q_t3 206 rfl rfl
abbrev b_bf_event : ByteArray := prog_1_method_8_code
def y_bf_event : MethodName := ⟨"BillForge", "event", "(IIII)I"⟩
theorem co_bf_event : Cond.code y_bf_event b_bf_event 5 (some .int) ∈ qg := q_t3 224 rfl rfl
theorem im_bf_event : Cond.instanceMethod y_bf_event ∈ qg := q_t3 222 rfl rfl
theorem se_bf_event : Cond.selects y_bf_event.cls y_bf_event y_bf_event ∈ qg := q_t3 223 rfl rfl
abbrev b_bf_tick : ByteArray := prog_1_method_9_code
def y_bf_tick : MethodName := ⟨"BillForge", "tick", "(I)I"⟩
theorem co_bf_tick : Cond.code y_bf_tick b_bf_tick 3 (some .int) ∈ qg := q_t4 19 rfl rfl
theorem im_bf_tick : Cond.instanceMethod y_bf_tick ∈ qg := q_t4 17 rfl rfl
theorem se_bf_tick : Cond.selects y_bf_tick.cls y_bf_tick y_bf_tick ∈ qg := q_t4 18 rfl rfl
abbrev b_bf_run : ByteArray := prog_1_method_10_code
def y_bf_run : MethodName := ⟨"BillForge", "run", "()I"⟩
theorem co_bf_run : Cond.code y_bf_run b_bf_run 4 (some .int) ∈ qg := q_t2 15 rfl rfl
theorem im_bf_run : Cond.instanceMethod y_bf_run ∈ qg := q_t2 13 rfl rfl
theorem se_bf_run : Cond.selects y_bf_run.cls y_bf_run y_bf_run ∈ qg := q_t2 14 rfl rfl
abbrev b_bf_pay : ByteArray := prog_1_method_11_code
def y_bf_pay : MethodName := ⟨"BillForge", "pay", "(IJ)J"⟩
theorem co_bf_pay : Cond.code y_bf_pay b_bf_pay 6 (some .long) ∈ qg := q_t4 34 rfl rfl
theorem im_bf_pay : Cond.instanceMethod y_bf_pay ∈ qg := q_t4 32 rfl rfl
theorem se_bf_pay : Cond.selects y_bf_pay.cls y_bf_pay y_bf_pay ∈ qg := q_t4 33 rfl rfl
abbrev b_bf_plan : ByteArray := prog_1_method_12_code
def y_bf_plan : MethodName := ⟨"BillForge", "plan", "(IJI)I"⟩
theorem co_bf_plan : Cond.code y_bf_plan b_bf_plan 5 (some .int) ∈ qg := q_t4 45 rfl rfl
theorem im_bf_plan : Cond.instanceMethod y_bf_plan ∈ qg := q_t4 43 rfl rfl
theorem se_bf_plan : Cond.selects y_bf_plan.cls y_bf_plan y_bf_plan ∈ qg := q_t4 44 rfl rfl
abbrev b_bf_charge : ByteArray := prog_1_method_13_code
def y_bf_charge : MethodName := ⟨"BillForge", "charge", "(II)J"⟩
theorem co_bf_charge : Cond.code y_bf_charge b_bf_charge 3 (some .long) ∈ qg := q_t4 65 rfl rfl
theorem im_bf_charge : Cond.instanceMethod y_bf_charge ∈ qg := q_t4 63 rfl rfl
theorem se_bf_charge : Cond.selects y_bf_charge.cls y_bf_charge y_bf_charge ∈ qg := q_t4 64 rfl rfl
abbrev b_bf_invoice : ByteArray := prog_1_method_14_code
def y_bf_invoice : MethodName := ⟨"BillForge", "invoice", "(II)J"⟩
theorem co_bf_invoice : Cond.code y_bf_invoice b_bf_invoice 3 (some .long) ∈ qg := q_t4 73 rfl rfl
theorem im_bf_invoice : Cond.instanceMethod y_bf_invoice ∈ qg := q_t4 71 rfl rfl
theorem se_bf_invoice : Cond.selects y_bf_invoice.cls y_bf_invoice y_bf_invoice ∈ qg := q_t4 72 rfl rfl
abbrev b_bf_told : ByteArray := prog_1_method_15_code
def y_bf_told : MethodName := ⟨"BillForge", "told", "(II)J"⟩
theorem co_bf_told : Cond.code y_bf_told b_bf_told 3 (some .long) ∈ qg := q_t4 120 rfl rfl
theorem im_bf_told : Cond.instanceMethod y_bf_told ∈ qg := q_t4 118 rfl rfl
theorem se_bf_told : Cond.selects y_bf_told.cls y_bf_told y_bf_told ∈ qg := q_t4 119 rfl rfl
abbrev b_bf_books : ByteArray := prog_1_method_16_code
def y_bf_books : MethodName := ⟨"BillForge", "books", "(I)J"⟩
theorem co_bf_books : Cond.code y_bf_books b_bf_books 2 (some .long) ∈ qg := q_t4 147 rfl rfl
theorem im_bf_books : Cond.instanceMethod y_bf_books ∈ qg := q_t4 145 rfl rfl
theorem se_bf_books : Cond.selects y_bf_books.cls y_bf_books y_bf_books ∈ qg := q_t4 146 rfl rfl
abbrev b_bf_date : ByteArray := prog_1_method_17_code
def y_bf_date : MethodName := ⟨"BillForge", "date", "(II)I"⟩
theorem co_bf_date : Cond.code y_bf_date b_bf_date 4 (some .int) ∈ qg := q_t4 174 rfl rfl
theorem im_bf_date : Cond.instanceMethod y_bf_date ∈ qg := q_t4 172 rfl rfl
theorem se_bf_date : Cond.selects y_bf_date.cls y_bf_date y_bf_date ∈ qg := q_t4 173 rfl rfl
abbrev b_bf_count : ByteArray := prog_1_method_18_code
def y_bf_count : MethodName := ⟨"BillForge", "count", "(I)I"⟩
theorem co_bf_count : Cond.code y_bf_count b_bf_count 2 (some .int) ∈ qg := q_t4 187 rfl rfl
theorem im_bf_count : Cond.instanceMethod y_bf_count ∈ qg := q_t4 185 rfl rfl
theorem se_bf_count : Cond.selects y_bf_count.cls y_bf_count y_bf_count ∈ qg := q_t4 186 rfl rfl
abbrev b_bf_isTariff : ByteArray := prog_1_method_19_code
def y_bf_isTariff : MethodName := ⟨"BillForge", "isTariff", "(I)Z"⟩
theorem co_bf_isTariff : Cond.code y_bf_isTariff b_bf_isTariff 1 (some .boolean) ∈ qg := q_t2 46 rfl rfl
theorem sm_bf_isTariff : Cond.static y_bf_isTariff ∈ qg := q_t2 45 rfl rfl
abbrev b_bf_isCustomer : ByteArray := prog_1_method_20_code
def y_bf_isCustomer : MethodName := ⟨"BillForge", "isCustomer", "(I)Z"⟩
theorem co_bf_isCustomer : Cond.code y_bf_isCustomer b_bf_isCustomer 1 (some .boolean) ∈ qg := q_t3 188 rfl rfl
theorem sm_bf_isCustomer : Cond.static y_bf_isCustomer ∈ qg := q_t3 187 rfl rfl
abbrev b_bf_isPayable : ByteArray := prog_1_method_21_code
def y_bf_isPayable : MethodName := ⟨"BillForge", "isPayable", "(J)Z"⟩
theorem co_bf_isPayable : Cond.code y_bf_isPayable b_bf_isPayable 2 (some .boolean) ∈ qg := q_t4 37 rfl rfl
theorem sm_bf_isPayable : Cond.static y_bf_isPayable ∈ qg := q_t4 36 rfl rfl
abbrev b_bf_shareOf : ByteArray := prog_1_method_22_code
def y_bf_shareOf : MethodName := ⟨"BillForge", "shareOf", "(JJJ)J"⟩
theorem co_bf_shareOf : Cond.code y_bf_shareOf b_bf_shareOf 6 (some .long) ∈ qg := q_t2 73 rfl rfl
theorem sm_bf_shareOf : Cond.static y_bf_shareOf ∈ qg := q_t2 72 rfl rfl
abbrev b_bf_passDay : ByteArray := prog_1_method_23_code
def y_bf_passDay : MethodName := ⟨"BillForge", "passDay", "()V"⟩
theorem co_bf_passDay : Cond.code y_bf_passDay b_bf_passDay 2 none ∈ qg := q_t4 23 rfl rfl
theorem im_bf_passDay : Cond.instanceMethod y_bf_passDay ∈ qg := q_t4 22 rfl rfl
theorem se_bf_passDay : Cond.selects y_bf_passDay.cls y_bf_passDay y_bf_passDay ∈ qg := q_sel 20 rfl rfl
abbrev b_bf_lookAtStage : ByteArray := prog_1_method_24_code
def y_bf_lookAtStage : MethodName := ⟨"BillForge", "lookAtStage", "(I)V"⟩
theorem co_bf_lookAtStage : Cond.code y_bf_lookAtStage b_bf_lookAtStage 2 none ∈ qg := q_t2 121 rfl rfl
theorem im_bf_lookAtStage : Cond.instanceMethod y_bf_lookAtStage ∈ qg := q_t2 120 rfl rfl
theorem se_bf_lookAtStage : Cond.selects y_bf_lookAtStage.cls y_bf_lookAtStage y_bf_lookAtStage ∈ qg := q_sel 8 rfl rfl
abbrev b_bf_invoiceDifference : ByteArray := prog_1_method_25_code
def y_bf_invoiceDifference : MethodName := ⟨"BillForge", "invoiceDifference", "(II)V"⟩
theorem co_bf_invoiceDifference : Cond.code y_bf_invoiceDifference b_bf_invoiceDifference 5 none ∈ qg := q_t2 23 rfl rfl
theorem im_bf_invoiceDifference : Cond.instanceMethod y_bf_invoiceDifference ∈ qg := q_t2 22 rfl rfl
theorem se_bf_invoiceDifference : Cond.selects y_bf_invoiceDifference.cls y_bf_invoiceDifference y_bf_invoiceDifference ∈ qg := q_sel 0 rfl rfl
abbrev b_bf_spendCredit : ByteArray := prog_1_method_26_code
def y_bf_spendCredit : MethodName := ⟨"BillForge", "spendCredit", "(I)V"⟩
theorem co_bf_spendCredit : Cond.code y_bf_spendCredit b_bf_spendCredit 4 none ∈ qg := q_t2 109 rfl rfl
theorem im_bf_spendCredit : Cond.instanceMethod y_bf_spendCredit ∈ qg := q_t2 108 rfl rfl
theorem se_bf_spendCredit : Cond.selects y_bf_spendCredit.cls y_bf_spendCredit y_bf_spendCredit ∈ qg := q_sel 7 rfl rfl
abbrev b_bf_chargeOf : ByteArray := prog_1_method_27_code
def y_bf_chargeOf : MethodName := ⟨"BillForge", "chargeOf", "(II)J"⟩
theorem co_bf_chargeOf : Cond.code y_bf_chargeOf b_bf_chargeOf 7 (some .long) ∈ qg := q_t2 31 rfl rfl
theorem im_bf_chargeOf : Cond.instanceMethod y_bf_chargeOf ∈ qg := q_t2 30 rfl rfl
theorem se_bf_chargeOf : Cond.selects y_bf_chargeOf.cls y_bf_chargeOf y_bf_chargeOf ∈ qg := q_sel 1 rfl rfl
abbrev b_bf_countLiveDays : ByteArray := prog_1_method_28_code
def y_bf_countLiveDays : MethodName := ⟨"BillForge", "countLiveDays", "(II)V"⟩
theorem co_bf_countLiveDays : Cond.code y_bf_countLiveDays b_bf_countLiveDays 5 none ∈ qg := q_t2 35 rfl rfl
theorem im_bf_countLiveDays : Cond.instanceMethod y_bf_countLiveDays ∈ qg := q_t2 34 rfl rfl
theorem se_bf_countLiveDays : Cond.selects y_bf_countLiveDays.cls y_bf_countLiveDays y_bf_countLiveDays ∈ qg := q_sel 2 rfl rfl
abbrev b_bf_countLiveUnits : ByteArray := prog_1_method_29_code
def y_bf_countLiveUnits : MethodName := ⟨"BillForge", "countLiveUnits", "(II)V"⟩
theorem co_bf_countLiveUnits : Cond.code y_bf_countLiveUnits b_bf_countLiveUnits 6 none ∈ qg := q_t2 50 rfl rfl
theorem im_bf_countLiveUnits : Cond.instanceMethod y_bf_countLiveUnits ∈ qg := q_t2 49 rfl rfl
theorem se_bf_countLiveUnits : Cond.selects y_bf_countLiveUnits.cls y_bf_countLiveUnits y_bf_countLiveUnits ∈ qg := q_sel 4 rfl rfl
abbrev b_bf_allOpen : ByteArray := prog_1_method_30_code
def y_bf_allOpen : MethodName := ⟨"BillForge", "allOpen", "()J"⟩
theorem co_bf_allOpen : Cond.code y_bf_allOpen b_bf_allOpen 4 (some .long) ∈ qg := q_t4 151 rfl rfl
theorem im_bf_allOpen : Cond.instanceMethod y_bf_allOpen ∈ qg := q_t4 150 rfl rfl
theorem se_bf_allOpen : Cond.selects y_bf_allOpen.cls y_bf_allOpen y_bf_allOpen ∈ qg := q_sel 21 rfl rfl
abbrev b_bf_allCredit : ByteArray := prog_1_method_31_code
def y_bf_allCredit : MethodName := ⟨"BillForge", "allCredit", "()J"⟩
theorem co_bf_allCredit : Cond.code y_bf_allCredit b_bf_allCredit 4 (some .long) ∈ qg := q_t4 155 rfl rfl
theorem im_bf_allCredit : Cond.instanceMethod y_bf_allCredit ∈ qg := q_t4 154 rfl rfl
theorem se_bf_allCredit : Cond.selects y_bf_allCredit.cls y_bf_allCredit y_bf_allCredit ∈ qg := q_sel 22 rfl rfl
abbrev b_bf_allEarned : ByteArray := prog_1_method_32_code
def y_bf_allEarned : MethodName := ⟨"BillForge", "allEarned", "()J"⟩
theorem co_bf_allEarned : Cond.code y_bf_allEarned b_bf_allEarned 4 (some .long) ∈ qg := q_t4 163 rfl rfl
theorem im_bf_allEarned : Cond.instanceMethod y_bf_allEarned ∈ qg := q_t4 162 rfl rfl
theorem se_bf_allEarned : Cond.selects y_bf_allEarned.cls y_bf_allEarned y_bf_allEarned ∈ qg := q_sel 23 rfl rfl
abbrev b_md_init : ByteArray := prog_10_method_1_code
def y_md_init : MethodName := ⟨"BillForgeModel", "<init>", "()V"⟩
theorem co_md_init : Cond.code y_md_init b_md_init 1 none ∈ qg := q_t4 192 rfl rfl
theorem im_md_init : Cond.instanceMethod y_md_init ∈ qg := q_t4 191 rfl rfl
abbrev b_md_thrown : ByteArray := prog_10_method_2_code
def y_md_thrown : MethodName := ⟨"BillForgeModel", "thrown", "()I"⟩
theorem co_md_thrown : Cond.code y_md_thrown b_md_thrown 1 (some .int) ∈ qg := q_t5 75 rfl rfl
theorem im_md_thrown : Cond.instanceMethod y_md_thrown ∈ qg := q_t5 73 rfl rfl
theorem se_md_thrown : Cond.selects y_md_thrown.cls y_md_thrown y_md_thrown ∈ qg := q_t5 74 rfl rfl
abbrev b_md_in : ByteArray := prog_10_method_3_code
def y_md_in : MethodName := ⟨"BillForgeModel", "in", "(JJJ)Z"⟩
theorem co_md_in : Cond.code y_md_in b_md_in 6 (some .boolean) ∈ qg := q_t5 84 rfl rfl
theorem sm_md_in : Cond.static y_md_in ∈ qg := q_t5 83 rfl rfl
abbrev b_md_refuse : ByteArray := prog_10_method_4_code
def y_md_refuse : MethodName := ⟨"BillForgeModel", "refuse", "(I)I"⟩
theorem co_md_refuse : Cond.code y_md_refuse b_md_refuse 2 (some .int) ∈ qg := q_t5 88 rfl rfl
theorem im_md_refuse : Cond.instanceMethod y_md_refuse ∈ qg := q_t5 87 rfl rfl
theorem se_md_refuse : Cond.selects y_md_refuse.cls y_md_refuse y_md_refuse ∈ qg := q_sel 24 rfl rfl
abbrev b_md_text : ByteArray := prog_10_method_5_code
def y_md_text : MethodName := ⟨"BillForgeModel", "text", "(J)I"⟩
theorem co_md_text : Cond.code y_md_text b_md_text 6 (some .int) ∈ qg := q_t5 79 rfl rfl
theorem im_md_text : Cond.instanceMethod y_md_text ∈ qg := q_t5 77 rfl rfl
theorem se_md_text : Cond.selects y_md_text.cls y_md_text y_md_text ∈ qg := q_t5 78 rfl rfl
abbrev b_md_look : ByteArray := prog_10_method_6_code
def y_md_look : MethodName := ⟨"BillForgeModel", "look", "()I"⟩
theorem co_md_look : Cond.code y_md_look b_md_look 1 (some .int) ∈ qg := q_t5 109 rfl rfl
theorem im_md_look : Cond.instanceMethod y_md_look ∈ qg := q_t5 108 rfl rfl
theorem se_md_look : Cond.selects y_md_look.cls y_md_look y_md_look ∈ qg := q_sel 28 rfl rfl
abbrev b_md_blanks : ByteArray := prog_10_method_7_code
def y_md_blanks : MethodName := ⟨"BillForgeModel", "blanks", "()V"⟩
theorem co_md_blanks : Cond.code y_md_blanks b_md_blanks 1 none ∈ qg := q_t5 105 rfl rfl
theorem im_md_blanks : Cond.instanceMethod y_md_blanks ∈ qg := q_t5 104 rfl rfl
theorem se_md_blanks : Cond.selects y_md_blanks.cls y_md_blanks y_md_blanks ∈ qg := q_sel 27 rfl rfl
abbrev b_md_isDigit : ByteArray := prog_10_method_8_code
def y_md_isDigit : MethodName := ⟨"BillForgeModel", "isDigit", "(I)Z"⟩
theorem co_md_isDigit : Cond.code y_md_isDigit b_md_isDigit 1 (some .boolean) ∈ qg := q_t5 128 rfl rfl
theorem sm_md_isDigit : Cond.static y_md_isDigit ∈ qg := q_t5 127 rfl rfl
abbrev b_md_number : ByteArray := prog_10_method_9_code
def y_md_number : MethodName := ⟨"BillForgeModel", "number", "(I)I"⟩
theorem co_md_number : Cond.code y_md_number b_md_number 5 (some .int) ∈ qg := q_t5 125 rfl rfl
theorem im_md_number : Cond.instanceMethod y_md_number ∈ qg := q_t5 124 rfl rfl
theorem se_md_number : Cond.selects y_md_number.cls y_md_number y_md_number ∈ qg := q_sel 30 rfl rfl
abbrev b_md_word : ByteArray := prog_10_method_10_code
def y_md_word : MethodName := ⟨"BillForgeModel", "word", "(I)I"⟩
theorem co_md_word : Cond.code y_md_word b_md_word 6 (some .int) ∈ qg := q_t5 115 rfl rfl
theorem im_md_word : Cond.instanceMethod y_md_word ∈ qg := q_t5 114 rfl rfl
theorem se_md_word : Cond.selects y_md_word.cls y_md_word y_md_word ∈ qg := q_sel 29 rfl rfl
abbrev b_md_part : ByteArray := prog_10_method_11_code
def y_md_part : MethodName := ⟨"BillForgeModel", "part", "()Z"⟩
theorem co_md_part : Cond.code y_md_part b_md_part 7 (some .boolean) ∈ qg := q_t5 101 rfl rfl
theorem im_md_part : Cond.instanceMethod y_md_part ∈ qg := q_t5 100 rfl rfl
theorem se_md_part : Cond.selects y_md_part.cls y_md_part y_md_part ∈ qg := q_sel 26 rfl rfl
abbrev b_md_read : ByteArray := prog_10_method_12_code
def y_md_read : MethodName := ⟨"BillForgeModel", "read", "()Z"⟩
theorem co_md_read : Cond.code y_md_read b_md_read 2 (some .boolean) ∈ qg := q_t5 97 rfl rfl
theorem im_md_read : Cond.instanceMethod y_md_read ∈ qg := q_t5 96 rfl rfl
theorem se_md_read : Cond.selects y_md_read.cls y_md_read y_md_read ∈ qg := q_sel 25 rfl rfl
abbrev b_md_tariff : ByteArray := prog_10_method_13_code
def y_md_tariff : MethodName := ⟨"BillForgeModel", "tariff", "(I)I"⟩
theorem co_md_tariff : Cond.code y_md_tariff b_md_tariff 3 (some .int) ∈ qg := q_t5 92 rfl rfl
theorem im_md_tariff : Cond.instanceMethod y_md_tariff ∈ qg := q_t5 90 rfl rfl
theorem se_md_tariff : Cond.selects y_md_tariff.cls y_md_tariff y_md_tariff ∈ qg := q_t5 91 rfl rfl
abbrev b_md_where : ByteArray := prog_10_method_14_code
def y_md_where : MethodName := ⟨"BillForgeModel", "where", "()I"⟩
theorem co_md_where : Cond.code y_md_where b_md_where 1 (some .int) ∈ qg := q_t5 134 rfl rfl
theorem im_md_where : Cond.instanceMethod y_md_where ∈ qg := q_t5 132 rfl rfl
theorem se_md_where : Cond.selects y_md_where.cls y_md_where y_md_where ∈ qg := q_t5 133 rfl rfl
abbrev b_md_priced : ByteArray := prog_10_method_15_code
def y_md_priced : MethodName := ⟨"BillForgeModel", "priced", "(IJJJ)J"⟩
theorem co_md_priced : Cond.code y_md_priced b_md_priced 17 (some .long) ∈ qg := q_t5 143 rfl rfl
theorem im_md_priced : Cond.instanceMethod y_md_priced ∈ qg := q_t5 142 rfl rfl
theorem se_md_priced : Cond.selects y_md_priced.cls y_md_priced y_md_priced ∈ qg := q_sel 31 rfl rfl
abbrev b_md_use : ByteArray := prog_10_method_16_code
def y_md_use : MethodName := ⟨"BillForgeModel", "use", "(II)J"⟩
theorem co_md_use : Cond.code y_md_use b_md_use 3 (some .long) ∈ qg := q_t5 138 rfl rfl
theorem im_md_use : Cond.instanceMethod y_md_use ∈ qg := q_t5 136 rfl rfl
theorem se_md_use : Cond.selects y_md_use.cls y_md_use y_md_use ∈ qg := q_t5 137 rfl rfl
abbrev b_md_leaps : ByteArray := prog_10_method_17_code
def y_md_leaps : MethodName := ⟨"BillForgeModel", "leaps", "(I)Z"⟩
theorem co_md_leaps : Cond.code y_md_leaps b_md_leaps 1 (some .boolean) ∈ qg := q_t5 155 rfl rfl
theorem sm_md_leaps : Cond.static y_md_leaps ∈ qg := q_t5 154 rfl rfl
abbrev b_md_daysOf : ByteArray := prog_10_method_18_code
def y_md_daysOf : MethodName := ⟨"BillForgeModel", "daysOf", "(I)I"⟩
theorem co_md_daysOf : Cond.code y_md_daysOf b_md_daysOf 3 (some .int) ∈ qg := q_t5 152 rfl rfl
theorem sm_md_daysOf : Cond.static y_md_daysOf ∈ qg := q_t5 151 rfl rfl
abbrev b_md_firstOf : ByteArray := prog_10_method_19_code
def y_md_firstOf : MethodName := ⟨"BillForgeModel", "firstOf", "(I)I"⟩
theorem co_md_firstOf : Cond.code y_md_firstOf b_md_firstOf 3 (some .int) ∈ qg := q_t5 168 rfl rfl
theorem sm_md_firstOf : Cond.static y_md_firstOf ∈ qg := q_t5 167 rfl rfl
abbrev b_md_date : ByteArray := prog_10_method_20_code
def y_md_date : MethodName := ⟨"BillForgeModel", "date", "(II)I"⟩
theorem co_md_date : Cond.code y_md_date b_md_date 5 (some .int) ∈ qg := q_t5 147 rfl rfl
theorem im_md_date : Cond.instanceMethod y_md_date ∈ qg := q_t5 145 rfl rfl
theorem se_md_date : Cond.selects y_md_date.cls y_md_date y_md_date ∈ qg := q_t5 146 rfl rfl
abbrev b_md_live : ByteArray := prog_10_method_21_code
def y_md_live : MethodName := ⟨"BillForgeModel", "live", "(II)I"⟩
theorem co_md_live : Cond.code y_md_live b_md_live 3 (some .int) ∈ qg := q_t5 172 rfl rfl
theorem im_md_live : Cond.instanceMethod y_md_live ∈ qg := q_t5 171 rfl rfl
theorem se_md_live : Cond.selects y_md_live.cls y_md_live y_md_live ∈ qg := q_sel 33 rfl rfl
abbrev b_md_due : ByteArray := prog_10_method_22_code
def y_md_due : MethodName := ⟨"BillForgeModel", "due", "(II)J"⟩
theorem co_md_due : Cond.code y_md_due b_md_due 13 (some .long) ∈ qg := q_t5 165 rfl rfl
theorem im_md_due : Cond.instanceMethod y_md_due ∈ qg := q_t5 164 rfl rfl
theorem se_md_due : Cond.selects y_md_due.cls y_md_due y_md_due ∈ qg := q_sel 32 rfl rfl
abbrev b_md_charge : ByteArray := prog_10_method_23_code
def y_md_charge : MethodName := ⟨"BillForgeModel", "charge", "(II)J"⟩
theorem co_md_charge : Cond.code y_md_charge b_md_charge 3 (some .long) ∈ qg := q_t5 159 rfl rfl
theorem im_md_charge : Cond.instanceMethod y_md_charge ∈ qg := q_t5 157 rfl rfl
theorem se_md_charge : Cond.selects y_md_charge.cls y_md_charge y_md_charge ∈ qg := q_t5 158 rfl rfl
abbrev b_md_subscribe : ByteArray := prog_10_method_24_code
def y_md_subscribe : MethodName := ⟨"BillForgeModel", "subscribe", "(II)I"⟩
theorem co_md_subscribe : Cond.code y_md_subscribe b_md_subscribe 4 (some .int) ∈ qg := q_t5 176 rfl rfl
theorem im_md_subscribe : Cond.instanceMethod y_md_subscribe ∈ qg := q_t5 174 rfl rfl
theorem se_md_subscribe : Cond.selects y_md_subscribe.cls y_md_subscribe y_md_subscribe ∈ qg := q_t5 175 rfl rfl
abbrev b_md_pause : ByteArray := prog_10_method_25_code
def y_md_pause : MethodName := ⟨"BillForgeModel", "pause", "(IZ)Z"⟩
theorem co_md_pause : Cond.code y_md_pause b_md_pause 4 (some .boolean) ∈ qg := q_t5 181 rfl rfl
theorem im_md_pause : Cond.instanceMethod y_md_pause ∈ qg := q_t5 179 rfl rfl
theorem se_md_pause : Cond.selects y_md_pause.cls y_md_pause y_md_pause ∈ qg := q_t5 180 rfl rfl
abbrev b_md_event : ByteArray := prog_10_method_26_code
def y_md_event : MethodName := ⟨"BillForgeModel", "event", "(IIII)I"⟩
theorem co_md_event : Cond.code y_md_event b_md_event 6 (some .int) ∈ qg := q_t5 185 rfl rfl
theorem im_md_event : Cond.instanceMethod y_md_event ∈ qg := q_t5 183 rfl rfl
theorem se_md_event : Cond.selects y_md_event.cls y_md_event y_md_event ∈ qg := q_t5 184 rfl rfl
abbrev b_md_overdue : ByteArray := prog_10_method_27_code
def y_md_overdue : MethodName := ⟨"BillForgeModel", "overdue", "(I)I"⟩
theorem co_md_overdue : Cond.code y_md_overdue b_md_overdue 3 (some .int) ∈ qg := q_t5 199 rfl rfl
theorem im_md_overdue : Cond.instanceMethod y_md_overdue ∈ qg := q_t5 198 rfl rfl
theorem se_md_overdue : Cond.selects y_md_overdue.cls y_md_overdue y_md_overdue ∈ qg := q_sel 35 rfl rfl
abbrev b_md_look2 : ByteArray := prog_10_method_28_code
def y_md_look2 : MethodName := ⟨"BillForgeModel", "look", "(I)V"⟩
theorem co_md_look2 : Cond.code y_md_look2 b_md_look2 4 none ∈ qg := q_t5 195 rfl rfl
theorem im_md_look2 : Cond.instanceMethod y_md_look2 ∈ qg := q_t5 194 rfl rfl
theorem se_md_look2 : Cond.selects y_md_look2.cls y_md_look2 y_md_look2 ∈ qg := q_sel 34 rfl rfl
abbrev b_md_tick : ByteArray := prog_10_method_29_code
def y_md_tick : MethodName := ⟨"BillForgeModel", "tick", "(I)I"⟩
theorem co_md_tick : Cond.code y_md_tick b_md_tick 4 (some .int) ∈ qg := q_t5 190 rfl rfl
theorem im_md_tick : Cond.instanceMethod y_md_tick ∈ qg := q_t5 188 rfl rfl
theorem se_md_tick : Cond.selects y_md_tick.cls y_md_tick y_md_tick ∈ qg := q_t5 189 rfl rfl
abbrev b_md_settle : ByteArray := prog_10_method_30_code
def y_md_settle : MethodName := ⟨"BillForgeModel", "settle", "(I)V"⟩
theorem co_md_settle : Cond.code y_md_settle b_md_settle 8 none ∈ qg := q_t5 207 rfl rfl
theorem im_md_settle : Cond.instanceMethod y_md_settle ∈ qg := q_t5 206 rfl rfl
theorem se_md_settle : Cond.selects y_md_settle.cls y_md_settle y_md_settle ∈ qg := q_sel 36 rfl rfl
abbrev b_md_run : ByteArray := prog_10_method_31_code
def y_md_run : MethodName := ⟨"BillForgeModel", "run", "()I"⟩
theorem co_md_run : Cond.code y_md_run b_md_run 9 (some .int) ∈ qg := q_t5 203 rfl rfl
theorem im_md_run : Cond.instanceMethod y_md_run ∈ qg := q_t5 201 rfl rfl
theorem se_md_run : Cond.selects y_md_run.cls y_md_run y_md_run ∈ qg := q_t5 202 rfl rfl
abbrev b_md_pay : ByteArray := prog_10_method_32_code
def y_md_pay : MethodName := ⟨"BillForgeModel", "pay", "(IJ)J"⟩
theorem co_md_pay : Cond.code y_md_pay b_md_pay 6 (some .long) ∈ qg := q_t5 211 rfl rfl
theorem im_md_pay : Cond.instanceMethod y_md_pay ∈ qg := q_t5 209 rfl rfl
theorem se_md_pay : Cond.selects y_md_pay.cls y_md_pay y_md_pay ∈ qg := q_t5 210 rfl rfl
abbrev b_md_plan : ByteArray := prog_10_method_33_code
def y_md_plan : MethodName := ⟨"BillForgeModel", "plan", "(IJI)I"⟩
theorem co_md_plan : Cond.code y_md_plan b_md_plan 5 (some .int) ∈ qg := q_t5 215 rfl rfl
theorem im_md_plan : Cond.instanceMethod y_md_plan ∈ qg := q_t5 213 rfl rfl
theorem se_md_plan : Cond.selects y_md_plan.cls y_md_plan y_md_plan ∈ qg := q_t5 214 rfl rfl
abbrev b_md_earned : ByteArray := prog_10_method_34_code
def y_md_earned : MethodName := ⟨"BillForgeModel", "earned", "(I)J"⟩
theorem co_md_earned : Cond.code y_md_earned b_md_earned 3 (some .long) ∈ qg := q_t5 233 rfl rfl
theorem im_md_earned : Cond.instanceMethod y_md_earned ∈ qg := q_t5 232 rfl rfl
theorem se_md_earned : Cond.selects y_md_earned.cls y_md_earned y_md_earned ∈ qg := q_sel 38 rfl rfl
abbrev b_md_invoice : ByteArray := prog_10_method_35_code
def y_md_invoice : MethodName := ⟨"BillForgeModel", "invoice", "(II)J"⟩
theorem co_md_invoice : Cond.code y_md_invoice b_md_invoice 3 (some .long) ∈ qg := q_t5 220 rfl rfl
theorem im_md_invoice : Cond.instanceMethod y_md_invoice ∈ qg := q_t5 218 rfl rfl
theorem se_md_invoice : Cond.selects y_md_invoice.cls y_md_invoice y_md_invoice ∈ qg := q_t5 219 rfl rfl
abbrev b_md_open : ByteArray := prog_10_method_36_code
def y_md_open : MethodName := ⟨"BillForgeModel", "open", "(I)J"⟩
theorem co_md_open : Cond.code y_md_open b_md_open 5 (some .long) ∈ qg := q_t5 229 rfl rfl
theorem im_md_open : Cond.instanceMethod y_md_open ∈ qg := q_t5 228 rfl rfl
theorem se_md_open : Cond.selects y_md_open.cls y_md_open y_md_open ∈ qg := q_sel 37 rfl rfl
abbrev b_md_told : ByteArray := prog_10_method_37_code
def y_md_told : MethodName := ⟨"BillForgeModel", "told", "(II)J"⟩
theorem co_md_told : Cond.code y_md_told b_md_told 6 (some .long) ∈ qg := q_t5 224 rfl rfl
theorem im_md_told : Cond.instanceMethod y_md_told ∈ qg := q_t5 222 rfl rfl
theorem se_md_told : Cond.selects y_md_told.cls y_md_told y_md_told ∈ qg := q_t5 223 rfl rfl
abbrev b_md_books : ByteArray := prog_10_method_38_code
def y_md_books : MethodName := ⟨"BillForgeModel", "books", "(I)J"⟩
theorem co_md_books : Cond.code y_md_books b_md_books 5 (some .long) ∈ qg := q_t5 237 rfl rfl
theorem im_md_books : Cond.instanceMethod y_md_books ∈ qg := q_t5 235 rfl rfl
theorem se_md_books : Cond.selects y_md_books.cls y_md_books y_md_books ∈ qg := q_t5 236 rfl rfl
abbrev b_md_count : ByteArray := prog_10_method_39_code
def y_md_count : MethodName := ⟨"BillForgeModel", "count", "(I)I"⟩
theorem co_md_count : Cond.code y_md_count b_md_count 2 (some .int) ∈ qg := q_t6 1 rfl rfl
theorem im_md_count : Cond.instanceMethod y_md_count ∈ qg := q_t5 239 rfl rfl
theorem se_md_count : Cond.selects y_md_count.cls y_md_count y_md_count ∈ qg := q_t6 0 rfl rfl
abbrev b_al_yearOf : ByteArray := prog_2_method_2_code
def y_al_yearOf : MethodName := ⟨"BillForge$Almanac", "yearOf", "(I)I"⟩
theorem co_al_yearOf : Cond.code y_al_yearOf b_al_yearOf 1 (some .int) ∈ qg := q_t1 197 rfl rfl
theorem sm_al_yearOf : Cond.static y_al_yearOf ∈ qg := q_t1 196 rfl rfl
abbrev b_al_monthOf : ByteArray := prog_2_method_3_code
def y_al_monthOf : MethodName := ⟨"BillForge$Almanac", "monthOf", "(I)I"⟩
theorem co_al_monthOf : Cond.code y_al_monthOf b_al_monthOf 1 (some .int) ∈ qg := q_t1 203 rfl rfl
theorem sm_al_monthOf : Cond.static y_al_monthOf ∈ qg := q_t1 202 rfl rfl
abbrev b_al_firstDayOf : ByteArray := prog_2_method_4_code
def y_al_firstDayOf : MethodName := ⟨"BillForge$Almanac", "firstDayOf", "(I)I"⟩
theorem co_al_firstDayOf : Cond.code y_al_firstDayOf b_al_firstDayOf 4 (some .int) ∈ qg := q_t1 194 rfl rfl
theorem sm_al_firstDayOf : Cond.static y_al_firstDayOf ∈ qg := q_t1 193 rfl rfl
abbrev b_al_periodOf : ByteArray := prog_2_method_5_code
def y_al_periodOf : MethodName := ⟨"BillForge$Almanac", "periodOf", "(I)I"⟩
theorem co_al_periodOf : Cond.code y_al_periodOf b_al_periodOf 4 (some .int) ∈ qg := q_t4 178 rfl rfl
theorem sm_al_periodOf : Cond.static y_al_periodOf ∈ qg := q_t4 177 rfl rfl
abbrev b_al_firstDayOfYear : ByteArray := prog_2_method_6_code
def y_al_firstDayOfYear : MethodName := ⟨"BillForge$Almanac", "firstDayOfYear", "(I)I"⟩
theorem co_al_firstDayOfYear : Cond.code y_al_firstDayOfYear b_al_firstDayOfYear 3 (some .int) ∈ qg := q_t1 200 rfl rfl
theorem sm_al_firstDayOfYear : Cond.static y_al_firstDayOfYear ∈ qg := q_t1 199 rfl rfl
abbrev b_al_daysInMonth : ByteArray := prog_2_method_7_code
def y_al_daysInMonth : MethodName := ⟨"BillForge$Almanac", "daysInMonth", "(II)I"⟩
theorem co_al_daysInMonth : Cond.code y_al_daysInMonth b_al_daysInMonth 2 (some .int) ∈ qg := q_t1 206 rfl rfl
theorem sm_al_daysInMonth : Cond.static y_al_daysInMonth ∈ qg := q_t1 205 rfl rfl
abbrev b_al_isLeapYear : ByteArray := prog_2_method_8_code
def y_al_isLeapYear : MethodName := ⟨"BillForge$Almanac", "isLeapYear", "(I)Z"⟩
theorem co_al_isLeapYear : Cond.code y_al_isLeapYear b_al_isLeapYear 1 (some .boolean) ∈ qg := q_t1 209 rfl rfl
theorem sm_al_isLeapYear : Cond.static y_al_isLeapYear ∈ qg := q_t1 208 rfl rfl
abbrev b_cu_init : ByteArray := prog_3_method_1_code
def y_cu_init : MethodName := ⟨"BillForge$Customer", "<init>", "()V"⟩
theorem co_cu_init : Cond.code y_cu_init b_cu_init 1 none ∈ qg := q_t1 173 rfl rfl
theorem im_cu_init : Cond.instanceMethod y_cu_init ∈ qg := q_t1 172 rfl rfl
abbrev b_cu_tariffNow : ByteArray := prog_3_method_2_code
def y_cu_tariffNow : MethodName := ⟨"BillForge$Customer", "tariffNow", "()I"⟩
theorem co_cu_tariffNow : Cond.code y_cu_tariffNow b_cu_tariffNow 1 (some .int) ∈ qg := q_t3 192 rfl rfl
theorem im_cu_tariffNow : Cond.instanceMethod y_cu_tariffNow ∈ qg := q_t3 190 rfl rfl
theorem se_cu_tariffNow : Cond.selects y_cu_tariffNow.cls y_cu_tariffNow y_cu_tariffNow ∈ qg := q_t3 191 rfl rfl
abbrev b_cu_isPaused : ByteArray := prog_3_method_3_code
def y_cu_isPaused : MethodName := ⟨"BillForge$Customer", "isPaused", "()Z"⟩
theorem co_cu_isPaused : Cond.code y_cu_isPaused b_cu_isPaused 1 (some .boolean) ∈ qg := q_t3 212 rfl rfl
theorem im_cu_isPaused : Cond.instanceMethod y_cu_isPaused ∈ qg := q_t3 210 rfl rfl
theorem se_cu_isPaused : Cond.selects y_cu_isPaused.cls y_cu_isPaused y_cu_isPaused ∈ qg := q_t3 211 rfl rfl
abbrev b_cu_stage : ByteArray := prog_3_method_4_code
def y_cu_stage : MethodName := ⟨"BillForge$Customer", "stage", "()I"⟩
theorem co_cu_stage : Cond.code y_cu_stage b_cu_stage 1 (some .int) ∈ qg := q_t4 124 rfl rfl
theorem im_cu_stage : Cond.instanceMethod y_cu_stage ∈ qg := q_t4 122 rfl rfl
theorem se_cu_stage : Cond.selects y_cu_stage.cls y_cu_stage y_cu_stage ∈ qg := q_t4 123 rfl rfl
abbrev b_cu_credit : ByteArray := prog_3_method_5_code
def y_cu_credit : MethodName := ⟨"BillForge$Customer", "credit", "()J"⟩
theorem co_cu_credit : Cond.code y_cu_credit b_cu_credit 1 (some .long) ∈ qg := q_t2 113 rfl rfl
theorem im_cu_credit : Cond.instanceMethod y_cu_credit ∈ qg := q_t2 111 rfl rfl
theorem se_cu_credit : Cond.selects y_cu_credit.cls y_cu_credit y_cu_credit ∈ qg := q_t2 112 rfl rfl
abbrev b_cu_isStopped : ByteArray := prog_3_method_6_code
def y_cu_isStopped : MethodName := ⟨"BillForge$Customer", "isStopped", "()Z"⟩
theorem co_cu_isStopped : Cond.code y_cu_isStopped b_cu_isStopped 1 (some .boolean) ∈ qg := q_t3 200 rfl rfl
theorem im_cu_isStopped : Cond.instanceMethod y_cu_isStopped ∈ qg := q_t3 198 rfl rfl
theorem se_cu_isStopped : Cond.selects y_cu_isStopped.cls y_cu_isStopped y_cu_isStopped ∈ qg := q_t3 199 rfl rfl
abbrev b_cu_changeTariff : ByteArray := prog_3_method_7_code
def y_cu_changeTariff : MethodName := ⟨"BillForge$Customer", "changeTariff", "(I)V"⟩
theorem co_cu_changeTariff : Cond.code y_cu_changeTariff b_cu_changeTariff 2 none ∈ qg := q_t3 196 rfl rfl
theorem im_cu_changeTariff : Cond.instanceMethod y_cu_changeTariff ∈ qg := q_t3 194 rfl rfl
theorem se_cu_changeTariff : Cond.selects y_cu_changeTariff.cls y_cu_changeTariff y_cu_changeTariff ∈ qg := q_t3 195 rfl rfl
abbrev b_cu_setPaused : ByteArray := prog_3_method_8_code
def y_cu_setPaused : MethodName := ⟨"BillForge$Customer", "setPaused", "(Z)V"⟩
theorem co_cu_setPaused : Cond.code y_cu_setPaused b_cu_setPaused 2 none ∈ qg := q_t3 216 rfl rfl
theorem im_cu_setPaused : Cond.instanceMethod y_cu_setPaused ∈ qg := q_t3 214 rfl rfl
theorem se_cu_setPaused : Cond.selects y_cu_setPaused.cls y_cu_setPaused y_cu_setPaused ∈ qg := q_t3 215 rfl rfl
abbrev b_cu_addCredit : ByteArray := prog_3_method_9_code
def y_cu_addCredit : MethodName := ⟨"BillForge$Customer", "addCredit", "(J)V"⟩
theorem co_cu_addCredit : Cond.code y_cu_addCredit b_cu_addCredit 3 none ∈ qg := q_t2 105 rfl rfl
theorem im_cu_addCredit : Cond.instanceMethod y_cu_addCredit ∈ qg := q_t2 103 rfl rfl
theorem se_cu_addCredit : Cond.selects y_cu_addCredit.cls y_cu_addCredit y_cu_addCredit ∈ qg := q_t2 104 rfl rfl
abbrev b_cu_keepDay : ByteArray := prog_3_method_10_code
def y_cu_keepDay : MethodName := ⟨"BillForge$Customer", "keepDay", "(I)V"⟩
theorem co_cu_keepDay : Cond.code y_cu_keepDay b_cu_keepDay 2 none ∈ qg := q_t4 27 rfl rfl
theorem im_cu_keepDay : Cond.instanceMethod y_cu_keepDay ∈ qg := q_t4 25 rfl rfl
theorem se_cu_keepDay : Cond.selects y_cu_keepDay.cls y_cu_keepDay y_cu_keepDay ∈ qg := q_t4 26 rfl rfl
abbrev b_cu_liveTariff : ByteArray := prog_3_method_11_code
def y_cu_liveTariff : MethodName := ⟨"BillForge$Customer", "liveTariff", "(II)I"⟩
theorem co_cu_liveTariff : Cond.code y_cu_liveTariff b_cu_liveTariff 3 (some .int) ∈ qg := q_t2 39 rfl rfl
theorem im_cu_liveTariff : Cond.instanceMethod y_cu_liveTariff ∈ qg := q_t2 37 rfl rfl
theorem se_cu_liveTariff : Cond.selects y_cu_liveTariff.cls y_cu_liveTariff y_cu_liveTariff ∈ qg := q_t2 38 rfl rfl
abbrev b_cu_lookAtStage : ByteArray := prog_3_method_12_code
def y_cu_lookAtStage : MethodName := ⟨"BillForge$Customer", "lookAtStage", "(I)V"⟩
theorem co_cu_lookAtStage : Cond.code y_cu_lookAtStage b_cu_lookAtStage 3 none ∈ qg := q_t2 136 rfl rfl
theorem im_cu_lookAtStage : Cond.instanceMethod y_cu_lookAtStage ∈ qg := q_t2 134 rfl rfl
theorem se_cu_lookAtStage : Cond.selects y_cu_lookAtStage.cls y_cu_lookAtStage y_cu_lookAtStage ∈ qg := q_t2 135 rfl rfl
abbrev b_cu_liveTariffNow : ByteArray := prog_3_method_13_code
def y_cu_liveTariffNow : MethodName := ⟨"BillForge$Customer", "liveTariffNow", "()I"⟩
theorem co_cu_liveTariffNow : Cond.code y_cu_liveTariffNow b_cu_liveTariffNow 1 (some .int) ∈ qg := q_t2 43 rfl rfl
theorem im_cu_liveTariffNow : Cond.instanceMethod y_cu_liveTariffNow ∈ qg := q_t2 42 rfl rfl
theorem se_cu_liveTariffNow : Cond.selects y_cu_liveTariffNow.cls y_cu_liveTariffNow y_cu_liveTariffNow ∈ qg := q_sel 3 rfl rfl
abbrev b_cu_stageFor : ByteArray := prog_3_method_14_code
def y_cu_stageFor : MethodName := ⟨"BillForge$Customer", "stageFor", "(I)I"⟩
theorem co_cu_stageFor : Cond.code y_cu_stageFor b_cu_stageFor 1 (some .int) ∈ qg := q_t2 139 rfl rfl
theorem sm_cu_stageFor : Cond.static y_cu_stageFor ∈ qg := q_t2 138 rfl rfl
abbrev b_ev_init : ByteArray := prog_4_method_1_code
def y_ev_init : MethodName := ⟨"BillForge$EventLog", "<init>", "()V"⟩
theorem co_ev_init : Cond.code y_ev_init b_ev_init 1 none ∈ qg := q_t1 103 rfl rfl
theorem im_ev_init : Cond.instanceMethod y_ev_init ∈ qg := q_t1 102 rfl rfl
abbrev b_ev_size : ByteArray := prog_4_method_2_code
def y_ev_size : MethodName := ⟨"BillForge$EventLog", "size", "()I"⟩
theorem co_ev_size : Cond.code y_ev_size b_ev_size 1 (some .int) ∈ qg := q_t2 54 rfl rfl
theorem im_ev_size : Cond.instanceMethod y_ev_size ∈ qg := q_t2 52 rfl rfl
theorem se_ev_size : Cond.selects y_ev_size.cls y_ev_size y_ev_size ∈ qg := q_t2 53 rfl rfl
abbrev b_ev_isFull : ByteArray := prog_4_method_3_code
def y_ev_isFull : MethodName := ⟨"BillForge$EventLog", "isFull", "()Z"⟩
theorem co_ev_isFull : Cond.code y_ev_isFull b_ev_isFull 1 (some .boolean) ∈ qg := q_t4 7 rfl rfl
theorem im_ev_isFull : Cond.instanceMethod y_ev_isFull ∈ qg := q_t4 5 rfl rfl
theorem se_ev_isFull : Cond.selects y_ev_isFull.cls y_ev_isFull y_ev_isFull ∈ qg := q_t4 6 rfl rfl
abbrev b_ev_has : ByteArray := prog_4_method_4_code
def y_ev_has : MethodName := ⟨"BillForge$EventLog", "has", "(I)Z"⟩
theorem co_ev_has : Cond.code y_ev_has b_ev_has 3 (some .boolean) ∈ qg := q_t4 3 rfl rfl
theorem im_ev_has : Cond.instanceMethod y_ev_has ∈ qg := q_t4 1 rfl rfl
theorem se_ev_has : Cond.selects y_ev_has.cls y_ev_has y_ev_has ∈ qg := q_t4 2 rfl rfl
abbrev b_ev_add : ByteArray := prog_4_method_5_code
def y_ev_add : MethodName := ⟨"BillForge$EventLog", "add", "(IIII)V"⟩
theorem co_ev_add : Cond.code y_ev_add b_ev_add 5 none ∈ qg := q_t4 11 rfl rfl
theorem im_ev_add : Cond.instanceMethod y_ev_add ∈ qg := q_t4 9 rfl rfl
theorem se_ev_add : Cond.selects y_ev_add.cls y_ev_add y_ev_add ∈ qg := q_t4 10 rfl rfl
abbrev b_ev_customerOf : ByteArray := prog_4_method_6_code
def y_ev_customerOf : MethodName := ⟨"BillForge$EventLog", "customerOf", "(I)I"⟩
theorem co_ev_customerOf : Cond.code y_ev_customerOf b_ev_customerOf 2 (some .int) ∈ qg := q_t2 62 rfl rfl
theorem im_ev_customerOf : Cond.instanceMethod y_ev_customerOf ∈ qg := q_t2 60 rfl rfl
theorem se_ev_customerOf : Cond.selects y_ev_customerOf.cls y_ev_customerOf y_ev_customerOf ∈ qg := q_t2 61 rfl rfl
abbrev b_ev_dayOf : ByteArray := prog_4_method_7_code
def y_ev_dayOf : MethodName := ⟨"BillForge$EventLog", "dayOf", "(I)I"⟩
theorem co_ev_dayOf : Cond.code y_ev_dayOf b_ev_dayOf 2 (some .int) ∈ qg := q_t2 58 rfl rfl
theorem im_ev_dayOf : Cond.instanceMethod y_ev_dayOf ∈ qg := q_t2 56 rfl rfl
theorem se_ev_dayOf : Cond.selects y_ev_dayOf.cls y_ev_dayOf y_ev_dayOf ∈ qg := q_t2 57 rfl rfl
abbrev b_ev_unitsOf : ByteArray := prog_4_method_8_code
def y_ev_unitsOf : MethodName := ⟨"BillForge$EventLog", "unitsOf", "(I)I"⟩
theorem co_ev_unitsOf : Cond.code y_ev_unitsOf b_ev_unitsOf 2 (some .int) ∈ qg := q_t2 66 rfl rfl
theorem im_ev_unitsOf : Cond.instanceMethod y_ev_unitsOf ∈ qg := q_t2 64 rfl rfl
theorem se_ev_unitsOf : Cond.selects y_ev_unitsOf.cls y_ev_unitsOf y_ev_unitsOf ∈ qg := q_t2 65 rfl rfl
abbrev b_ib_init : ByteArray := prog_5_method_1_code
def y_ib_init : MethodName := ⟨"BillForge$InvoiceBook", "<init>", "()V"⟩
theorem co_ib_init : Cond.code y_ib_init b_ib_init 1 none ∈ qg := q_t1 125 rfl rfl
theorem im_ib_init : Cond.instanceMethod y_ib_init ∈ qg := q_t1 124 rfl rfl
abbrev b_ib_size : ByteArray := prog_5_method_2_code
def y_ib_size : MethodName := ⟨"BillForge$InvoiceBook", "size", "()I"⟩
theorem co_ib_size : Cond.code y_ib_size b_ib_size 1 (some .int) ∈ qg := q_t2 19 rfl rfl
theorem im_ib_size : Cond.instanceMethod y_ib_size ∈ qg := q_t2 17 rfl rfl
theorem se_ib_size : Cond.selects y_ib_size.cls y_ib_size y_ib_size ∈ qg := q_t2 18 rfl rfl
abbrev b_ib_isFull : ByteArray := prog_5_method_3_code
def y_ib_isFull : MethodName := ⟨"BillForge$InvoiceBook", "isFull", "()Z"⟩
theorem co_ib_isFull : Cond.code y_ib_isFull b_ib_isFull 1 (some .boolean) ∈ qg := q_t2 27 rfl rfl
theorem im_ib_isFull : Cond.instanceMethod y_ib_isFull ∈ qg := q_t2 25 rfl rfl
theorem se_ib_isFull : Cond.selects y_ib_isFull.cls y_ib_isFull y_ib_isFull ∈ qg := q_t2 26 rfl rfl
abbrev b_ib_has : ByteArray := prog_5_method_4_code
def y_ib_has : MethodName := ⟨"BillForge$InvoiceBook", "has", "(I)Z"⟩
theorem co_ib_has : Cond.code y_ib_has b_ib_has 2 (some .boolean) ∈ qg := q_t4 77 rfl rfl
theorem im_ib_has : Cond.instanceMethod y_ib_has ∈ qg := q_t4 75 rfl rfl
theorem se_ib_has : Cond.selects y_ib_has.cls y_ib_has y_ib_has ∈ qg := q_t4 76 rfl rfl
abbrev b_ib_add : ByteArray := prog_5_method_5_code
def y_ib_add : MethodName := ⟨"BillForge$InvoiceBook", "add", "(IIJI)V"⟩
theorem co_ib_add : Cond.code y_ib_add b_ib_add 6 none ∈ qg := q_t2 99 rfl rfl
theorem im_ib_add : Cond.instanceMethod y_ib_add ∈ qg := q_t2 97 rfl rfl
theorem se_ib_add : Cond.selects y_ib_add.cls y_ib_add y_ib_add ∈ qg := q_t2 98 rfl rfl
abbrev b_ib_customerOf : ByteArray := prog_5_method_6_code
def y_ib_customerOf : MethodName := ⟨"BillForge$InvoiceBook", "customerOf", "(I)I"⟩
theorem co_ib_customerOf : Cond.code y_ib_customerOf b_ib_customerOf 2 (some .int) ∈ qg := q_t4 96 rfl rfl
theorem im_ib_customerOf : Cond.instanceMethod y_ib_customerOf ∈ qg := q_t4 94 rfl rfl
theorem se_ib_customerOf : Cond.selects y_ib_customerOf.cls y_ib_customerOf y_ib_customerOf ∈ qg := q_t4 95 rfl rfl
abbrev b_ib_periodOf : ByteArray := prog_5_method_7_code
def y_ib_periodOf : MethodName := ⟨"BillForge$InvoiceBook", "periodOf", "(I)I"⟩
theorem co_ib_periodOf : Cond.code y_ib_periodOf b_ib_periodOf 2 (some .int) ∈ qg := q_t4 100 rfl rfl
theorem im_ib_periodOf : Cond.instanceMethod y_ib_periodOf ∈ qg := q_t4 98 rfl rfl
theorem se_ib_periodOf : Cond.selects y_ib_periodOf.cls y_ib_periodOf y_ib_periodOf ∈ qg := q_t4 99 rfl rfl
abbrev b_ib_amountOf : ByteArray := prog_5_method_8_code
def y_ib_amountOf : MethodName := ⟨"BillForge$InvoiceBook", "amountOf", "(I)J"⟩
theorem co_ib_amountOf : Cond.code y_ib_amountOf b_ib_amountOf 2 (some .long) ∈ qg := q_t4 104 rfl rfl
theorem im_ib_amountOf : Cond.instanceMethod y_ib_amountOf ∈ qg := q_t4 102 rfl rfl
theorem se_ib_amountOf : Cond.selects y_ib_amountOf.cls y_ib_amountOf y_ib_amountOf ∈ qg := q_t4 103 rfl rfl
abbrev b_ib_dayOf : ByteArray := prog_5_method_9_code
def y_ib_dayOf : MethodName := ⟨"BillForge$InvoiceBook", "dayOf", "(I)I"⟩
theorem co_ib_dayOf : Cond.code y_ib_dayOf b_ib_dayOf 2 (some .int) ∈ qg := q_t4 108 rfl rfl
theorem im_ib_dayOf : Cond.instanceMethod y_ib_dayOf ∈ qg := q_t4 106 rfl rfl
theorem se_ib_dayOf : Cond.selects y_ib_dayOf.cls y_ib_dayOf y_ib_dayOf ∈ qg := q_t4 107 rfl rfl
abbrev b_ib_paidOf : ByteArray := prog_5_method_10_code
def y_ib_paidOf : MethodName := ⟨"BillForge$InvoiceBook", "paidOf", "(I)J"⟩
theorem co_ib_paidOf : Cond.code y_ib_paidOf b_ib_paidOf 2 (some .long) ∈ qg := q_t4 112 rfl rfl
theorem im_ib_paidOf : Cond.instanceMethod y_ib_paidOf ∈ qg := q_t4 110 rfl rfl
theorem se_ib_paidOf : Cond.selects y_ib_paidOf.cls y_ib_paidOf y_ib_paidOf ∈ qg := q_t4 111 rfl rfl
abbrev b_ib_overdueDays : ByteArray := prog_5_method_11_code
def y_ib_overdueDays : MethodName := ⟨"BillForge$InvoiceBook", "overdueDays", "(II)I"⟩
theorem co_ib_overdueDays : Cond.code y_ib_overdueDays b_ib_overdueDays 3 (some .int) ∈ qg := q_t2 129 rfl rfl
theorem im_ib_overdueDays : Cond.instanceMethod y_ib_overdueDays ∈ qg := q_t2 127 rfl rfl
theorem se_ib_overdueDays : Cond.selects y_ib_overdueDays.cls y_ib_overdueDays y_ib_overdueDays ∈ qg := q_t2 128 rfl rfl
abbrev b_ib_mostOverdueDays : ByteArray := prog_5_method_12_code
def y_ib_mostOverdueDays : MethodName := ⟨"BillForge$InvoiceBook", "mostOverdueDays", "(II)I"⟩
theorem co_ib_mostOverdueDays : Cond.code y_ib_mostOverdueDays b_ib_mostOverdueDays 5 (some .int) ∈ qg := q_t2 125 rfl rfl
theorem im_ib_mostOverdueDays : Cond.instanceMethod y_ib_mostOverdueDays ∈ qg := q_t2 123 rfl rfl
theorem se_ib_mostOverdueDays : Cond.selects y_ib_mostOverdueDays.cls y_ib_mostOverdueDays y_ib_mostOverdueDays ∈ qg := q_t2 124 rfl rfl
abbrev b_ib_amountsOf : ByteArray := prog_5_method_13_code
def y_ib_amountsOf : MethodName := ⟨"BillForge$InvoiceBook", "amountsOf", "(II)J"⟩
theorem co_ib_amountsOf : Cond.code y_ib_amountsOf b_ib_amountsOf 6 (some .long) ∈ qg := q_t2 95 rfl rfl
theorem im_ib_amountsOf : Cond.instanceMethod y_ib_amountsOf ∈ qg := q_t2 93 rfl rfl
theorem se_ib_amountsOf : Cond.selects y_ib_amountsOf.cls y_ib_amountsOf y_ib_amountsOf ∈ qg := q_t2 94 rfl rfl
abbrev b_ib_allAmounts : ByteArray := prog_5_method_14_code
def y_ib_allAmounts : MethodName := ⟨"BillForge$InvoiceBook", "allAmounts", "()J"⟩
theorem co_ib_allAmounts : Cond.code y_ib_allAmounts b_ib_allAmounts 4 (some .long) ∈ qg := q_t4 159 rfl rfl
theorem im_ib_allAmounts : Cond.instanceMethod y_ib_allAmounts ∈ qg := q_t4 157 rfl rfl
theorem se_ib_allAmounts : Cond.selects y_ib_allAmounts.cls y_ib_allAmounts y_ib_allAmounts ∈ qg := q_t4 158 rfl rfl
abbrev b_ib_openOf : ByteArray := prog_5_method_15_code
def y_ib_openOf : MethodName := ⟨"BillForge$InvoiceBook", "openOf", "(I)J"⟩
theorem co_ib_openOf : Cond.code y_ib_openOf b_ib_openOf 5 (some .long) ∈ qg := q_t4 128 rfl rfl
theorem im_ib_openOf : Cond.instanceMethod y_ib_openOf ∈ qg := q_t4 126 rfl rfl
theorem se_ib_openOf : Cond.selects y_ib_openOf.cls y_ib_openOf y_ib_openOf ∈ qg := q_t4 127 rfl rfl
abbrev b_ib_payOpen : ByteArray := prog_5_method_16_code
def y_ib_payOpen : MethodName := ⟨"BillForge$InvoiceBook", "payOpen", "(IJ)J"⟩
theorem co_ib_payOpen : Cond.code y_ib_payOpen b_ib_payOpen 9 (some .long) ∈ qg := q_t2 117 rfl rfl
theorem im_ib_payOpen : Cond.instanceMethod y_ib_payOpen ∈ qg := q_t2 115 rfl rfl
theorem se_ib_payOpen : Cond.selects y_ib_payOpen.cls y_ib_payOpen y_ib_payOpen ∈ qg := q_t2 116 rfl rfl
abbrev b_pb_init : ByteArray := prog_6_method_1_code
def y_pb_init : MethodName := ⟨"BillForge$PlanBook", "<init>", "()V"⟩
theorem co_pb_init : Cond.code y_pb_init b_pb_init 1 none ∈ qg := q_t1 151 rfl rfl
theorem im_pb_init : Cond.instanceMethod y_pb_init ∈ qg := q_t1 150 rfl rfl
abbrev b_pb_size : ByteArray := prog_6_method_2_code
def y_pb_size : MethodName := ⟨"BillForge$PlanBook", "size", "()I"⟩
theorem co_pb_size : Cond.code y_pb_size b_pb_size 1 (some .int) ∈ qg := q_t4 58 rfl rfl
theorem im_pb_size : Cond.instanceMethod y_pb_size ∈ qg := q_t4 56 rfl rfl
theorem se_pb_size : Cond.selects y_pb_size.cls y_pb_size y_pb_size ∈ qg := q_t4 57 rfl rfl
abbrev b_pb_isFull : ByteArray := prog_6_method_3_code
def y_pb_isFull : MethodName := ⟨"BillForge$PlanBook", "isFull", "()Z"⟩
theorem co_pb_isFull : Cond.code y_pb_isFull b_pb_isFull 1 (some .boolean) ∈ qg := q_t4 49 rfl rfl
theorem im_pb_isFull : Cond.instanceMethod y_pb_isFull ∈ qg := q_t4 47 rfl rfl
theorem se_pb_isFull : Cond.selects y_pb_isFull.cls y_pb_isFull y_pb_isFull ∈ qg := q_t4 48 rfl rfl
abbrev b_pb_add : ByteArray := prog_6_method_4_code
def y_pb_add : MethodName := ⟨"BillForge$PlanBook", "add", "(IJII)V"⟩
theorem co_pb_add : Cond.code y_pb_add b_pb_add 6 none ∈ qg := q_t4 53 rfl rfl
theorem im_pb_add : Cond.instanceMethod y_pb_add ∈ qg := q_t4 51 rfl rfl
theorem se_pb_add : Cond.selects y_pb_add.cls y_pb_add y_pb_add ∈ qg := q_t4 52 rfl rfl
abbrev b_pb_amountsOf : ByteArray := prog_6_method_5_code
def y_pb_amountsOf : MethodName := ⟨"BillForge$PlanBook", "amountsOf", "(I)J"⟩
theorem co_pb_amountsOf : Cond.code y_pb_amountsOf b_pb_amountsOf 5 (some .long) ∈ qg := q_t4 132 rfl rfl
theorem im_pb_amountsOf : Cond.instanceMethod y_pb_amountsOf ∈ qg := q_t4 130 rfl rfl
theorem se_pb_amountsOf : Cond.selects y_pb_amountsOf.cls y_pb_amountsOf y_pb_amountsOf ∈ qg := q_t4 131 rfl rfl
abbrev b_pb_allAmounts : ByteArray := prog_6_method_6_code
def y_pb_allAmounts : MethodName := ⟨"BillForge$PlanBook", "allAmounts", "()J"⟩
theorem co_pb_allAmounts : Cond.code y_pb_allAmounts b_pb_allAmounts 4 (some .long) ∈ qg := q_t4 167 rfl rfl
theorem im_pb_allAmounts : Cond.instanceMethod y_pb_allAmounts ∈ qg := q_t4 165 rfl rfl
theorem se_pb_allAmounts : Cond.selects y_pb_allAmounts.cls y_pb_allAmounts y_pb_allAmounts ∈ qg := q_t4 166 rfl rfl
abbrev b_pb_earnedOf : ByteArray := prog_6_method_7_code
def y_pb_earnedOf : MethodName := ⟨"BillForge$PlanBook", "earnedOf", "(II)J"⟩
theorem co_pb_earnedOf : Cond.code y_pb_earnedOf b_pb_earnedOf 7 (some .long) ∈ qg := q_t4 136 rfl rfl
theorem im_pb_earnedOf : Cond.instanceMethod y_pb_earnedOf ∈ qg := q_t4 134 rfl rfl
theorem se_pb_earnedOf : Cond.selects y_pb_earnedOf.cls y_pb_earnedOf y_pb_earnedOf ∈ qg := q_t4 135 rfl rfl
abbrev b_tf_init : ByteArray := prog_7_method_1_code
def y_tf_init : MethodName := ⟨"BillForge$Tariff", "<init>", "()V"⟩
theorem co_tf_init : Cond.code y_tf_init b_tf_init 1 none ∈ qg := q_t1 40 rfl rfl
theorem im_tf_init : Cond.instanceMethod y_tf_init ∈ qg := q_t1 39 rfl rfl
abbrev b_tf_clear : ByteArray := prog_7_method_2_code
def y_tf_clear : MethodName := ⟨"BillForge$Tariff", "clear", "()V"⟩
theorem co_tf_clear : Cond.code y_tf_clear b_tf_clear 1 none ∈ qg := q_t3 18 rfl rfl
theorem im_tf_clear : Cond.instanceMethod y_tf_clear ∈ qg := q_t3 16 rfl rfl
theorem se_tf_clear : Cond.selects y_tf_clear.cls y_tf_clear y_tf_clear ∈ qg := q_t3 17 rfl rfl
abbrev b_tf_copyFrom : ByteArray := prog_7_method_3_code
def y_tf_copyFrom : MethodName := ⟨"BillForge$Tariff", "copyFrom", "(LBillForge$Tariff;)V"⟩
theorem co_tf_copyFrom : Cond.code y_tf_copyFrom b_tf_copyFrom 3 none ∈ qg := q_t3 162 rfl rfl
theorem im_tf_copyFrom : Cond.instanceMethod y_tf_copyFrom ∈ qg := q_t3 160 rfl rfl
theorem se_tf_copyFrom : Cond.selects y_tf_copyFrom.cls y_tf_copyFrom y_tf_copyFrom ∈ qg := q_t3 161 rfl rfl
abbrev b_tf_setFee : ByteArray := prog_7_method_4_code
def y_tf_setFee : MethodName := ⟨"BillForge$Tariff", "setFee", "(I)V"⟩
theorem co_tf_setFee : Cond.code y_tf_setFee b_tf_setFee 2 none ∈ qg := q_t3 138 rfl rfl
theorem im_tf_setFee : Cond.instanceMethod y_tf_setFee ∈ qg := q_t3 136 rfl rfl
theorem se_tf_setFee : Cond.selects y_tf_setFee.cls y_tf_setFee y_tf_setFee ∈ qg := q_t3 137 rfl rfl
abbrev b_tf_setFree : ByteArray := prog_7_method_5_code
def y_tf_setFree : MethodName := ⟨"BillForge$Tariff", "setFree", "(I)V"⟩
theorem co_tf_setFree : Cond.code y_tf_setFree b_tf_setFree 2 none ∈ qg := q_t3 142 rfl rfl
theorem im_tf_setFree : Cond.instanceMethod y_tf_setFree ∈ qg := q_t3 140 rfl rfl
theorem se_tf_setFree : Cond.selects y_tf_setFree.cls y_tf_setFree y_tf_setFree ∈ qg := q_t3 141 rfl rfl
abbrev b_tf_setLeast : ByteArray := prog_7_method_6_code
def y_tf_setLeast : MethodName := ⟨"BillForge$Tariff", "setLeast", "(I)V"⟩
theorem co_tf_setLeast : Cond.code y_tf_setLeast b_tf_setLeast 2 none ∈ qg := q_t3 146 rfl rfl
theorem im_tf_setLeast : Cond.instanceMethod y_tf_setLeast ∈ qg := q_t3 144 rfl rfl
theorem se_tf_setLeast : Cond.selects y_tf_setLeast.cls y_tf_setLeast y_tf_setLeast ∈ qg := q_t3 145 rfl rfl
abbrev b_tf_setPack : ByteArray := prog_7_method_7_code
def y_tf_setPack : MethodName := ⟨"BillForge$Tariff", "setPack", "(II)V"⟩
theorem co_tf_setPack : Cond.code y_tf_setPack b_tf_setPack 3 none ∈ qg := q_t3 134 rfl rfl
theorem im_tf_setPack : Cond.instanceMethod y_tf_setPack ∈ qg := q_t3 132 rfl rfl
theorem se_tf_setPack : Cond.selects y_tf_setPack.cls y_tf_setPack y_tf_setPack ∈ qg := q_t3 133 rfl rfl
abbrev b_tf_setRestPrice : ByteArray := prog_7_method_8_code
def y_tf_setRestPrice : MethodName := ⟨"BillForge$Tariff", "setRestPrice", "(I)V"⟩
theorem co_tf_setRestPrice : Cond.code y_tf_setRestPrice b_tf_setRestPrice 2 none ∈ qg := q_t3 150 rfl rfl
theorem im_tf_setRestPrice : Cond.instanceMethod y_tf_setRestPrice ∈ qg := q_t3 148 rfl rfl
theorem se_tf_setRestPrice : Cond.selects y_tf_setRestPrice.cls y_tf_setRestPrice y_tf_setRestPrice ∈ qg := q_t3 149 rfl rfl
abbrev b_tf_addTier : ByteArray := prog_7_method_9_code
def y_tf_addTier : MethodName := ⟨"BillForge$Tariff", "addTier", "(II)V"⟩
theorem co_tf_addTier : Cond.code y_tf_addTier b_tf_addTier 3 none ∈ qg := q_t3 130 rfl rfl
theorem im_tf_addTier : Cond.instanceMethod y_tf_addTier ∈ qg := q_t3 128 rfl rfl
theorem se_tf_addTier : Cond.selects y_tf_addTier.cls y_tf_addTier y_tf_addTier ∈ qg := q_t3 129 rfl rfl
abbrev b_tf_hasPack : ByteArray := prog_7_method_10_code
def y_tf_hasPack : MethodName := ⟨"BillForge$Tariff", "hasPack", "()Z"⟩
theorem co_tf_hasPack : Cond.code y_tf_hasPack b_tf_hasPack 1 (some .boolean) ∈ qg := q_t3 106 rfl rfl
theorem im_tf_hasPack : Cond.instanceMethod y_tf_hasPack ∈ qg := q_t3 104 rfl rfl
theorem se_tf_hasPack : Cond.selects y_tf_hasPack.cls y_tf_hasPack y_tf_hasPack ∈ qg := q_t3 105 rfl rfl
abbrev b_tf_tiers : ByteArray := prog_7_method_11_code
def y_tf_tiers : MethodName := ⟨"BillForge$Tariff", "tiers", "()I"⟩
theorem co_tf_tiers : Cond.code y_tf_tiers b_tf_tiers 1 (some .int) ∈ qg := q_t3 110 rfl rfl
theorem im_tf_tiers : Cond.instanceMethod y_tf_tiers ∈ qg := q_t3 108 rfl rfl
theorem se_tf_tiers : Cond.selects y_tf_tiers.cls y_tf_tiers y_tf_tiers ∈ qg := q_t3 109 rfl rfl
abbrev b_tf_lastTierEnd : ByteArray := prog_7_method_12_code
def y_tf_lastTierEnd : MethodName := ⟨"BillForge$Tariff", "lastTierEnd", "()I"⟩
theorem co_tf_lastTierEnd : Cond.code y_tf_lastTierEnd b_tf_lastTierEnd 1 (some .int) ∈ qg := q_t3 122 rfl rfl
theorem im_tf_lastTierEnd : Cond.instanceMethod y_tf_lastTierEnd ∈ qg := q_t3 120 rfl rfl
theorem se_tf_lastTierEnd : Cond.selects y_tf_lastTierEnd.cls y_tf_lastTierEnd y_tf_lastTierEnd ∈ qg := q_t3 121 rfl rfl
abbrev b_tf_feeOf : ByteArray := prog_7_method_13_code
def y_tf_feeOf : MethodName := ⟨"BillForge$Tariff", "feeOf", "(II)J"⟩
theorem co_tf_feeOf : Cond.code y_tf_feeOf b_tf_feeOf 3 (some .long) ∈ qg := q_t2 70 rfl rfl
theorem im_tf_feeOf : Cond.instanceMethod y_tf_feeOf ∈ qg := q_t2 68 rfl rfl
theorem se_tf_feeOf : Cond.selects y_tf_feeOf.cls y_tf_feeOf y_tf_feeOf ∈ qg := q_t2 69 rfl rfl
abbrev b_tf_useOf : ByteArray := prog_7_method_14_code
def y_tf_useOf : MethodName := ⟨"BillForge$Tariff", "useOf", "(JII)J"⟩
theorem co_tf_useOf : Cond.code y_tf_useOf b_tf_useOf 9 (some .long) ∈ qg := q_t2 77 rfl rfl
theorem im_tf_useOf : Cond.instanceMethod y_tf_useOf ∈ qg := q_t2 75 rfl rfl
theorem se_tf_useOf : Cond.selects y_tf_useOf.cls y_tf_useOf y_tf_useOf ∈ qg := q_t2 76 rfl rfl
abbrev b_tf_priceByPacks : ByteArray := prog_7_method_15_code
def y_tf_priceByPacks : MethodName := ⟨"BillForge$Tariff", "priceByPacks", "(J)J"⟩
theorem co_tf_priceByPacks : Cond.code y_tf_priceByPacks b_tf_priceByPacks 3 (some .long) ∈ qg := q_t2 84 rfl rfl
theorem im_tf_priceByPacks : Cond.instanceMethod y_tf_priceByPacks ∈ qg := q_t2 83 rfl rfl
theorem se_tf_priceByPacks : Cond.selects y_tf_priceByPacks.cls y_tf_priceByPacks y_tf_priceByPacks ∈ qg := q_sel 5 rfl rfl
abbrev b_tf_priceByTiers : ByteArray := prog_7_method_16_code
def y_tf_priceByTiers : MethodName := ⟨"BillForge$Tariff", "priceByTiers", "(J)J"⟩
theorem co_tf_priceByTiers : Cond.code y_tf_priceByTiers b_tf_priceByTiers 10 (some .long) ∈ qg := q_t2 88 rfl rfl
theorem im_tf_priceByTiers : Cond.instanceMethod y_tf_priceByTiers ∈ qg := q_t2 87 rfl rfl
theorem se_tf_priceByTiers : Cond.selects y_tf_priceByTiers.cls y_tf_priceByTiers y_tf_priceByTiers ∈ qg := q_sel 6 rfl rfl
abbrev b_tr_init : ByteArray := prog_8_method_1_code
def y_tr_init : MethodName := ⟨"BillForge$TariffReader", "<init>", "()V"⟩
theorem co_tr_init : Cond.code y_tr_init b_tr_init 1 none ∈ qg := q_t1 34 rfl rfl
theorem im_tr_init : Cond.instanceMethod y_tr_init ∈ qg := q_t1 33 rfl rfl
abbrev b_tr_charactersIn : ByteArray := prog_8_method_2_code
def y_tr_charactersIn : MethodName := ⟨"BillForge$TariffReader", "charactersIn", "(J)I"⟩
theorem co_tr_charactersIn : Cond.code y_tr_charactersIn b_tr_charactersIn 5 (some .int) ∈ qg := q_t2 152 rfl rfl
theorem sm_tr_charactersIn : Cond.static y_tr_charactersIn ∈ qg := q_t2 151 rfl rfl
abbrev b_tr_append : ByteArray := prog_8_method_3_code
def y_tr_append : MethodName := ⟨"BillForge$TariffReader", "append", "(J)V"⟩
theorem co_tr_append : Cond.code y_tr_append b_tr_append 5 none ∈ qg := q_t2 239 rfl rfl
theorem im_tr_append : Cond.instanceMethod y_tr_append ∈ qg := q_t2 237 rfl rfl
theorem se_tr_append : Cond.selects y_tr_append.cls y_tr_append y_tr_append ∈ qg := q_t2 238 rfl rfl
abbrev b_tr_empty : ByteArray := prog_8_method_4_code
def y_tr_empty : MethodName := ⟨"BillForge$TariffReader", "empty", "()V"⟩
theorem co_tr_empty : Cond.code y_tr_empty b_tr_empty 1 none ∈ qg := q_t3 166 rfl rfl
theorem im_tr_empty : Cond.instanceMethod y_tr_empty ∈ qg := q_t3 164 rfl rfl
theorem se_tr_empty : Cond.selects y_tr_empty.cls y_tr_empty y_tr_empty ∈ qg := q_t3 165 rfl rfl
abbrev b_tr_forgetFault : ByteArray := prog_8_method_5_code
def y_tr_forgetFault : MethodName := ⟨"BillForge$TariffReader", "forgetFault", "()V"⟩
theorem co_tr_forgetFault : Cond.code y_tr_forgetFault b_tr_forgetFault 1 none ∈ qg := q_t3 10 rfl rfl
theorem im_tr_forgetFault : Cond.instanceMethod y_tr_forgetFault ∈ qg := q_t3 8 rfl rfl
theorem se_tr_forgetFault : Cond.selects y_tr_forgetFault.cls y_tr_forgetFault y_tr_forgetFault ∈ qg := q_t3 9 rfl rfl
abbrev b_tr_length : ByteArray := prog_8_method_6_code
def y_tr_length : MethodName := ⟨"BillForge$TariffReader", "length", "()I"⟩
theorem co_tr_length : Cond.code y_tr_length b_tr_length 1 (some .int) ∈ qg := q_t2 220 rfl rfl
theorem im_tr_length : Cond.instanceMethod y_tr_length ∈ qg := q_t2 218 rfl rfl
theorem se_tr_length : Cond.selects y_tr_length.cls y_tr_length y_tr_length ∈ qg := q_t2 219 rfl rfl
abbrev b_tr_parts : ByteArray := prog_8_method_7_code
def y_tr_parts : MethodName := ⟨"BillForge$TariffReader", "parts", "()I"⟩
theorem co_tr_parts : Cond.code y_tr_parts b_tr_parts 1 (some .int) ∈ qg := q_t3 170 rfl rfl
theorem im_tr_parts : Cond.instanceMethod y_tr_parts ∈ qg := q_t3 168 rfl rfl
theorem se_tr_parts : Cond.selects y_tr_parts.cls y_tr_parts y_tr_parts ∈ qg := q_t3 169 rfl rfl
abbrev b_tr_fault : ByteArray := prog_8_method_8_code
def y_tr_fault : MethodName := ⟨"BillForge$TariffReader", "fault", "()I"⟩
theorem co_tr_fault : Cond.code y_tr_fault b_tr_fault 1 (some .int) ∈ qg := q_t2 11 rfl rfl
theorem im_tr_fault : Cond.instanceMethod y_tr_fault ∈ qg := q_t2 9 rfl rfl
theorem se_tr_fault : Cond.selects y_tr_fault.cls y_tr_fault y_tr_fault ∈ qg := q_t2 10 rfl rfl
abbrev b_tr_draft : ByteArray := prog_8_method_9_code
def y_tr_draft : MethodName := ⟨"BillForge$TariffReader", "draft", "()LBillForge$Tariff;"⟩
theorem co_tr_draft : Cond.code y_tr_draft b_tr_draft 1 (some (.object "BillForge$Tariff")) ∈ qg := q_t3 158 rfl rfl
theorem im_tr_draft : Cond.instanceMethod y_tr_draft ∈ qg := q_t3 156 rfl rfl
theorem se_tr_draft : Cond.selects y_tr_draft.cls y_tr_draft y_tr_draft ∈ qg := q_t3 157 rfl rfl
abbrev b_tr_readAll : ByteArray := prog_8_method_10_code
def y_tr_readAll : MethodName := ⟨"BillForge$TariffReader", "readAll", "()Z"⟩
theorem co_tr_readAll : Cond.code y_tr_readAll b_tr_readAll 2 (some .boolean) ∈ qg := q_t3 14 rfl rfl
theorem im_tr_readAll : Cond.instanceMethod y_tr_readAll ∈ qg := q_t3 12 rfl rfl
theorem se_tr_readAll : Cond.selects y_tr_readAll.cls y_tr_readAll y_tr_readAll ∈ qg := q_t3 13 rfl rfl
abbrev b_tr_readPart : ByteArray := prog_8_method_11_code
def y_tr_readPart : MethodName := ⟨"BillForge$TariffReader", "readPart", "()V"⟩
theorem co_tr_readPart : Cond.code y_tr_readPart b_tr_readPart 3 none ∈ qg := q_t3 22 rfl rfl
theorem im_tr_readPart : Cond.instanceMethod y_tr_readPart ∈ qg := q_t3 21 rfl rfl
theorem se_tr_readPart : Cond.selects y_tr_readPart.cls y_tr_readPart y_tr_readPart ∈ qg := q_sel 10 rfl rfl
abbrev b_tr_readEndOfPart : ByteArray := prog_8_method_12_code
def y_tr_readEndOfPart : MethodName := ⟨"BillForge$TariffReader", "readEndOfPart", "(I)V"⟩
theorem co_tr_readEndOfPart : Cond.code y_tr_readEndOfPart b_tr_readEndOfPart 2 none ∈ qg := q_t3 154 rfl rfl
theorem im_tr_readEndOfPart : Cond.instanceMethod y_tr_readEndOfPart ∈ qg := q_t3 153 rfl rfl
theorem se_tr_readEndOfPart : Cond.selects y_tr_readEndOfPart.cls y_tr_readEndOfPart y_tr_readEndOfPart ∈ qg := q_sel 19 rfl rfl
abbrev b_tr_canStand : ByteArray := prog_8_method_13_code
def y_tr_canStand : MethodName := ⟨"BillForge$TariffReader", "canStand", "(I)Z"⟩
theorem co_tr_canStand : Cond.code y_tr_canStand b_tr_canStand 2 (some .boolean) ∈ qg := q_t3 102 rfl rfl
theorem im_tr_canStand : Cond.instanceMethod y_tr_canStand ∈ qg := q_t3 101 rfl rfl
theorem se_tr_canStand : Cond.selects y_tr_canStand.cls y_tr_canStand y_tr_canStand ∈ qg := q_sel 15 rfl rfl
abbrev b_tr_readNumbers : ByteArray := prog_8_method_14_code
def y_tr_readNumbers : MethodName := ⟨"BillForge$TariffReader", "readNumbers", "(I)V"⟩
theorem co_tr_readNumbers : Cond.code y_tr_readNumbers b_tr_readNumbers 3 none ∈ qg := q_t3 114 rfl rfl
theorem im_tr_readNumbers : Cond.instanceMethod y_tr_readNumbers ∈ qg := q_t3 113 rfl rfl
theorem se_tr_readNumbers : Cond.selects y_tr_readNumbers.cls y_tr_readNumbers y_tr_readNumbers ∈ qg := q_sel 16 rfl rfl
abbrev b_tr_readTwoNumbers : ByteArray := prog_8_method_15_code
def y_tr_readTwoNumbers : MethodName := ⟨"BillForge$TariffReader", "readTwoNumbers", "(I)V"⟩
theorem co_tr_readTwoNumbers : Cond.code y_tr_readTwoNumbers b_tr_readTwoNumbers 4 none ∈ qg := q_t3 118 rfl rfl
theorem im_tr_readTwoNumbers : Cond.instanceMethod y_tr_readTwoNumbers ∈ qg := q_t3 117 rfl rfl
theorem se_tr_readTwoNumbers : Cond.selects y_tr_readTwoNumbers.cls y_tr_readTwoNumbers y_tr_readTwoNumbers ∈ qg := q_sel 17 rfl rfl
abbrev b_tr_readNumber : ByteArray := prog_8_method_16_code
def y_tr_readNumber : MethodName := ⟨"BillForge$TariffReader", "readNumber", "(I)I"⟩
theorem co_tr_readNumber : Cond.code y_tr_readNumber b_tr_readNumber 4 (some .int) ∈ qg := q_t3 126 rfl rfl
theorem im_tr_readNumber : Cond.instanceMethod y_tr_readNumber ∈ qg := q_t3 125 rfl rfl
theorem se_tr_readNumber : Cond.selects y_tr_readNumber.cls y_tr_readNumber y_tr_readNumber ∈ qg := q_sel 18 rfl rfl
abbrev b_tr_skipBlanks : ByteArray := prog_8_method_17_code
def y_tr_skipBlanks : MethodName := ⟨"BillForge$TariffReader", "skipBlanks", "()V"⟩
theorem co_tr_skipBlanks : Cond.code y_tr_skipBlanks b_tr_skipBlanks 1 none ∈ qg := q_t3 26 rfl rfl
theorem im_tr_skipBlanks : Cond.instanceMethod y_tr_skipBlanks ∈ qg := q_t3 25 rfl rfl
theorem se_tr_skipBlanks : Cond.selects y_tr_skipBlanks.cls y_tr_skipBlanks y_tr_skipBlanks ∈ qg := q_sel 11 rfl rfl
abbrev b_tr_skipLetters : ByteArray := prog_8_method_18_code
def y_tr_skipLetters : MethodName := ⟨"BillForge$TariffReader", "skipLetters", "()V"⟩
theorem co_tr_skipLetters : Cond.code y_tr_skipLetters b_tr_skipLetters 1 none ∈ qg := q_t3 30 rfl rfl
theorem im_tr_skipLetters : Cond.instanceMethod y_tr_skipLetters ∈ qg := q_t3 29 rfl rfl
theorem se_tr_skipLetters : Cond.selects y_tr_skipLetters.cls y_tr_skipLetters y_tr_skipLetters ∈ qg := q_sel 12 rfl rfl
abbrev b_tr_isLetter : ByteArray := prog_8_method_19_code
def y_tr_isLetter : MethodName := ⟨"BillForge$TariffReader", "isLetter", "(C)Z"⟩
theorem co_tr_isLetter : Cond.code y_tr_isLetter b_tr_isLetter 1 (some .boolean) ∈ qg := q_t3 33 rfl rfl
theorem sm_tr_isLetter : Cond.static y_tr_isLetter ∈ qg := q_t3 32 rfl rfl
abbrev b_tr_wordBetween : ByteArray := prog_8_method_20_code
def y_tr_wordBetween : MethodName := ⟨"BillForge$TariffReader", "wordBetween", "(II)I"⟩
theorem co_tr_wordBetween : Cond.code y_tr_wordBetween b_tr_wordBetween 4 (some .int) ∈ qg := q_t3 37 rfl rfl
theorem im_tr_wordBetween : Cond.instanceMethod y_tr_wordBetween ∈ qg := q_t3 36 rfl rfl
theorem se_tr_wordBetween : Cond.selects y_tr_wordBetween.cls y_tr_wordBetween y_tr_wordBetween ∈ qg := q_sel 13 rfl rfl
abbrev b_tr_isSpelled : ByteArray := prog_8_method_21_code
def y_tr_isSpelled : MethodName := ⟨"BillForge$TariffReader", "isSpelled", "(Ljava/lang/String;II)Z"⟩
theorem co_tr_isSpelled : Cond.code y_tr_isSpelled b_tr_isSpelled 5 (some .boolean) ∈ qg := q_t3 50 rfl rfl
theorem im_tr_isSpelled : Cond.instanceMethod y_tr_isSpelled ∈ qg := q_t3 49 rfl rfl
theorem se_tr_isSpelled : Cond.selects y_tr_isSpelled.cls y_tr_isSpelled y_tr_isSpelled ∈ qg := q_sel 14 rfl rfl
abbrev b_tr_spellingOf : ByteArray := prog_8_method_22_code
def y_tr_spellingOf : MethodName := ⟨"BillForge$TariffReader", "spellingOf", "(I)Ljava/lang/String;"⟩
theorem co_tr_spellingOf : Cond.code y_tr_spellingOf b_tr_spellingOf 1 (some (.object "java/lang/String")) ∈ qg := q_t3 40 rfl rfl
theorem sm_tr_spellingOf : Cond.static y_tr_spellingOf ∈ qg := q_t3 39 rfl rfl
abbrev b_lw_text : ByteArray := method_3_code
def y_lw_text : MethodName := ⟨"BillForgeLaw", "text", "(LBillForge;J[J)I"⟩
abbrev b_lw_tariff : ByteArray := method_4_code
def y_lw_tariff : MethodName := ⟨"BillForgeLaw", "tariff", "(LBillForge;I[J)I"⟩
abbrev b_lw_use : ByteArray := method_5_code
def y_lw_use : MethodName := ⟨"BillForgeLaw", "use", "(LBillForge;II[J)I"⟩
abbrev b_lw_subscribe : ByteArray := method_6_code
def y_lw_subscribe : MethodName := ⟨"BillForgeLaw", "subscribe", "(LBillForge;II[J)I"⟩
abbrev b_lw_pause : ByteArray := method_7_code
def y_lw_pause : MethodName := ⟨"BillForgeLaw", "pause", "(LBillForge;IZ[J)I"⟩
abbrev b_lw_event : ByteArray := method_8_code
def y_lw_event : MethodName := ⟨"BillForgeLaw", "event", "(LBillForge;IIII[J)I"⟩
abbrev b_lw_tick : ByteArray := method_9_code
def y_lw_tick : MethodName := ⟨"BillForgeLaw", "tick", "(LBillForge;I[J)I"⟩
abbrev b_lw_pay : ByteArray := method_10_code
def y_lw_pay : MethodName := ⟨"BillForgeLaw", "pay", "(LBillForge;IJ[J)I"⟩
abbrev b_lw_plan : ByteArray := method_11_code
def y_lw_plan : MethodName := ⟨"BillForgeLaw", "plan", "(LBillForge;IJI[J)I"⟩
abbrev b_lw_charge : ByteArray := method_12_code
def y_lw_charge : MethodName := ⟨"BillForgeLaw", "charge", "(LBillForge;II[J)I"⟩
abbrev b_lw_invoice : ByteArray := method_13_code
def y_lw_invoice : MethodName := ⟨"BillForgeLaw", "invoice", "(LBillForge;II[J)I"⟩
abbrev b_lw_told : ByteArray := method_14_code
def y_lw_told : MethodName := ⟨"BillForgeLaw", "told", "(LBillForge;II[J)I"⟩
abbrev b_lw_books : ByteArray := method_15_code
def y_lw_books : MethodName := ⟨"BillForgeLaw", "books", "(LBillForge;I[J)I"⟩
abbrev b_lw_date : ByteArray := method_16_code
def y_lw_date : MethodName := ⟨"BillForgeLaw", "date", "(LBillForge;II[J)I"⟩
abbrev b_lw_count : ByteArray := method_17_code
def y_lw_count : MethodName := ⟨"BillForgeLaw", "count", "(LBillForge;I[J)I"⟩
theorem cl_lw_8 : Cond.classLink "BillForgeLaw" 8 "BillForge" ∈ qg := q_t1 22 rfl rfl
theorem lk_lw_71 : qLk "BillForgeLaw" 71 y_bf_init b_bf_init 2 none 0 := ⟨q_t1 24 rfl rfl, ii_bf, co_bf_init, by decide, by decide, by decide +kernel⟩
theorem lk_bf_1 : Cond.methodLink "BillForge" 1 Lib.objectInit ∈ qg := q_t1 27 rfl rfl
theorem cl_bf_7 : Cond.classLink "BillForge" 7 "BillForge$TariffReader" ∈ qg := q_t1 30 rfl rfl
theorem ln_bf_9 : qLn "BillForge" 9 y_tr_init "BillForge" b_tr_init 1 none 0 := ⟨List.mem_filter.mpr ⟨List.mem_append_right _ (show _ ∈ tables_1 from List.mem_append_left _ (List.mem_of_getElem? (i := 32) rfl)), rfl⟩, ii_tr, co_tr_init, by decide, by decide, by decide +kernel⟩
theorem lk_tr_3 : Cond.methodLink "BillForge$TariffReader" 3 Lib.objectInit ∈ qg := q_t1 35 rfl rfl
theorem cl_tr_19 : Cond.classLink "BillForge$TariffReader" 19 "BillForge$Tariff" ∈ qg := q_t1 36 rfl rfl
theorem ln_tr_21 : qLn "BillForge$TariffReader" 21 y_tf_init "BillForge" b_tf_init 1 none 0 := ⟨List.mem_filter.mpr ⟨List.mem_append_right _ (show _ ∈ tables_1 from List.mem_append_left _ (List.mem_of_getElem? (i := 38) rfl)), rfl⟩, ii_tf, co_tf_init, by decide, by decide, by decide +kernel⟩
theorem lk_tf_1 : Cond.methodLink "BillForge$Tariff" 1 Lib.objectInit ∈ qg := q_t1 41 rfl rfl
theorem fl_tf_7 : qFl "BillForge$Tariff" 7 4 0 (t_tf 0) false := ⟨R_tf, F_tf, 9, t_tf, rfl, i_tf, t_tf_ok, n_tf, by decide, q_t1 42 rfl rfl, rfl, t_tf_ok 0 (by decide), rfl⟩
theorem fl_tf_13 : qFl "BillForge$Tariff" 13 4 1 (t_tf 1) false := ⟨R_tf, F_tf, 9, t_tf, rfl, i_tf, t_tf_ok, n_tf, by decide, q_t1 43 rfl rfl, rfl, t_tf_ok 1 (by decide), rfl⟩
theorem fl_tf_16 : qFl "BillForge$Tariff" 16 4 2 (t_tf 2) false := ⟨R_tf, F_tf, 9, t_tf, rfl, i_tf, t_tf_ok, n_tf, by decide, q_t1 44 rfl rfl, rfl, t_tf_ok 2 (by decide), rfl⟩
theorem fl_tf_19 : qFl "BillForge$Tariff" 19 4 3 (t_tf 3) false := ⟨R_tf, F_tf, 9, t_tf, rfl, i_tf, t_tf_ok, n_tf, by decide, q_t1 45 rfl rfl, rfl, t_tf_ok 3 (by decide), rfl⟩
theorem fl_tf_22 : qFl "BillForge$Tariff" 22 4 4 (t_tf 4) false := ⟨R_tf, F_tf, 9, t_tf, rfl, i_tf, t_tf_ok, n_tf, by decide, q_t1 46 rfl rfl, rfl, t_tf_ok 4 (by decide), rfl⟩
theorem fl_tf_25 : qFl "BillForge$Tariff" 25 4 5 (t_tf 5) false := ⟨R_tf, F_tf, 9, t_tf, rfl, i_tf, t_tf_ok, n_tf, by decide, q_t1 47 rfl rfl, rfl, t_tf_ok 5 (by decide), rfl⟩
theorem fl_tf_28 : qFl "BillForge$Tariff" 28 4 6 (t_tf 6) true := ⟨R_tf, F_tf, 9, t_tf, rfl, i_tf, t_tf_ok, n_tf, by decide, q_t1 48 rfl rfl, rfl, t_tf_ok 6 (by decide), rfl⟩
theorem fl_tf_32 : qFl "BillForge$Tariff" 32 4 7 (t_tf 7) true := ⟨R_tf, F_tf, 9, t_tf, rfl, i_tf, t_tf_ok, n_tf, by decide, q_t1 49 rfl rfl, rfl, t_tf_ok 7 (by decide), rfl⟩
theorem fl_tf_35 : qFl "BillForge$Tariff" 35 4 8 (t_tf 8) false := ⟨R_tf, F_tf, 9, t_tf, rfl, i_tf, t_tf_ok, n_tf, by decide, q_t1 50 rfl rfl, rfl, t_tf_ok 8 (by decide), rfl⟩
theorem ac_char : Cond.arrayClass Jvm.ClassFile.FieldType.char ∈ qg := q_t1 70 rfl rfl
theorem ac_boolean : Cond.arrayClass Jvm.ClassFile.FieldType.boolean ∈ qg := q_t1 71 rfl rfl
theorem ac_int : Cond.arrayClass Jvm.ClassFile.FieldType.int ∈ qg := q_t1 72 rfl rfl
theorem fl_tr_11 : qFl "BillForge$TariffReader" 11 5 0 (t_tr 0) true := ⟨R_tr, F_tr, 7, t_tr, rfl, i_tr, t_tr_ok, n_tr, by decide, q_t1 73 rfl rfl, rfl, t_tr_ok 0 (by decide), rfl⟩
theorem fl_tr_15 : qFl "BillForge$TariffReader" 15 5 1 (t_tr 1) true := ⟨R_tr, F_tr, 7, t_tr, rfl, i_tr, t_tr_ok, n_tr, by decide, q_t1 74 rfl rfl, rfl, t_tr_ok 1 (by decide), rfl⟩
theorem fl_tr_22 : qFl "BillForge$TariffReader" 22 5 2 (t_tr 2) true := ⟨R_tr, F_tr, 7, t_tr, rfl, i_tr, t_tr_ok, n_tr, by decide, q_t1 75 rfl rfl, rfl, t_tr_ok 2 (by decide), rfl⟩
theorem fl_tr_26 : qFl "BillForge$TariffReader" 26 5 3 (t_tr 3) false := ⟨R_tr, F_tr, 7, t_tr, rfl, i_tr, t_tr_ok, n_tr, by decide, q_t1 76 rfl rfl, rfl, t_tr_ok 3 (by decide), rfl⟩
theorem fl_tr_30 : qFl "BillForge$TariffReader" 30 5 4 (t_tr 4) false := ⟨R_tr, F_tr, 7, t_tr, rfl, i_tr, t_tr_ok, n_tr, by decide, q_t1 77 rfl rfl, rfl, t_tr_ok 4 (by decide), rfl⟩
theorem fl_tr_33 : qFl "BillForge$TariffReader" 33 5 5 (t_tr 5) false := ⟨R_tr, F_tr, 7, t_tr, rfl, i_tr, t_tr_ok, n_tr, by decide, q_t1 78 rfl rfl, rfl, t_tr_ok 5 (by decide), rfl⟩
theorem fl_tr_36 : qFl "BillForge$TariffReader" 36 5 6 (t_tr 6) false := ⟨R_tr, F_tr, 7, t_tr, rfl, i_tr, t_tr_ok, n_tr, by decide, q_t1 79 rfl rfl, rfl, t_tr_ok 6 (by decide), rfl⟩
theorem cl_bf_16 : Cond.classLink "BillForge" 16 "BillForge$Tariff" ∈ qg := q_t1 95 rfl rfl
theorem cl_bf_22 : Cond.classLink "BillForge" 22 "BillForge$Customer" ∈ qg := q_t1 97 rfl rfl
theorem cl_bf_28 : Cond.classLink "BillForge" 28 "BillForge$EventLog" ∈ qg := q_t1 99 rfl rfl
theorem ln_bf_30 : qLn "BillForge" 30 y_ev_init "BillForge" b_ev_init 1 none 0 := ⟨List.mem_filter.mpr ⟨List.mem_append_right _ (show _ ∈ tables_1 from List.mem_append_left _ (List.mem_of_getElem? (i := 101) rfl)), rfl⟩, ii_ev, co_ev_init, by decide, by decide, by decide +kernel⟩
theorem lk_ev_1 : Cond.methodLink "BillForge$EventLog" 1 Lib.objectInit ∈ qg := q_t1 104 rfl rfl
theorem fl_ev_9 : qFl "BillForge$EventLog" 9 1 0 (t_ev 0) true := ⟨R_ev, F_ev, 5, t_ev, rfl, i_ev, t_ev_ok, n_ev, by decide, q_t1 105 rfl rfl, rfl, t_ev_ok 0 (by decide), rfl⟩
theorem fl_ev_13 : qFl "BillForge$EventLog" 13 1 1 (t_ev 1) true := ⟨R_ev, F_ev, 5, t_ev, rfl, i_ev, t_ev_ok, n_ev, by decide, q_t1 106 rfl rfl, rfl, t_ev_ok 1 (by decide), rfl⟩
theorem fl_ev_16 : qFl "BillForge$EventLog" 16 1 2 (t_ev 2) true := ⟨R_ev, F_ev, 5, t_ev, rfl, i_ev, t_ev_ok, n_ev, by decide, q_t1 107 rfl rfl, rfl, t_ev_ok 2 (by decide), rfl⟩
theorem fl_ev_19 : qFl "BillForge$EventLog" 19 1 3 (t_ev 3) true := ⟨R_ev, F_ev, 5, t_ev, rfl, i_ev, t_ev_ok, n_ev, by decide, q_t1 108 rfl rfl, rfl, t_ev_ok 3 (by decide), rfl⟩
theorem fl_ev_22 : qFl "BillForge$EventLog" 22 1 4 (t_ev 4) false := ⟨R_ev, F_ev, 5, t_ev, rfl, i_ev, t_ev_ok, n_ev, by decide, q_t1 109 rfl rfl, rfl, t_ev_ok 4 (by decide), rfl⟩
theorem cl_bf_35 : Cond.classLink "BillForge" 35 "BillForge$InvoiceBook" ∈ qg := q_t1 121 rfl rfl
theorem ln_bf_37 : qLn "BillForge" 37 y_ib_init "BillForge" b_ib_init 1 none 0 := ⟨List.mem_filter.mpr ⟨List.mem_append_right _ (show _ ∈ tables_1 from List.mem_append_left _ (List.mem_of_getElem? (i := 123) rfl)), rfl⟩, ii_ib, co_ib_init, by decide, by decide, by decide +kernel⟩
theorem lk_ib_1 : Cond.methodLink "BillForge$InvoiceBook" 1 Lib.objectInit ∈ qg := q_t1 126 rfl rfl
theorem fl_ib_9 : qFl "BillForge$InvoiceBook" 9 2 0 (t_ib 0) true := ⟨R_ib, F_ib, 6, t_ib, rfl, i_ib, t_ib_ok, n_ib, by decide, q_t1 127 rfl rfl, rfl, t_ib_ok 0 (by decide), rfl⟩
theorem fl_ib_13 : qFl "BillForge$InvoiceBook" 13 2 1 (t_ib 1) true := ⟨R_ib, F_ib, 6, t_ib, rfl, i_ib, t_ib_ok, n_ib, by decide, q_t1 128 rfl rfl, rfl, t_ib_ok 1 (by decide), rfl⟩
theorem fl_ib_16 : qFl "BillForge$InvoiceBook" 16 2 2 (t_ib 2) true := ⟨R_ib, F_ib, 6, t_ib, rfl, i_ib, t_ib_ok, n_ib, by decide, q_t1 129 rfl rfl, rfl, t_ib_ok 2 (by decide), rfl⟩
theorem fl_ib_20 : qFl "BillForge$InvoiceBook" 20 2 3 (t_ib 3) true := ⟨R_ib, F_ib, 6, t_ib, rfl, i_ib, t_ib_ok, n_ib, by decide, q_t1 130 rfl rfl, rfl, t_ib_ok 3 (by decide), rfl⟩
theorem fl_ib_23 : qFl "BillForge$InvoiceBook" 23 2 4 (t_ib 4) true := ⟨R_ib, F_ib, 6, t_ib, rfl, i_ib, t_ib_ok, n_ib, by decide, q_t1 131 rfl rfl, rfl, t_ib_ok 4 (by decide), rfl⟩
theorem fl_ib_26 : qFl "BillForge$InvoiceBook" 26 2 5 (t_ib 5) false := ⟨R_ib, F_ib, 6, t_ib, rfl, i_ib, t_ib_ok, n_ib, by decide, q_t1 132 rfl rfl, rfl, t_ib_ok 5 (by decide), rfl⟩
theorem ac_long : Cond.arrayClass Jvm.ClassFile.FieldType.long ∈ qg := q_t1 146 rfl rfl
theorem cl_bf_42 : Cond.classLink "BillForge" 42 "BillForge$PlanBook" ∈ qg := q_t1 147 rfl rfl
theorem ln_bf_44 : qLn "BillForge" 44 y_pb_init "BillForge" b_pb_init 1 none 0 := ⟨List.mem_filter.mpr ⟨List.mem_append_right _ (show _ ∈ tables_1 from List.mem_append_left _ (List.mem_of_getElem? (i := 149) rfl)), rfl⟩, ii_pb, co_pb_init, by decide, by decide, by decide +kernel⟩
theorem lk_pb_1 : Cond.methodLink "BillForge$PlanBook" 1 Lib.objectInit ∈ qg := q_t1 152 rfl rfl
theorem fl_pb_9 : qFl "BillForge$PlanBook" 9 3 0 (t_pb 0) true := ⟨R_pb, F_pb, 5, t_pb, rfl, i_pb, t_pb_ok, n_pb, by decide, q_t1 153 rfl rfl, rfl, t_pb_ok 0 (by decide), rfl⟩
theorem fl_pb_13 : qFl "BillForge$PlanBook" 13 3 1 (t_pb 1) true := ⟨R_pb, F_pb, 5, t_pb, rfl, i_pb, t_pb_ok, n_pb, by decide, q_t1 154 rfl rfl, rfl, t_pb_ok 1 (by decide), rfl⟩
theorem fl_pb_17 : qFl "BillForge$PlanBook" 17 3 2 (t_pb 2) true := ⟨R_pb, F_pb, 5, t_pb, rfl, i_pb, t_pb_ok, n_pb, by decide, q_t1 155 rfl rfl, rfl, t_pb_ok 2 (by decide), rfl⟩
theorem fl_pb_20 : qFl "BillForge$PlanBook" 20 3 3 (t_pb 3) true := ⟨R_pb, F_pb, 5, t_pb, rfl, i_pb, t_pb_ok, n_pb, by decide, q_t1 156 rfl rfl, rfl, t_pb_ok 3 (by decide), rfl⟩
theorem fl_pb_23 : qFl "BillForge$PlanBook" 23 3 4 (t_pb 4) false := ⟨R_pb, F_pb, 5, t_pb, rfl, i_pb, t_pb_ok, n_pb, by decide, q_t1 157 rfl rfl, rfl, t_pb_ok 4 (by decide), rfl⟩
theorem ln_bf_68 : qLn "BillForge" 68 y_tf_init "BillForge" b_tf_init 1 none 0 := ⟨List.mem_filter.mpr ⟨List.mem_append_right _ (show _ ∈ tables_1 from List.mem_append_left _ (List.mem_of_getElem? (i := 169) rfl)), rfl⟩, ii_tf, co_tf_init, by decide, by decide, by decide +kernel⟩
theorem ln_bf_69 : qLn "BillForge" 69 y_cu_init "BillForge" b_cu_init 1 none 0 := ⟨List.mem_filter.mpr ⟨List.mem_append_right _ (show _ ∈ tables_1 from List.mem_append_left _ (List.mem_of_getElem? (i := 171) rfl)), rfl⟩, ii_cu, co_cu_init, by decide, by decide, by decide +kernel⟩
theorem lk_cu_3 : Cond.methodLink "BillForge$Customer" 3 Lib.objectInit ∈ qg := q_t1 174 rfl rfl
theorem fl_cu_9 : qFl "BillForge$Customer" 9 0 0 (t_cu 0) true := ⟨R_cu, F_cu, 5, t_cu, rfl, i_cu, t_cu_ok, n_cu, by decide, q_t1 175 rfl rfl, rfl, t_cu_ok 0 (by decide), rfl⟩
theorem fl_cu_15 : qFl "BillForge$Customer" 15 0 1 (t_cu 1) false := ⟨R_cu, F_cu, 5, t_cu, rfl, i_cu, t_cu_ok, n_cu, by decide, q_t1 176 rfl rfl, rfl, t_cu_ok 1 (by decide), rfl⟩
theorem fl_cu_19 : qFl "BillForge$Customer" 19 0 2 (t_cu 2) false := ⟨R_cu, F_cu, 5, t_cu, rfl, i_cu, t_cu_ok, n_cu, by decide, q_t1 177 rfl rfl, rfl, t_cu_ok 2 (by decide), rfl⟩
theorem fl_cu_23 : qFl "BillForge$Customer" 23 0 3 (t_cu 3) false := ⟨R_cu, F_cu, 5, t_cu, rfl, i_cu, t_cu_ok, n_cu, by decide, q_t1 178 rfl rfl, rfl, t_cu_ok 3 (by decide), rfl⟩
theorem fl_cu_26 : qFl "BillForge$Customer" 26 0 4 (t_cu 4) false := ⟨R_cu, F_cu, 5, t_cu, rfl, i_cu, t_cu_ok, n_cu, by decide, q_t1 179 rfl rfl, rfl, t_cu_ok 4 (by decide), rfl⟩
theorem ac_byte : Cond.arrayClass Jvm.ClassFile.FieldType.byte ∈ qg := q_t1 191 rfl rfl
theorem lk_bf_70 : qLk "BillForge" 70 y_al_firstDayOf b_al_firstDayOf 4 (some .int) 1 := ⟨q_t1 192 rfl rfl, ii_al, co_al_firstDayOf, by decide, by decide, by decide +kernel⟩
theorem lk_al_9 : qLk "BillForge$Almanac" 9 y_al_yearOf b_al_yearOf 1 (some .int) 1 := ⟨q_t1 195 rfl rfl, ii_al, co_al_yearOf, by decide, by decide, by decide +kernel⟩
theorem lk_al_13 : qLk "BillForge$Almanac" 13 y_al_firstDayOfYear b_al_firstDayOfYear 3 (some .int) 1 := ⟨q_t1 198 rfl rfl, ii_al, co_al_firstDayOfYear, by decide, by decide, by decide +kernel⟩
theorem lk_al_16 : qLk "BillForge$Almanac" 16 y_al_monthOf b_al_monthOf 1 (some .int) 1 := ⟨q_t1 201 rfl rfl, ii_al, co_al_monthOf, by decide, by decide, by decide +kernel⟩
theorem lk_al_19 : qLk "BillForge$Almanac" 19 y_al_daysInMonth b_al_daysInMonth 2 (some .int) 2 := ⟨q_t1 204 rfl rfl, ii_al, co_al_daysInMonth, by decide, by decide, by decide +kernel⟩
theorem lk_al_23 : qLk "BillForge$Almanac" 23 y_al_isLeapYear b_al_isLeapYear 1 (some .boolean) 1 := ⟨q_t1 207 rfl rfl, ii_al, co_al_isLeapYear, by decide, by decide, by decide +kernel⟩
theorem fl_bf_10 : qFl "BillForge" 10 6 0 (t_bf 0) true := ⟨R_bf, F_bf, 11, t_bf, rfl, i_bf, t_bf_ok, n_bf, by decide, q_t1 210 rfl rfl, rfl, t_bf_ok 0 (by decide), rfl⟩
theorem fl_bf_18 : qFl "BillForge" 18 6 1 (t_bf 1) true := ⟨R_bf, F_bf, 11, t_bf, rfl, i_bf, t_bf_ok, n_bf, by decide, q_t1 211 rfl rfl, rfl, t_bf_ok 1 (by decide), rfl⟩
theorem fl_bf_24 : qFl "BillForge" 24 6 2 (t_bf 2) true := ⟨R_bf, F_bf, 11, t_bf, rfl, i_bf, t_bf_ok, n_bf, by decide, q_t1 212 rfl rfl, rfl, t_bf_ok 2 (by decide), rfl⟩
theorem fl_bf_31 : qFl "BillForge" 31 6 3 (t_bf 3) true := ⟨R_bf, F_bf, 11, t_bf, rfl, i_bf, t_bf_ok, n_bf, by decide, q_t1 213 rfl rfl, rfl, t_bf_ok 3 (by decide), rfl⟩
theorem fl_bf_38 : qFl "BillForge" 38 6 4 (t_bf 4) true := ⟨R_bf, F_bf, 11, t_bf, rfl, i_bf, t_bf_ok, n_bf, by decide, q_t1 214 rfl rfl, rfl, t_bf_ok 4 (by decide), rfl⟩
theorem fl_bf_45 : qFl "BillForge" 45 6 5 (t_bf 5) true := ⟨R_bf, F_bf, 11, t_bf, rfl, i_bf, t_bf_ok, n_bf, by decide, q_t1 215 rfl rfl, rfl, t_bf_ok 5 (by decide), rfl⟩
theorem fl_bf_49 : qFl "BillForge" 49 6 6 (t_bf 6) true := ⟨R_bf, F_bf, 11, t_bf, rfl, i_bf, t_bf_ok, n_bf, by decide, q_t1 216 rfl rfl, rfl, t_bf_ok 6 (by decide), rfl⟩
theorem fl_bf_53 : qFl "BillForge" 53 6 7 (t_bf 7) true := ⟨R_bf, F_bf, 11, t_bf, rfl, i_bf, t_bf_ok, n_bf, by decide, q_t1 217 rfl rfl, rfl, t_bf_ok 7 (by decide), rfl⟩
theorem fl_bf_56 : qFl "BillForge" 56 6 8 (t_bf 8) true := ⟨R_bf, F_bf, 11, t_bf, rfl, i_bf, t_bf_ok, n_bf, by decide, q_t1 218 rfl rfl, rfl, t_bf_ok 8 (by decide), rfl⟩
theorem fl_bf_60 : qFl "BillForge" 60 6 9 (t_bf 9) false := ⟨R_bf, F_bf, 11, t_bf, rfl, i_bf, t_bf_ok, n_bf, by decide, q_t1 219 rfl rfl, rfl, t_bf_ok 9 (by decide), rfl⟩
theorem fl_bf_64 : qFl "BillForge" 64 6 10 (t_bf 10) false := ⟨R_bf, F_bf, 11, t_bf, rfl, i_bf, t_bf_ok, n_bf, by decide, q_t1 220 rfl rfl, rfl, t_bf_ok 10 (by decide), rfl⟩
theorem lk_lw_91 : qLk "BillForgeLaw" 91 y_bf_where b_bf_where 1 (some .int) 0 := ⟨q_t2 4 rfl rfl, ii_bf, co_bf_where, by decide, by decide, by decide +kernel⟩
theorem lk_bf_119 : qLk "BillForge" 119 y_tr_fault b_tr_fault 1 (some .int) 0 := ⟨q_t2 8 rfl rfl, ii_tr, co_tr_fault, by decide, by decide, by decide +kernel⟩
theorem lk_lw_113 : qLk "BillForgeLaw" 113 y_bf_run b_bf_run 4 (some .int) 0 := ⟨q_t2 12 rfl rfl, ii_bf, co_bf_run, by decide, by decide, by decide +kernel⟩
theorem lk_bf_166 : qLk "BillForge" 166 y_ib_size b_ib_size 1 (some .int) 0 := ⟨q_t2 16 rfl rfl, ii_ib, co_ib_size, by decide, by decide, by decide +kernel⟩
theorem lk_bf_167 : qLk "BillForge" 167 y_bf_invoiceDifference b_bf_invoiceDifference 5 none 2 := ⟨q_t2 20 rfl rfl, ii_bf, co_bf_invoiceDifference, by decide, by decide, by decide +kernel⟩
theorem lk_bf_263 : qLk "BillForge" 263 y_ib_isFull b_ib_isFull 1 (some .boolean) 0 := ⟨q_t2 24 rfl rfl, ii_ib, co_ib_isFull, by decide, by decide, by decide +kernel⟩
theorem lk_bf_190 : qLk "BillForge" 190 y_bf_chargeOf b_bf_chargeOf 7 (some .long) 2 := ⟨q_t2 28 rfl rfl, ii_bf, co_bf_chargeOf, by decide, by decide, by decide +kernel⟩
theorem lk_bf_273 : qLk "BillForge" 273 y_bf_countLiveDays b_bf_countLiveDays 5 none 2 := ⟨q_t2 32 rfl rfl, ii_bf, co_bf_countLiveDays, by decide, by decide, by decide +kernel⟩
theorem lk_bf_282 : qLk "BillForge" 282 y_cu_liveTariff b_cu_liveTariff 3 (some .int) 2 := ⟨q_t2 36 rfl rfl, ii_cu, co_cu_liveTariff, by decide, by decide, by decide +kernel⟩
theorem lk_cu_34 : qLk "BillForge$Customer" 34 y_cu_liveTariffNow b_cu_liveTariffNow 1 (some .int) 0 := ⟨q_t2 40 rfl rfl, ii_cu, co_cu_liveTariffNow, by decide, by decide, by decide +kernel⟩
theorem lk_bf_94 : qLk "BillForge" 94 y_bf_isTariff b_bf_isTariff 1 (some .boolean) 1 := ⟨q_t2 44 rfl rfl, ii_bf, co_bf_isTariff, by decide, by decide, by decide +kernel⟩
theorem lk_bf_276 : qLk "BillForge" 276 y_bf_countLiveUnits b_bf_countLiveUnits 6 none 2 := ⟨q_t2 47 rfl rfl, ii_bf, co_bf_countLiveUnits, by decide, by decide, by decide +kernel⟩
theorem lk_bf_160 : qLk "BillForge" 160 y_ev_size b_ev_size 1 (some .int) 0 := ⟨q_t2 51 rfl rfl, ii_ev, co_ev_size, by decide, by decide, by decide +kernel⟩
theorem lk_bf_285 : qLk "BillForge" 285 y_ev_dayOf b_ev_dayOf 2 (some .int) 1 := ⟨q_t2 55 rfl rfl, ii_ev, co_ev_dayOf, by decide, by decide, by decide +kernel⟩
theorem lk_bf_286 : qLk "BillForge" 286 y_ev_customerOf b_ev_customerOf 2 (some .int) 1 := ⟨q_t2 59 rfl rfl, ii_ev, co_ev_customerOf, by decide, by decide, by decide +kernel⟩
theorem lk_bf_287 : qLk "BillForge" 287 y_ev_unitsOf b_ev_unitsOf 2 (some .int) 1 := ⟨q_t2 63 rfl rfl, ii_ev, co_ev_unitsOf, by decide, by decide, by decide +kernel⟩
theorem lk_bf_279 : qLk "BillForge" 279 y_tf_feeOf b_tf_feeOf 3 (some .long) 2 := ⟨q_t2 67 rfl rfl, ii_tf, co_tf_feeOf, by decide, by decide, by decide +kernel⟩
theorem ln_tf_38 : qLn "BillForge$Tariff" 38 y_bf_shareOf "BillForge" b_bf_shareOf 6 (some .long) 3 := ⟨List.mem_filter.mpr ⟨List.mem_append_right _ (show _ ∈ tables_1 from List.mem_append_right _ (List.mem_append_left _ (List.mem_of_getElem? (i := 71) rfl))), rfl⟩, ii_bf, co_bf_shareOf, by decide, by decide, by decide +kernel⟩
theorem lk_bf_123 : qLk "BillForge" 123 y_tf_useOf b_tf_useOf 9 (some .long) 3 := ⟨q_t2 74 rfl rfl, ii_tf, co_tf_useOf, by decide, by decide, by decide +kernel⟩
theorem lk_tf_44 : Cond.methodLink "BillForge$Tariff" 44 Lib.MathLoose.max_long.x ∈ qg := q_t2 78 rfl rfl
theorem lk_tf_50 : qLk "BillForge$Tariff" 50 y_tf_priceByPacks b_tf_priceByPacks 3 (some .long) 1 := ⟨q_t2 81 rfl rfl, ii_tf, co_tf_priceByPacks, by decide, by decide, by decide +kernel⟩
theorem lk_tf_54 : qLk "BillForge$Tariff" 54 y_tf_priceByTiers b_tf_priceByTiers 10 (some .long) 1 := ⟨q_t2 85 rfl rfl, ii_tf, co_tf_priceByTiers, by decide, by decide, by decide +kernel⟩
theorem lk_tf_57 : Cond.methodLink "BillForge$Tariff" 57 Lib.MathLoose.min_long.x ∈ qg := q_t2 89 rfl rfl
theorem lk_bf_264 : qLk "BillForge" 264 y_ib_amountsOf b_ib_amountsOf 6 (some .long) 2 := ⟨q_t2 92 rfl rfl, ii_ib, co_ib_amountsOf, by decide, by decide, by decide +kernel⟩
theorem lk_bf_266 : qLk "BillForge" 266 y_ib_add b_ib_add 6 none 4 := ⟨q_t2 96 rfl rfl, ii_ib, co_ib_add, by decide, by decide, by decide +kernel⟩
theorem lk_ib_30 : qLk "BillForge$InvoiceBook" 30 y_ib_isFull b_ib_isFull 1 (some .boolean) 0 := ⟨q_t2 100 rfl rfl, ii_ib, co_ib_isFull, by decide, by decide, by decide +kernel⟩
theorem lk_ib_34 : Cond.methodLink "BillForge$InvoiceBook" 34 Lib.MathLoose.min_long.x ∈ qg := q_t2 101 rfl rfl
theorem lk_bf_179 : qLk "BillForge" 179 y_cu_addCredit b_cu_addCredit 3 none 1 := ⟨q_t2 102 rfl rfl, ii_cu, co_cu_addCredit, by decide, by decide, by decide +kernel⟩
theorem lk_bf_182 : qLk "BillForge" 182 y_bf_spendCredit b_bf_spendCredit 4 none 1 := ⟨q_t2 106 rfl rfl, ii_bf, co_bf_spendCredit, by decide, by decide, by decide +kernel⟩
theorem lk_bf_175 : qLk "BillForge" 175 y_cu_credit b_cu_credit 1 (some .long) 0 := ⟨q_t2 110 rfl rfl, ii_cu, co_cu_credit, by decide, by decide, by decide +kernel⟩
theorem lk_bf_269 : qLk "BillForge" 269 y_ib_payOpen b_ib_payOpen 9 (some .long) 2 := ⟨q_t2 114 rfl rfl, ii_ib, co_ib_payOpen, by decide, by decide, by decide +kernel⟩
theorem lk_bf_256 : qLk "BillForge" 256 y_bf_lookAtStage b_bf_lookAtStage 2 none 1 := ⟨q_t2 118 rfl rfl, ii_bf, co_bf_lookAtStage, by decide, by decide, by decide +kernel⟩
theorem lk_bf_259 : qLk "BillForge" 259 y_ib_mostOverdueDays b_ib_mostOverdueDays 5 (some .int) 2 := ⟨q_t2 122 rfl rfl, ii_ib, co_ib_mostOverdueDays, by decide, by decide, by decide +kernel⟩
theorem lk_ib_44 : qLk "BillForge$InvoiceBook" 44 y_ib_overdueDays b_ib_overdueDays 3 (some .int) 2 := ⟨q_t2 126 rfl rfl, ii_ib, co_ib_overdueDays, by decide, by decide, by decide +kernel⟩
theorem lk_ib_40 : Cond.methodLink "BillForge$InvoiceBook" 40 Lib.Math.max.name ∈ qg := q_t2 130 rfl rfl
theorem lk_bf_262 : qLk "BillForge" 262 y_cu_lookAtStage b_cu_lookAtStage 3 none 1 := ⟨q_t2 133 rfl rfl, ii_cu, co_cu_lookAtStage, by decide, by decide, by decide +kernel⟩
theorem lk_cu_38 : qLk "BillForge$Customer" 38 y_cu_stageFor b_cu_stageFor 1 (some .int) 1 := ⟨q_t2 137 rfl rfl, ii_cu, co_cu_stageFor, by decide, by decide, by decide +kernel⟩
theorem lk_cu_42 : Cond.methodLink "BillForge$Customer" 42 Lib.Math.max.name ∈ qg := q_t2 140 rfl rfl
theorem cl_lw_13 : Cond.classLink "BillForgeLaw" 13 "java/lang/IllegalArgumentException" ∈ qg := q_t2 144 rfl rfl
theorem cl_lw_15 : Cond.classLink "BillForgeLaw" 15 "java/lang/IllegalStateException" ∈ qg := q_t2 145 rfl rfl
theorem lk_lw_7 : qLk "BillForgeLaw" 7 y_bf_text b_bf_text 4 (some .int) 1 := ⟨q_t2 146 rfl rfl, ii_bf, co_bf_text, by decide, by decide, by decide +kernel⟩
theorem lk_bf_76 : qLk "BillForge" 76 y_tr_charactersIn b_tr_charactersIn 5 (some .int) 1 := ⟨q_t2 150 rfl rfl, ii_tr, co_tr_charactersIn, by decide, by decide, by decide +kernel⟩
theorem cl_bf_80 : Cond.classLink "BillForge" 80 "java/lang/IllegalArgumentException" ∈ qg := q_t2 153 rfl rfl
theorem lk_bf_83 : qLk "BillForge" 83 y_tr_length b_tr_length 1 (some .int) 0 := ⟨q_t2 217 rfl rfl, ii_tr, co_tr_length, by decide, by decide, by decide +kernel⟩
theorem cl_bf_87 : Cond.classLink "BillForge" 87 "java/lang/IllegalStateException" ∈ qg := q_t2 221 rfl rfl
theorem lk_bf_90 : qLk "BillForge" 90 y_tr_append b_tr_append 5 none 1 := ⟨q_t2 236 rfl rfl, ii_tr, co_tr_append, by decide, by decide, by decide +kernel⟩
theorem lk_lw_17 : qLk "BillForgeLaw" 17 y_bf_tariff b_bf_tariff 2 (some .int) 1 := ⟨q_t3 3 rfl rfl, ii_bf, co_bf_tariff, by decide, by decide, by decide +kernel⟩
theorem lk_bf_98 : qLk "BillForge" 98 y_tr_forgetFault b_tr_forgetFault 1 none 0 := ⟨q_t3 7 rfl rfl, ii_tr, co_tr_forgetFault, by decide, by decide, by decide +kernel⟩
theorem lk_bf_101 : qLk "BillForge" 101 y_tr_readAll b_tr_readAll 2 (some .boolean) 0 := ⟨q_t3 11 rfl rfl, ii_tr, co_tr_readAll, by decide, by decide, by decide +kernel⟩
theorem lk_tr_39 : qLk "BillForge$TariffReader" 39 y_tf_clear b_tf_clear 1 none 0 := ⟨q_t3 15 rfl rfl, ii_tf, co_tf_clear, by decide, by decide, by decide +kernel⟩
theorem lk_tr_42 : qLk "BillForge$TariffReader" 42 y_tr_readPart b_tr_readPart 3 none 0 := ⟨q_t3 19 rfl rfl, ii_tr, co_tr_readPart, by decide, by decide, by decide +kernel⟩
theorem lk_tr_45 : qLk "BillForge$TariffReader" 45 y_tr_skipBlanks b_tr_skipBlanks 1 none 0 := ⟨q_t3 23 rfl rfl, ii_tr, co_tr_skipBlanks, by decide, by decide, by decide +kernel⟩
theorem lk_tr_48 : qLk "BillForge$TariffReader" 48 y_tr_skipLetters b_tr_skipLetters 1 none 0 := ⟨q_t3 27 rfl rfl, ii_tr, co_tr_skipLetters, by decide, by decide, by decide +kernel⟩
theorem lk_tr_103 : qLk "BillForge$TariffReader" 103 y_tr_isLetter b_tr_isLetter 1 (some .boolean) 1 := ⟨q_t3 31 rfl rfl, ii_tr, co_tr_isLetter, by decide, by decide, by decide +kernel⟩
theorem lk_tr_51 : qLk "BillForge$TariffReader" 51 y_tr_wordBetween b_tr_wordBetween 4 (some .int) 2 := ⟨q_t3 34 rfl rfl, ii_tr, co_tr_wordBetween, by decide, by decide, by decide +kernel⟩
theorem lk_tr_107 : qLk "BillForge$TariffReader" 107 y_tr_spellingOf b_tr_spellingOf 1 (some (.object "java/lang/String")) 1 := ⟨q_t3 38 rfl rfl, ii_tr, co_tr_spellingOf, by decide, by decide, by decide +kernel⟩
theorem lk_tr_111 : qLk "BillForge$TariffReader" 111 y_tr_isSpelled b_tr_isSpelled 5 (some .boolean) 3 := ⟨q_t3 47 rfl rfl, ii_tr, co_tr_isSpelled, by decide, by decide, by decide +kernel⟩
theorem lk_tr_55 : qLk "BillForge$TariffReader" 55 y_tr_canStand b_tr_canStand 2 (some .boolean) 1 := ⟨q_t3 99 rfl rfl, ii_tr, co_tr_canStand, by decide, by decide, by decide +kernel⟩
theorem lk_tr_66 : qLk "BillForge$TariffReader" 66 y_tf_hasPack b_tf_hasPack 1 (some .boolean) 0 := ⟨q_t3 103 rfl rfl, ii_tf, co_tf_hasPack, by decide, by decide, by decide +kernel⟩
theorem lk_tr_70 : qLk "BillForge$TariffReader" 70 y_tf_tiers b_tf_tiers 1 (some .int) 0 := ⟨q_t3 107 rfl rfl, ii_tf, co_tf_tiers, by decide, by decide, by decide +kernel⟩
theorem lk_tr_59 : qLk "BillForge$TariffReader" 59 y_tr_readNumbers b_tr_readNumbers 3 none 1 := ⟨q_t3 111 rfl rfl, ii_tr, co_tr_readNumbers, by decide, by decide, by decide +kernel⟩
theorem lk_tr_74 : qLk "BillForge$TariffReader" 74 y_tr_readTwoNumbers b_tr_readTwoNumbers 4 none 1 := ⟨q_t3 115 rfl rfl, ii_tr, co_tr_readTwoNumbers, by decide, by decide, by decide +kernel⟩
theorem lk_tr_93 : qLk "BillForge$TariffReader" 93 y_tf_lastTierEnd b_tf_lastTierEnd 1 (some .int) 0 := ⟨q_t3 119 rfl rfl, ii_tf, co_tf_lastTierEnd, by decide, by decide, by decide +kernel⟩
theorem lk_tr_77 : qLk "BillForge$TariffReader" 77 y_tr_readNumber b_tr_readNumber 4 (some .int) 1 := ⟨q_t3 123 rfl rfl, ii_tr, co_tr_readNumber, by decide, by decide, by decide +kernel⟩
theorem lk_tr_96 : qLk "BillForge$TariffReader" 96 y_tf_addTier b_tf_addTier 3 none 2 := ⟨q_t3 127 rfl rfl, ii_tf, co_tf_addTier, by decide, by decide, by decide +kernel⟩
theorem lk_tr_100 : qLk "BillForge$TariffReader" 100 y_tf_setPack b_tf_setPack 3 none 2 := ⟨q_t3 131 rfl rfl, ii_tf, co_tf_setPack, by decide, by decide, by decide +kernel⟩
theorem lk_tr_81 : qLk "BillForge$TariffReader" 81 y_tf_setFee b_tf_setFee 2 none 1 := ⟨q_t3 135 rfl rfl, ii_tf, co_tf_setFee, by decide, by decide, by decide +kernel⟩
theorem lk_tr_84 : qLk "BillForge$TariffReader" 84 y_tf_setFree b_tf_setFree 2 none 1 := ⟨q_t3 139 rfl rfl, ii_tf, co_tf_setFree, by decide, by decide, by decide +kernel⟩
theorem lk_tr_87 : qLk "BillForge$TariffReader" 87 y_tf_setLeast b_tf_setLeast 2 none 1 := ⟨q_t3 143 rfl rfl, ii_tf, co_tf_setLeast, by decide, by decide, by decide +kernel⟩
theorem lk_tr_90 : qLk "BillForge$TariffReader" 90 y_tf_setRestPrice b_tf_setRestPrice 2 none 1 := ⟨q_t3 147 rfl rfl, ii_tf, co_tf_setRestPrice, by decide, by decide, by decide +kernel⟩
theorem lk_tr_63 : qLk "BillForge$TariffReader" 63 y_tr_readEndOfPart b_tr_readEndOfPart 2 none 1 := ⟨q_t3 151 rfl rfl, ii_tr, co_tr_readEndOfPart, by decide, by decide, by decide +kernel⟩
theorem lk_bf_105 : qLk "BillForge" 105 y_tr_draft b_tr_draft 1 (some (.object "BillForge$Tariff")) 0 := ⟨q_t3 155 rfl rfl, ii_tr, co_tr_draft, by decide, by decide, by decide +kernel⟩
theorem lk_bf_109 : qLk "BillForge" 109 y_tf_copyFrom b_tf_copyFrom 3 none 1 := ⟨q_t3 159 rfl rfl, ii_tf, co_tf_copyFrom, by decide, by decide, by decide +kernel⟩
theorem lk_bf_113 : qLk "BillForge" 113 y_tr_empty b_tr_empty 1 none 0 := ⟨q_t3 163 rfl rfl, ii_tr, co_tr_empty, by decide, by decide, by decide +kernel⟩
theorem lk_bf_116 : qLk "BillForge" 116 y_tr_parts b_tr_parts 1 (some .int) 0 := ⟨q_t3 167 rfl rfl, ii_tr, co_tr_parts, by decide, by decide, by decide +kernel⟩
theorem lk_lw_21 : qLk "BillForgeLaw" 21 y_bf_use b_bf_use 3 (some .long) 2 := ⟨q_t3 174 rfl rfl, ii_bf, co_bf_use, by decide, by decide, by decide +kernel⟩
theorem ki_bf_122 : Cond.constant "BillForge" 122 (1000000 : Int32) ∈ qg := q_t3 178 rfl rfl
theorem lk_lw_25 : qLk "BillForgeLaw" 25 y_bf_subscribe b_bf_subscribe 4 (some .int) 2 := ⟨q_t3 182 rfl rfl, ii_bf, co_bf_subscribe, by decide, by decide, by decide +kernel⟩
theorem lk_bf_127 : qLk "BillForge" 127 y_bf_isCustomer b_bf_isCustomer 1 (some .boolean) 1 := ⟨q_t3 186 rfl rfl, ii_bf, co_bf_isCustomer, by decide, by decide, by decide +kernel⟩
theorem lk_bf_130 : qLk "BillForge" 130 y_cu_tariffNow b_cu_tariffNow 1 (some .int) 0 := ⟨q_t3 189 rfl rfl, ii_cu, co_cu_tariffNow, by decide, by decide, by decide +kernel⟩
theorem lk_bf_133 : qLk "BillForge" 133 y_cu_changeTariff b_cu_changeTariff 2 none 1 := ⟨q_t3 193 rfl rfl, ii_cu, co_cu_changeTariff, by decide, by decide, by decide +kernel⟩
theorem lk_cu_30 : qLk "BillForge$Customer" 30 y_cu_isStopped b_cu_isStopped 1 (some .boolean) 0 := ⟨q_t3 197 rfl rfl, ii_cu, co_cu_isStopped, by decide, by decide, by decide +kernel⟩
theorem lk_lw_29 : qLk "BillForgeLaw" 29 y_bf_pause b_bf_pause 5 (some .boolean) 2 := ⟨q_t3 204 rfl rfl, ii_bf, co_bf_pause, by decide, by decide, by decide +kernel⟩
theorem lk_bf_137 : qLk "BillForge" 137 y_cu_isStopped b_cu_isStopped 1 (some .boolean) 0 := ⟨q_t3 208 rfl rfl, ii_cu, co_cu_isStopped, by decide, by decide, by decide +kernel⟩
theorem lk_bf_140 : qLk "BillForge" 140 y_cu_isPaused b_cu_isPaused 1 (some .boolean) 0 := ⟨q_t3 209 rfl rfl, ii_cu, co_cu_isPaused, by decide, by decide, by decide +kernel⟩
theorem lk_bf_143 : qLk "BillForge" 143 y_cu_setPaused b_cu_setPaused 2 none 1 := ⟨q_t3 213 rfl rfl, ii_cu, co_cu_setPaused, by decide, by decide, by decide +kernel⟩
theorem cl_lw_37 : Cond.classLink "BillForgeLaw" 37 "java/lang/IndexOutOfBoundsException" ∈ qg := q_t3 220 rfl rfl
theorem lk_lw_33 : qLk "BillForgeLaw" 33 y_bf_event b_bf_event 5 (some .int) 4 := ⟨q_t3 221 rfl rfl, ii_bf, co_bf_event, by decide, by decide, by decide +kernel⟩
theorem cl_bf_147 : Cond.classLink "BillForge" 147 "java/lang/IndexOutOfBoundsException" ∈ qg := q_t3 225 rfl rfl
theorem lk_bf_150 : qLk "BillForge" 150 y_ev_has b_ev_has 3 (some .boolean) 1 := ⟨q_t4 0 rfl rfl, ii_ev, co_ev_has, by decide, by decide, by decide +kernel⟩
theorem lk_bf_153 : qLk "BillForge" 153 y_ev_isFull b_ev_isFull 1 (some .boolean) 0 := ⟨q_t4 4 rfl rfl, ii_ev, co_ev_isFull, by decide, by decide, by decide +kernel⟩
theorem lk_bf_156 : qLk "BillForge" 156 y_ev_add b_ev_add 5 none 4 := ⟨q_t4 8 rfl rfl, ii_ev, co_ev_add, by decide, by decide, by decide +kernel⟩
theorem lk_ev_26 : qLk "BillForge$EventLog" 26 y_ev_isFull b_ev_isFull 1 (some .boolean) 0 := ⟨q_t4 12 rfl rfl, ii_ev, co_ev_isFull, by decide, by decide, by decide +kernel⟩
theorem lk_lw_39 : qLk "BillForgeLaw" 39 y_bf_tick b_bf_tick 3 (some .int) 1 := ⟨q_t4 16 rfl rfl, ii_bf, co_bf_tick, by decide, by decide, by decide +kernel⟩
theorem lk_bf_163 : qLk "BillForge" 163 y_bf_passDay b_bf_passDay 2 none 0 := ⟨q_t4 20 rfl rfl, ii_bf, co_bf_passDay, by decide, by decide, by decide +kernel⟩
theorem lk_bf_253 : qLk "BillForge" 253 y_cu_keepDay b_cu_keepDay 2 none 1 := ⟨q_t4 24 rfl rfl, ii_cu, co_cu_keepDay, by decide, by decide, by decide +kernel⟩
theorem lk_lw_42 : qLk "BillForgeLaw" 42 y_bf_pay b_bf_pay 6 (some .long) 2 := ⟨q_t4 31 rfl rfl, ii_bf, co_bf_pay, by decide, by decide, by decide +kernel⟩
theorem lk_bf_171 : qLk "BillForge" 171 y_bf_isPayable b_bf_isPayable 2 (some .boolean) 1 := ⟨q_t4 35 rfl rfl, ii_bf, co_bf_isPayable, by decide, by decide, by decide +kernel⟩
theorem kl_bf_251 : Cond.constantLong "BillForge" 251 (1000000 : Int64) ∈ qg := q_t4 38 rfl rfl
theorem lk_lw_46 : qLk "BillForgeLaw" 46 y_bf_plan b_bf_plan 5 (some .int) 3 := ⟨q_t4 42 rfl rfl, ii_bf, co_bf_plan, by decide, by decide, by decide +kernel⟩
theorem lk_bf_185 : qLk "BillForge" 185 y_pb_isFull b_pb_isFull 1 (some .boolean) 0 := ⟨q_t4 46 rfl rfl, ii_pb, co_pb_isFull, by decide, by decide, by decide +kernel⟩
theorem lk_bf_186 : qLk "BillForge" 186 y_pb_add b_pb_add 6 none 4 := ⟨q_t4 50 rfl rfl, ii_pb, co_pb_add, by decide, by decide, by decide +kernel⟩
theorem lk_pb_27 : qLk "BillForge$PlanBook" 27 y_pb_isFull b_pb_isFull 1 (some .boolean) 0 := ⟨q_t4 54 rfl rfl, ii_pb, co_pb_isFull, by decide, by decide, by decide +kernel⟩
theorem lk_bf_189 : qLk "BillForge" 189 y_pb_size b_pb_size 1 (some .int) 0 := ⟨q_t4 55 rfl rfl, ii_pb, co_pb_size, by decide, by decide, by decide +kernel⟩
theorem lk_lw_50 : qLk "BillForgeLaw" 50 y_bf_charge b_bf_charge 3 (some .long) 2 := ⟨q_t4 62 rfl rfl, ii_bf, co_bf_charge, by decide, by decide, by decide +kernel⟩
theorem cl_lw_56 : Cond.classLink "BillForgeLaw" 56 "java/util/NoSuchElementException" ∈ qg := q_t4 69 rfl rfl
theorem lk_lw_53 : qLk "BillForgeLaw" 53 y_bf_invoice b_bf_invoice 3 (some .long) 2 := ⟨q_t4 70 rfl rfl, ii_bf, co_bf_invoice, by decide, by decide, by decide +kernel⟩
theorem lk_bf_194 : qLk "BillForge" 194 y_ib_has b_ib_has 2 (some .boolean) 1 := ⟨q_t4 74 rfl rfl, ii_ib, co_ib_has, by decide, by decide, by decide +kernel⟩
theorem cl_bf_195 : Cond.classLink "BillForge" 195 "java/util/NoSuchElementException" ∈ qg := q_t4 78 rfl rfl
theorem lk_bf_198 : qLk "BillForge" 198 y_ib_customerOf b_ib_customerOf 2 (some .int) 1 := ⟨q_t4 93 rfl rfl, ii_ib, co_ib_customerOf, by decide, by decide, by decide +kernel⟩
theorem lk_bf_201 : qLk "BillForge" 201 y_ib_periodOf b_ib_periodOf 2 (some .int) 1 := ⟨q_t4 97 rfl rfl, ii_ib, co_ib_periodOf, by decide, by decide, by decide +kernel⟩
theorem lk_bf_204 : qLk "BillForge" 204 y_ib_amountOf b_ib_amountOf 2 (some .long) 1 := ⟨q_t4 101 rfl rfl, ii_ib, co_ib_amountOf, by decide, by decide, by decide +kernel⟩
theorem lk_bf_208 : qLk "BillForge" 208 y_ib_dayOf b_ib_dayOf 2 (some .int) 1 := ⟨q_t4 105 rfl rfl, ii_ib, co_ib_dayOf, by decide, by decide, by decide +kernel⟩
theorem lk_bf_211 : qLk "BillForge" 211 y_ib_paidOf b_ib_paidOf 2 (some .long) 1 := ⟨q_t4 109 rfl rfl, ii_ib, co_ib_paidOf, by decide, by decide, by decide +kernel⟩
theorem lk_bf_214 : qLk "BillForge" 214 y_ib_overdueDays b_ib_overdueDays 3 (some .int) 2 := ⟨q_t4 113 rfl rfl, ii_ib, co_ib_overdueDays, by decide, by decide, by decide +kernel⟩
theorem lk_lw_58 : qLk "BillForgeLaw" 58 y_bf_told b_bf_told 3 (some .long) 2 := ⟨q_t4 117 rfl rfl, ii_bf, co_bf_told, by decide, by decide, by decide +kernel⟩
theorem lk_bf_218 : qLk "BillForge" 218 y_cu_stage b_cu_stage 1 (some .int) 0 := ⟨q_t4 121 rfl rfl, ii_cu, co_cu_stage, by decide, by decide, by decide +kernel⟩
theorem lk_bf_221 : qLk "BillForge" 221 y_ib_openOf b_ib_openOf 5 (some .long) 1 := ⟨q_t4 125 rfl rfl, ii_ib, co_ib_openOf, by decide, by decide, by decide +kernel⟩
theorem lk_bf_224 : qLk "BillForge" 224 y_pb_amountsOf b_pb_amountsOf 5 (some .long) 1 := ⟨q_t4 129 rfl rfl, ii_pb, co_pb_amountsOf, by decide, by decide, by decide +kernel⟩
theorem lk_bf_227 : qLk "BillForge" 227 y_pb_earnedOf b_pb_earnedOf 7 (some .long) 2 := ⟨q_t4 133 rfl rfl, ii_pb, co_pb_earnedOf, by decide, by decide, by decide +kernel⟩
theorem lk_pb_31 : Cond.methodLink "BillForge$PlanBook" 31 Lib.Math.min.name ∈ qg := q_t4 137 rfl rfl
theorem ln_pb_37 : qLn "BillForge$PlanBook" 37 y_bf_shareOf "BillForge" b_bf_shareOf 6 (some .long) 3 := ⟨List.mem_filter.mpr ⟨List.mem_append_right _ (show _ ∈ tables_1 from List.mem_append_right _ (List.mem_append_right _ (List.mem_append_right _ (List.mem_append_left _ (List.mem_of_getElem? (i := 140) rfl))))), rfl⟩, ii_bf, co_bf_shareOf, by decide, by decide, by decide +kernel⟩
theorem lk_lw_61 : qLk "BillForgeLaw" 61 y_bf_books b_bf_books 2 (some .long) 1 := ⟨q_t4 144 rfl rfl, ii_bf, co_bf_books, by decide, by decide, by decide +kernel⟩
theorem lk_bf_230 : qLk "BillForge" 230 y_bf_allOpen b_bf_allOpen 4 (some .long) 0 := ⟨q_t4 148 rfl rfl, ii_bf, co_bf_allOpen, by decide, by decide, by decide +kernel⟩
theorem lk_bf_233 : qLk "BillForge" 233 y_bf_allCredit b_bf_allCredit 4 (some .long) 0 := ⟨q_t4 152 rfl rfl, ii_bf, co_bf_allCredit, by decide, by decide, by decide +kernel⟩
theorem lk_bf_236 : qLk "BillForge" 236 y_ib_allAmounts b_ib_allAmounts 4 (some .long) 0 := ⟨q_t4 156 rfl rfl, ii_ib, co_ib_allAmounts, by decide, by decide, by decide +kernel⟩
theorem lk_bf_239 : qLk "BillForge" 239 y_bf_allEarned b_bf_allEarned 4 (some .long) 0 := ⟨q_t4 160 rfl rfl, ii_bf, co_bf_allEarned, by decide, by decide, by decide +kernel⟩
theorem lk_bf_242 : qLk "BillForge" 242 y_pb_allAmounts b_pb_allAmounts 4 (some .long) 0 := ⟨q_t4 164 rfl rfl, ii_pb, co_pb_allAmounts, by decide, by decide, by decide +kernel⟩
theorem lk_lw_65 : qLk "BillForgeLaw" 65 y_bf_date b_bf_date 4 (some .int) 2 := ⟨q_t4 171 rfl rfl, ii_bf, co_bf_date, by decide, by decide, by decide +kernel⟩
theorem ki_bf_243 : Cond.constant "BillForge" 243 (100000 : Int32) ∈ qg := q_t4 175 rfl rfl
theorem lk_bf_244 : qLk "BillForge" 244 y_al_periodOf b_al_periodOf 4 (some .int) 1 := ⟨q_t4 176 rfl rfl, ii_al, co_al_periodOf, by decide, by decide, by decide +kernel⟩
theorem lk_bf_245 : qLk "BillForge" 245 y_al_yearOf b_al_yearOf 1 (some .int) 1 := ⟨q_t4 179 rfl rfl, ii_al, co_al_yearOf, by decide, by decide, by decide +kernel⟩
theorem lk_bf_248 : qLk "BillForge" 248 y_al_monthOf b_al_monthOf 1 (some .int) 1 := ⟨q_t4 180 rfl rfl, ii_al, co_al_monthOf, by decide, by decide, by decide +kernel⟩
theorem lk_lw_68 : qLk "BillForgeLaw" 68 y_bf_count b_bf_count 2 (some .int) 1 := ⟨q_t4 184 rfl rfl, ii_bf, co_bf_count, by decide, by decide, by decide +kernel⟩
theorem cl_lw_72 : Cond.classLink "BillForgeLaw" 72 "BillForgeModel" ∈ qg := q_t4 188 rfl rfl
theorem lk_lw_74 : qLk "BillForgeLaw" 74 y_md_init b_md_init 1 none 0 := ⟨q_t4 190 rfl rfl, ii_md, co_md_init, by decide, by decide, by decide +kernel⟩
theorem lk_md_1 : Cond.methodLink "BillForgeModel" 1 Lib.objectInit ∈ qg := q_t4 193 rfl rfl
theorem fl_md_99 : qFl "BillForgeModel" 99 7 0 (t_md 0) false := ⟨R_md, F_md, 39, t_md, rfl, i_md, t_md_ok, n_md, by decide, q_t4 194 rfl rfl, rfl, t_md_ok 0 (by decide), rfl⟩
theorem fl_md_7 : qFl "BillForgeModel" 7 7 1 (t_md 1) false := ⟨R_md, F_md, 39, t_md, rfl, i_md, t_md_ok, n_md, by decide, q_t4 195 rfl rfl, rfl, t_md_ok 1 (by decide), rfl⟩
theorem fl_md_188 : qFl "BillForgeModel" 188 7 2 (t_md 2) false := ⟨R_md, F_md, 39, t_md, rfl, i_md, t_md_ok, n_md, by decide, q_t4 196 rfl rfl, rfl, t_md_ok 2 (by decide), rfl⟩
theorem fl_md_13 : qFl "BillForgeModel" 13 7 3 (t_md 3) true := ⟨R_md, F_md, 39, t_md, rfl, i_md, t_md_ok, n_md, by decide, q_t4 197 rfl rfl, rfl, t_md_ok 3 (by decide), rfl⟩
theorem fl_md_114 : qFl "BillForgeModel" 114 7 4 (t_md 4) false := ⟨R_md, F_md, 39, t_md, rfl, i_md, t_md_ok, n_md, by decide, q_t4 198 rfl rfl, rfl, t_md_ok 4 (by decide), rfl⟩
theorem fl_md_17 : qFl "BillForgeModel" 17 7 5 (t_md 5) true := ⟨R_md, F_md, 39, t_md, rfl, i_md, t_md_ok, n_md, by decide, q_t4 199 rfl rfl, rfl, t_md_ok 5 (by decide), rfl⟩
theorem fl_md_20 : qFl "BillForgeModel" 20 7 6 (t_md 6) true := ⟨R_md, F_md, 39, t_md, rfl, i_md, t_md_ok, n_md, by decide, q_t4 200 rfl rfl, rfl, t_md_ok 6 (by decide), rfl⟩
theorem fl_md_23 : qFl "BillForgeModel" 23 7 7 (t_md 7) true := ⟨R_md, F_md, 39, t_md, rfl, i_md, t_md_ok, n_md, by decide, q_t4 201 rfl rfl, rfl, t_md_ok 7 (by decide), rfl⟩
theorem fl_md_26 : qFl "BillForgeModel" 26 7 8 (t_md 8) true := ⟨R_md, F_md, 39, t_md, rfl, i_md, t_md_ok, n_md, by decide, q_t4 202 rfl rfl, rfl, t_md_ok 8 (by decide), rfl⟩
theorem fl_md_29 : qFl "BillForgeModel" 29 7 9 (t_md 9) true := ⟨R_md, F_md, 39, t_md, rfl, i_md, t_md_ok, n_md, by decide, q_t4 203 rfl rfl, rfl, t_md_ok 9 (by decide), rfl⟩
theorem fl_md_32 : qFl "BillForgeModel" 32 7 10 (t_md 10) true := ⟨R_md, F_md, 39, t_md, rfl, i_md, t_md_ok, n_md, by decide, q_t4 204 rfl rfl, rfl, t_md_ok 10 (by decide), rfl⟩
theorem fl_md_35 : qFl "BillForgeModel" 35 7 11 (t_md 11) true := ⟨R_md, F_md, 39, t_md, rfl, i_md, t_md_ok, n_md, by decide, q_t4 205 rfl rfl, rfl, t_md_ok 11 (by decide), rfl⟩
theorem fl_md_38 : qFl "BillForgeModel" 38 7 12 (t_md 12) true := ⟨R_md, F_md, 39, t_md, rfl, i_md, t_md_ok, n_md, by decide, q_t4 206 rfl rfl, rfl, t_md_ok 12 (by decide), rfl⟩
theorem fl_md_41 : qFl "BillForgeModel" 41 7 13 (t_md 13) true := ⟨R_md, F_md, 39, t_md, rfl, i_md, t_md_ok, n_md, by decide, q_t4 207 rfl rfl, rfl, t_md_ok 13 (by decide), rfl⟩
theorem fl_md_44 : qFl "BillForgeModel" 44 7 14 (t_md 14) true := ⟨R_md, F_md, 39, t_md, rfl, i_md, t_md_ok, n_md, by decide, q_t4 208 rfl rfl, rfl, t_md_ok 14 (by decide), rfl⟩
theorem fl_md_47 : qFl "BillForgeModel" 47 7 15 (t_md 15) true := ⟨R_md, F_md, 39, t_md, rfl, i_md, t_md_ok, n_md, by decide, q_t4 209 rfl rfl, rfl, t_md_ok 15 (by decide), rfl⟩
theorem fl_md_50 : qFl "BillForgeModel" 50 7 16 (t_md 16) true := ⟨R_md, F_md, 39, t_md, rfl, i_md, t_md_ok, n_md, by decide, q_t4 210 rfl rfl, rfl, t_md_ok 16 (by decide), rfl⟩
theorem fl_md_53 : qFl "BillForgeModel" 53 7 17 (t_md 17) true := ⟨R_md, F_md, 39, t_md, rfl, i_md, t_md_ok, n_md, by decide, q_t4 211 rfl rfl, rfl, t_md_ok 17 (by decide), rfl⟩
theorem fl_md_57 : qFl "BillForgeModel" 57 7 18 (t_md 18) true := ⟨R_md, F_md, 39, t_md, rfl, i_md, t_md_ok, n_md, by decide, q_t4 212 rfl rfl, rfl, t_md_ok 18 (by decide), rfl⟩
theorem fl_md_60 : qFl "BillForgeModel" 60 7 19 (t_md 19) true := ⟨R_md, F_md, 39, t_md, rfl, i_md, t_md_ok, n_md, by decide, q_t4 213 rfl rfl, rfl, t_md_ok 19 (by decide), rfl⟩
theorem fl_md_63 : qFl "BillForgeModel" 63 7 20 (t_md 20) true := ⟨R_md, F_md, 39, t_md, rfl, i_md, t_md_ok, n_md, by decide, q_t4 214 rfl rfl, rfl, t_md_ok 20 (by decide), rfl⟩
theorem fl_md_66 : qFl "BillForgeModel" 66 7 21 (t_md 21) true := ⟨R_md, F_md, 39, t_md, rfl, i_md, t_md_ok, n_md, by decide, q_t4 215 rfl rfl, rfl, t_md_ok 21 (by decide), rfl⟩
theorem fl_md_69 : qFl "BillForgeModel" 69 7 22 (t_md 22) true := ⟨R_md, F_md, 39, t_md, rfl, i_md, t_md_ok, n_md, by decide, q_t4 216 rfl rfl, rfl, t_md_ok 22 (by decide), rfl⟩
theorem fl_md_198 : qFl "BillForgeModel" 198 7 23 (t_md 23) false := ⟨R_md, F_md, 39, t_md, rfl, i_md, t_md_ok, n_md, by decide, q_t4 217 rfl rfl, rfl, t_md_ok 23 (by decide), rfl⟩
theorem fl_md_72 : qFl "BillForgeModel" 72 7 24 (t_md 24) true := ⟨R_md, F_md, 39, t_md, rfl, i_md, t_md_ok, n_md, by decide, q_t4 218 rfl rfl, rfl, t_md_ok 24 (by decide), rfl⟩
theorem fl_md_75 : qFl "BillForgeModel" 75 7 25 (t_md 25) true := ⟨R_md, F_md, 39, t_md, rfl, i_md, t_md_ok, n_md, by decide, q_t4 219 rfl rfl, rfl, t_md_ok 25 (by decide), rfl⟩
theorem fl_md_78 : qFl "BillForgeModel" 78 7 26 (t_md 26) true := ⟨R_md, F_md, 39, t_md, rfl, i_md, t_md_ok, n_md, by decide, q_t4 220 rfl rfl, rfl, t_md_ok 26 (by decide), rfl⟩
theorem fl_md_81 : qFl "BillForgeModel" 81 7 27 (t_md 27) true := ⟨R_md, F_md, 39, t_md, rfl, i_md, t_md_ok, n_md, by decide, q_t4 221 rfl rfl, rfl, t_md_ok 27 (by decide), rfl⟩
theorem fl_md_84 : qFl "BillForgeModel" 84 7 28 (t_md 28) true := ⟨R_md, F_md, 39, t_md, rfl, i_md, t_md_ok, n_md, by decide, q_t4 222 rfl rfl, rfl, t_md_ok 28 (by decide), rfl⟩
theorem fl_md_213 : qFl "BillForgeModel" 213 7 29 (t_md 29) false := ⟨R_md, F_md, 39, t_md, rfl, i_md, t_md_ok, n_md, by decide, q_t4 223 rfl rfl, rfl, t_md_ok 29 (by decide), rfl⟩
theorem fl_md_87 : qFl "BillForgeModel" 87 7 30 (t_md 30) true := ⟨R_md, F_md, 39, t_md, rfl, i_md, t_md_ok, n_md, by decide, q_t4 224 rfl rfl, rfl, t_md_ok 30 (by decide), rfl⟩
theorem fl_md_90 : qFl "BillForgeModel" 90 7 31 (t_md 31) true := ⟨R_md, F_md, 39, t_md, rfl, i_md, t_md_ok, n_md, by decide, q_t4 225 rfl rfl, rfl, t_md_ok 31 (by decide), rfl⟩
theorem fl_md_93 : qFl "BillForgeModel" 93 7 32 (t_md 32) true := ⟨R_md, F_md, 39, t_md, rfl, i_md, t_md_ok, n_md, by decide, q_t4 226 rfl rfl, rfl, t_md_ok 32 (by decide), rfl⟩
theorem fl_md_96 : qFl "BillForgeModel" 96 7 33 (t_md 33) true := ⟨R_md, F_md, 39, t_md, rfl, i_md, t_md_ok, n_md, by decide, q_t4 227 rfl rfl, rfl, t_md_ok 33 (by decide), rfl⟩
theorem fl_md_233 : qFl "BillForgeModel" 233 7 34 (t_md 34) false := ⟨R_md, F_md, 39, t_md, rfl, i_md, t_md_ok, n_md, by decide, q_t4 228 rfl rfl, rfl, t_md_ok 34 (by decide), rfl⟩
theorem fl_md_227 : qFl "BillForgeModel" 227 7 35 (t_md 35) false := ⟨R_md, F_md, 39, t_md, rfl, i_md, t_md_ok, n_md, by decide, q_t4 229 rfl rfl, rfl, t_md_ok 35 (by decide), rfl⟩
theorem fl_md_117 : qFl "BillForgeModel" 117 7 36 (t_md 36) false := ⟨R_md, F_md, 39, t_md, rfl, i_md, t_md_ok, n_md, by decide, q_t4 230 rfl rfl, rfl, t_md_ok 36 (by decide), rfl⟩
theorem fl_md_154 : qFl "BillForgeModel" 154 7 37 (t_md 37) false := ⟨R_md, F_md, 39, t_md, rfl, i_md, t_md_ok, n_md, by decide, q_t4 231 rfl rfl, rfl, t_md_ok 37 (by decide), rfl⟩
theorem fl_md_160 : qFl "BillForgeModel" 160 7 38 (t_md 38) false := ⟨R_md, F_md, 39, t_md, rfl, i_md, t_md_ok, n_md, by decide, q_t4 232 rfl rfl, rfl, t_md_ok 38 (by decide), rfl⟩
theorem lk_lw_83 : qLk "BillForgeLaw" 83 y_md_thrown b_md_thrown 1 (some .int) 0 := ⟨q_t5 72 rfl rfl, ii_md, co_md_thrown, by decide, by decide, by decide +kernel⟩
theorem lk_lw_82 : qLk "BillForgeLaw" 82 y_md_text b_md_text 6 (some .int) 1 := ⟨q_t5 76 rfl rfl, ii_md, co_md_text, by decide, by decide, by decide +kernel⟩
theorem kl_md_102 : Cond.constantLong "BillForgeModel" 102 (32 : Int64) ∈ qg := q_t5 80 rfl rfl
theorem kl_md_104 : Cond.constantLong "BillForgeModel" 104 (126 : Int64) ∈ qg := q_t5 81 rfl rfl
theorem lk_md_106 : qLk "BillForgeModel" 106 y_md_in b_md_in 6 (some .boolean) 3 := ⟨q_t5 82 rfl rfl, ii_md, co_md_in, by decide, by decide, by decide +kernel⟩
theorem lk_md_110 : qLk "BillForgeModel" 110 y_md_refuse b_md_refuse 2 (some .int) 1 := ⟨q_t5 85 rfl rfl, ii_md, co_md_refuse, by decide, by decide, by decide +kernel⟩
theorem lk_lw_90 : qLk "BillForgeLaw" 90 y_md_tariff b_md_tariff 3 (some .int) 1 := ⟨q_t5 89 rfl rfl, ii_md, co_md_tariff, by decide, by decide, by decide +kernel⟩
theorem kl_md_167 : Cond.constantLong "BillForgeModel" 167 (2 : Int64) ∈ qg := q_t5 93 rfl rfl
theorem lk_md_169 : qLk "BillForgeModel" 169 y_md_read b_md_read 2 (some .boolean) 0 := ⟨q_t5 94 rfl rfl, ii_md, co_md_read, by decide, by decide, by decide +kernel⟩
theorem lk_md_163 : qLk "BillForgeModel" 163 y_md_part b_md_part 7 (some .boolean) 0 := ⟨q_t5 98 rfl rfl, ii_md, co_md_part, by decide, by decide, by decide +kernel⟩
theorem lk_md_128 : qLk "BillForgeModel" 128 y_md_blanks b_md_blanks 1 none 0 := ⟨q_t5 102 rfl rfl, ii_md, co_md_blanks, by decide, by decide, by decide +kernel⟩
theorem lk_md_120 : qLk "BillForgeModel" 120 y_md_look b_md_look 1 (some .int) 0 := ⟨q_t5 106 rfl rfl, ii_md, co_md_look, by decide, by decide, by decide +kernel⟩
theorem kl_md_147 : Cond.constantLong "BillForgeModel" 147 (97 : Int64) ∈ qg := q_t5 110 rfl rfl
theorem kl_md_149 : Cond.constantLong "BillForgeModel" 149 (122 : Int64) ∈ qg := q_t5 111 rfl rfl
theorem lk_md_151 : qLk "BillForgeModel" 151 y_md_word b_md_word 6 (some .int) 1 := ⟨q_t5 112 rfl rfl, ii_md, co_md_word, by decide, by decide, by decide +kernel⟩
theorem kl_md_135 : Cond.constantLong "BillForgeModel" 135 (6710629 : Int64) ∈ qg := q_t5 116 rfl rfl
theorem kl_md_137 : Cond.constantLong "BillForgeModel" 137 (1718773093 : Int64) ∈ qg := q_t5 117 rfl rfl
theorem kl_md_139 : Cond.constantLong "BillForgeModel" 139 (7170414 : Int64) ∈ qg := q_t5 118 rfl rfl
theorem kl_md_141 : Cond.constantLong "BillForgeModel" 141 (7366002 : Int64) ∈ qg := q_t5 119 rfl rfl
theorem kl_md_143 : Cond.constantLong "BillForgeModel" 143 (1953064306 : Int64) ∈ qg := q_t5 120 rfl rfl
theorem kl_md_145 : Cond.constantLong "BillForgeModel" 145 (1919251316 : Int64) ∈ qg := q_t5 121 rfl rfl
theorem lk_md_157 : qLk "BillForgeModel" 157 y_md_number b_md_number 5 (some .int) 1 := ⟨q_t5 122 rfl rfl, ii_md, co_md_number, by decide, by decide, by decide +kernel⟩
theorem lk_md_131 : qLk "BillForgeModel" 131 y_md_isDigit b_md_isDigit 1 (some .boolean) 1 := ⟨q_t5 126 rfl rfl, ii_md, co_md_isDigit, by decide, by decide, by decide +kernel⟩
theorem kl_md_124 : Cond.constantLong "BillForgeModel" 124 (48 : Int64) ∈ qg := q_t5 129 rfl rfl
theorem kl_md_126 : Cond.constantLong "BillForgeModel" 126 (57 : Int64) ∈ qg := q_t5 130 rfl rfl
theorem lk_lw_94 : qLk "BillForgeLaw" 94 y_md_where b_md_where 1 (some .int) 0 := ⟨q_t5 131 rfl rfl, ii_md, co_md_where, by decide, by decide, by decide +kernel⟩
theorem lk_lw_98 : qLk "BillForgeLaw" 98 y_md_use b_md_use 3 (some .long) 2 := ⟨q_t5 135 rfl rfl, ii_md, co_md_use, by decide, by decide, by decide +kernel⟩
theorem kl_md_172 : Cond.constantLong "BillForgeModel" 172 (1000000 : Int64) ∈ qg := q_t5 139 rfl rfl
theorem lk_md_174 : qLk "BillForgeModel" 174 y_md_priced b_md_priced 17 (some .long) 4 := ⟨q_t5 140 rfl rfl, ii_md, co_md_priced, by decide, by decide, by decide +kernel⟩
theorem lk_lw_139 : qLk "BillForgeLaw" 139 y_md_date b_md_date 5 (some .int) 2 := ⟨q_t5 144 rfl rfl, ii_md, co_md_date, by decide, by decide, by decide +kernel⟩
theorem kl_md_184 : Cond.constantLong "BillForgeModel" 184 (100000 : Int64) ∈ qg := q_t5 148 rfl rfl
theorem kl_md_186 : Cond.constantLong "BillForgeModel" 186 (3 : Int64) ∈ qg := q_t5 149 rfl rfl
theorem lk_md_181 : qLk "BillForgeModel" 181 y_md_daysOf b_md_daysOf 3 (some .int) 1 := ⟨q_t5 150 rfl rfl, ii_md, co_md_daysOf, by decide, by decide, by decide +kernel⟩
theorem lk_md_178 : qLk "BillForgeModel" 178 y_md_leaps b_md_leaps 1 (some .boolean) 1 := ⟨q_t5 153 rfl rfl, ii_md, co_md_leaps, by decide, by decide, by decide +kernel⟩
theorem lk_lw_127 : qLk "BillForgeLaw" 127 y_md_charge b_md_charge 3 (some .long) 2 := ⟨q_t5 156 rfl rfl, ii_md, co_md_charge, by decide, by decide, by decide +kernel⟩
theorem kl_md_201 : Cond.constantLong "BillForgeModel" 201 (4 : Int64) ∈ qg := q_t5 160 rfl rfl
theorem kl_md_203 : Cond.constantLong "BillForgeModel" 203 (13 : Int64) ∈ qg := q_t5 161 rfl rfl
theorem lk_md_205 : qLk "BillForgeModel" 205 y_md_due b_md_due 13 (some .long) 2 := ⟨q_t5 162 rfl rfl, ii_md, co_md_due, by decide, by decide, by decide +kernel⟩
theorem lk_md_191 : qLk "BillForgeModel" 191 y_md_firstOf b_md_firstOf 3 (some .int) 1 := ⟨q_t5 166 rfl rfl, ii_md, co_md_firstOf, by decide, by decide, by decide +kernel⟩
theorem lk_md_194 : qLk "BillForgeModel" 194 y_md_live b_md_live 3 (some .int) 2 := ⟨q_t5 169 rfl rfl, ii_md, co_md_live, by decide, by decide, by decide +kernel⟩
theorem lk_lw_101 : qLk "BillForgeLaw" 101 y_md_subscribe b_md_subscribe 4 (some .int) 2 := ⟨q_t5 173 rfl rfl, ii_md, co_md_subscribe, by decide, by decide, by decide +kernel⟩
theorem kl_md_209 : Cond.constantLong "BillForgeModel" 209 (-1 : Int64) ∈ qg := q_t5 177 rfl rfl
theorem lk_lw_105 : qLk "BillForgeLaw" 105 y_md_pause b_md_pause 4 (some .boolean) 2 := ⟨q_t5 178 rfl rfl, ii_md, co_md_pause, by decide, by decide, by decide +kernel⟩
theorem lk_lw_109 : qLk "BillForgeLaw" 109 y_md_event b_md_event 6 (some .int) 4 := ⟨q_t5 182 rfl rfl, ii_md, co_md_event, by decide, by decide, by decide +kernel⟩
theorem kl_md_211 : Cond.constantLong "BillForgeModel" 211 (10000 : Int64) ∈ qg := q_t5 186 rfl rfl
theorem lk_lw_112 : qLk "BillForgeLaw" 112 y_md_tick b_md_tick 4 (some .int) 1 := ⟨q_t5 187 rfl rfl, ii_md, co_md_tick, by decide, by decide, by decide +kernel⟩
theorem kl_md_219 : Cond.constantLong "BillForgeModel" 219 (40 : Int64) ∈ qg := q_t5 191 rfl rfl
theorem lk_md_221 : qLk "BillForgeModel" 221 y_md_look2 b_md_look2 4 none 1 := ⟨q_t5 192 rfl rfl, ii_md, co_md_look2, by decide, by decide, by decide +kernel⟩
theorem lk_md_216 : qLk "BillForgeModel" 216 y_md_overdue b_md_overdue 3 (some .int) 1 := ⟨q_t5 196 rfl rfl, ii_md, co_md_overdue, by decide, by decide, by decide +kernel⟩
theorem lk_lw_116 : qLk "BillForgeLaw" 116 y_md_run b_md_run 9 (some .int) 0 := ⟨q_t5 200 rfl rfl, ii_md, co_md_run, by decide, by decide, by decide +kernel⟩
theorem lk_md_224 : qLk "BillForgeModel" 224 y_md_settle b_md_settle 8 none 1 := ⟨q_t5 204 rfl rfl, ii_md, co_md_settle, by decide, by decide, by decide +kernel⟩
theorem lk_lw_120 : qLk "BillForgeLaw" 120 y_md_pay b_md_pay 6 (some .long) 2 := ⟨q_t5 208 rfl rfl, ii_md, co_md_pay, by decide, by decide, by decide +kernel⟩
theorem lk_lw_124 : qLk "BillForgeLaw" 124 y_md_plan b_md_plan 5 (some .int) 3 := ⟨q_t5 212 rfl rfl, ii_md, co_md_plan, by decide, by decide, by decide +kernel⟩
theorem kl_md_231 : Cond.constantLong "BillForgeModel" 231 (400 : Int64) ∈ qg := q_t5 216 rfl rfl
theorem lk_lw_130 : qLk "BillForgeLaw" 130 y_md_invoice b_md_invoice 3 (some .long) 2 := ⟨q_t5 217 rfl rfl, ii_md, co_md_invoice, by decide, by decide, by decide +kernel⟩
theorem lk_lw_133 : qLk "BillForgeLaw" 133 y_md_told b_md_told 6 (some .long) 2 := ⟨q_t5 221 rfl rfl, ii_md, co_md_told, by decide, by decide, by decide +kernel⟩
theorem kl_md_236 : Cond.constantLong "BillForgeModel" 236 (6 : Int64) ∈ qg := q_t5 225 rfl rfl
theorem lk_md_238 : qLk "BillForgeModel" 238 y_md_open b_md_open 5 (some .long) 1 := ⟨q_t5 226 rfl rfl, ii_md, co_md_open, by decide, by decide, by decide +kernel⟩
theorem lk_md_242 : qLk "BillForgeModel" 242 y_md_earned b_md_earned 3 (some .long) 1 := ⟨q_t5 230 rfl rfl, ii_md, co_md_earned, by decide, by decide, by decide +kernel⟩
theorem lk_lw_136 : qLk "BillForgeLaw" 136 y_md_books b_md_books 5 (some .long) 1 := ⟨q_t5 234 rfl rfl, ii_md, co_md_books, by decide, by decide, by decide +kernel⟩
theorem lk_lw_142 : qLk "BillForgeLaw" 142 y_md_count b_md_count 2 (some .int) 1 := ⟨q_t5 238 rfl rfl, ii_md, co_md_count, by decide, by decide, by decide +kernel⟩
theorem kl_lw_75 : Cond.constantLong "BillForgeLaw" 75 (4294967295 : Int64) ∈ qg := q_t6 2 rfl rfl
theorem ie_IllegalArgumentException : Cond.initialized "java/lang/IllegalArgumentException" ∈ qg := q_t1 13 rfl rfl
theorem ie_IllegalStateException : Cond.initialized "java/lang/IllegalStateException" ∈ qg := q_t1 14 rfl rfl
theorem ie_IndexOutOfBoundsException : Cond.initialized "java/lang/IndexOutOfBoundsException" ∈ qg := q_t1 20 rfl rfl
theorem ie_NoSuchElementException : Cond.initialized "java/util/NoSuchElementException" ∈ qg := q_t1 21 rfl rfl
theorem i_math : Cond.initialized "java/lang/Math" ∈ qg := q_t1 19 rfl rfl
theorem s_mmax : Cond.static Lib.Math.max.name ∈ qg := q_t2 131 rfl rfl
theorem c_mmax : Cond.code Lib.Math.max.name Lib.Math.max.code 2 (some .int) ∈ qg := q_t2 132 rfl rfl
theorem s_mmin : Cond.static Lib.Math.min.name ∈ qg := q_t4 138 rfl rfl
theorem c_mmin : Cond.code Lib.Math.min.name Lib.Math.min.code 2 (some .int) ∈ qg := q_t4 139 rfl rfl
theorem s_mmaxl : Cond.static Lib.MathLoose.max_long.x ∈ qg := q_t2 79 rfl rfl
theorem c_mmaxl : Cond.code Lib.MathLoose.max_long.x Lib.MathLoose.max_long.code 4 (some .long) ∈ qg := q_t2 80 rfl rfl
theorem s_mminl : Cond.static Lib.MathLoose.min_long.x ∈ qg := q_t2 90 rfl rfl
theorem c_mminl : Cond.code Lib.MathLoose.min_long.x Lib.MathLoose.min_long.code 4 (some .long) ∈ qg := q_t2 91 rfl rfl
theorem im_obj : Cond.instanceMethod Lib.objectInit ∈ qg := q_t1 28 rfl rfl
theorem co_obj : Cond.code Lib.objectInit ⟨#[0xb1]⟩ 1 none ∈ qg := q_t1 29 rfl rfl
end
section
theorem d_al_yearOf_0 : decode b_al_yearOf 0 = .ok (.sipush 2000, 3) := by decide +kernel
theorem d_al_yearOf_3 : decode b_al_yearOf 3 = .ok (.iload_n 0, 1) := by decide +kernel
theorem d_al_yearOf_4 : decode b_al_yearOf 4 = .ok (.bipush 12, 2) := by decide +kernel
theorem d_al_yearOf_6 : decode b_al_yearOf 6 = .ok (.idiv, 1) := by decide +kernel
theorem d_al_yearOf_7 : decode b_al_yearOf 7 = .ok (.iadd, 1) := by decide +kernel
theorem d_al_yearOf_8 : decode b_al_yearOf 8 = .ok (.ireturn, 1) := by decide +kernel
theorem d_al_monthOf_0 : decode b_al_monthOf 0 = .ok (.iload_n 0, 1) := by decide +kernel
theorem d_al_monthOf_1 : decode b_al_monthOf 1 = .ok (.bipush 12, 2) := by decide +kernel
theorem d_al_monthOf_3 : decode b_al_monthOf 3 = .ok (.irem, 1) := by decide +kernel
theorem d_al_monthOf_4 : decode b_al_monthOf 4 = .ok (.iconst 1, 1) := by decide +kernel
theorem d_al_monthOf_5 : decode b_al_monthOf 5 = .ok (.iadd, 1) := by decide +kernel
theorem d_al_monthOf_6 : decode b_al_monthOf 6 = .ok (.ireturn, 1) := by decide +kernel
theorem d_al_firstDayOf_0 : decode b_al_firstDayOf 0 = .ok (.iload_n 0, 1) := by decide +kernel
theorem d_al_firstDayOf_1 : decode b_al_firstDayOf 1 = .ok (.invokestatic 9, 3) := by decide +kernel
theorem d_al_firstDayOf_4 : decode b_al_firstDayOf 4 = .ok (.istore_n 1, 1) := by decide +kernel
theorem d_al_firstDayOf_5 : decode b_al_firstDayOf 5 = .ok (.iload_n 1, 1) := by decide +kernel
theorem d_al_firstDayOf_6 : decode b_al_firstDayOf 6 = .ok (.invokestatic 13, 3) := by decide +kernel
theorem d_al_firstDayOf_9 : decode b_al_firstDayOf 9 = .ok (.istore_n 2, 1) := by decide +kernel
theorem d_al_firstDayOf_10 : decode b_al_firstDayOf 10 = .ok (.iconst 1, 1) := by decide +kernel
theorem d_al_firstDayOf_11 : decode b_al_firstDayOf 11 = .ok (.istore_n 3, 1) := by decide +kernel
theorem d_al_firstDayOf_12 : decode b_al_firstDayOf 12 = .ok (.iload_n 3, 1) := by decide +kernel
theorem d_al_firstDayOf_13 : decode b_al_firstDayOf 13 = .ok (.iload_n 0, 1) := by decide +kernel
theorem d_al_firstDayOf_14 : decode b_al_firstDayOf 14 = .ok (.invokestatic 16, 3) := by decide +kernel
theorem d_al_firstDayOf_17 : decode b_al_firstDayOf 17 = .ok (.if_icmp .ge 17, 3) := by decide +kernel
theorem d_al_firstDayOf_20 : decode b_al_firstDayOf 20 = .ok (.iload_n 2, 1) := by decide +kernel
theorem d_al_firstDayOf_21 : decode b_al_firstDayOf 21 = .ok (.iload_n 1, 1) := by decide +kernel
theorem d_al_firstDayOf_22 : decode b_al_firstDayOf 22 = .ok (.iload_n 3, 1) := by decide +kernel
theorem d_al_firstDayOf_23 : decode b_al_firstDayOf 23 = .ok (.invokestatic 19, 3) := by decide +kernel
theorem d_al_firstDayOf_26 : decode b_al_firstDayOf 26 = .ok (.iadd, 1) := by decide +kernel
theorem d_al_firstDayOf_27 : decode b_al_firstDayOf 27 = .ok (.istore_n 2, 1) := by decide +kernel
theorem d_al_firstDayOf_28 : decode b_al_firstDayOf 28 = .ok (.iinc 3 1, 3) := by decide +kernel
theorem d_al_firstDayOf_31 : decode b_al_firstDayOf 31 = .ok (.goto (-19), 3) := by decide +kernel
theorem d_al_firstDayOf_34 : decode b_al_firstDayOf 34 = .ok (.iload_n 2, 1) := by decide +kernel
theorem d_al_firstDayOf_35 : decode b_al_firstDayOf 35 = .ok (.ireturn, 1) := by decide +kernel
theorem d_al_periodOf_0 : decode b_al_periodOf 0 = .ok (.sipush 2000, 3) := by decide +kernel
theorem d_al_periodOf_3 : decode b_al_periodOf 3 = .ok (.iload_n 0, 1) := by decide +kernel
theorem d_al_periodOf_4 : decode b_al_periodOf 4 = .ok (.sipush 366, 3) := by decide +kernel
theorem d_al_periodOf_7 : decode b_al_periodOf 7 = .ok (.idiv, 1) := by decide +kernel
theorem d_al_periodOf_8 : decode b_al_periodOf 8 = .ok (.iadd, 1) := by decide +kernel
theorem d_al_periodOf_9 : decode b_al_periodOf 9 = .ok (.istore_n 1, 1) := by decide +kernel
theorem d_al_periodOf_10 : decode b_al_periodOf 10 = .ok (.iload_n 1, 1) := by decide +kernel
theorem d_al_periodOf_11 : decode b_al_periodOf 11 = .ok (.sipush 2400, 3) := by decide +kernel
theorem d_al_periodOf_14 : decode b_al_periodOf 14 = .ok (.if_icmp .ge 19, 3) := by decide +kernel
theorem d_al_periodOf_17 : decode b_al_periodOf 17 = .ok (.iload_n 1, 1) := by decide +kernel
theorem d_al_periodOf_18 : decode b_al_periodOf 18 = .ok (.iconst 1, 1) := by decide +kernel
theorem d_al_periodOf_19 : decode b_al_periodOf 19 = .ok (.iadd, 1) := by decide +kernel
theorem d_al_periodOf_20 : decode b_al_periodOf 20 = .ok (.invokestatic 13, 3) := by decide +kernel
theorem d_al_periodOf_23 : decode b_al_periodOf 23 = .ok (.iload_n 0, 1) := by decide +kernel
theorem d_al_periodOf_24 : decode b_al_periodOf 24 = .ok (.if_icmp .gt 9, 3) := by decide +kernel
theorem d_al_periodOf_27 : decode b_al_periodOf 27 = .ok (.iinc 1 1, 3) := by decide +kernel
theorem d_al_periodOf_30 : decode b_al_periodOf 30 = .ok (.goto (-20), 3) := by decide +kernel
theorem d_al_periodOf_33 : decode b_al_periodOf 33 = .ok (.iconst 1, 1) := by decide +kernel
theorem d_al_periodOf_34 : decode b_al_periodOf 34 = .ok (.istore_n 2, 1) := by decide +kernel
theorem d_al_periodOf_35 : decode b_al_periodOf 35 = .ok (.iload_n 0, 1) := by decide +kernel
theorem d_al_periodOf_36 : decode b_al_periodOf 36 = .ok (.iload_n 1, 1) := by decide +kernel
theorem d_al_periodOf_37 : decode b_al_periodOf 37 = .ok (.invokestatic 13, 3) := by decide +kernel
theorem d_al_periodOf_40 : decode b_al_periodOf 40 = .ok (.isub, 1) := by decide +kernel
theorem d_al_periodOf_41 : decode b_al_periodOf 41 = .ok (.istore_n 3, 1) := by decide +kernel
theorem d_al_periodOf_42 : decode b_al_periodOf 42 = .ok (.iload_n 2, 1) := by decide +kernel
theorem d_al_periodOf_43 : decode b_al_periodOf 43 = .ok (.bipush 12, 2) := by decide +kernel
theorem d_al_periodOf_45 : decode b_al_periodOf 45 = .ok (.if_icmp .ge 26, 3) := by decide +kernel
theorem d_al_periodOf_48 : decode b_al_periodOf 48 = .ok (.iload_n 3, 1) := by decide +kernel
theorem d_al_periodOf_49 : decode b_al_periodOf 49 = .ok (.iload_n 1, 1) := by decide +kernel
theorem d_al_periodOf_50 : decode b_al_periodOf 50 = .ok (.iload_n 2, 1) := by decide +kernel
theorem d_al_periodOf_51 : decode b_al_periodOf 51 = .ok (.invokestatic 19, 3) := by decide +kernel
theorem d_al_periodOf_54 : decode b_al_periodOf 54 = .ok (.if_icmp .lt 17, 3) := by decide +kernel
theorem d_al_periodOf_57 : decode b_al_periodOf 57 = .ok (.iload_n 3, 1) := by decide +kernel
theorem d_al_periodOf_58 : decode b_al_periodOf 58 = .ok (.iload_n 1, 1) := by decide +kernel
theorem d_al_periodOf_59 : decode b_al_periodOf 59 = .ok (.iload_n 2, 1) := by decide +kernel
theorem d_al_periodOf_60 : decode b_al_periodOf 60 = .ok (.invokestatic 19, 3) := by decide +kernel
theorem d_al_periodOf_63 : decode b_al_periodOf 63 = .ok (.isub, 1) := by decide +kernel
theorem d_al_periodOf_64 : decode b_al_periodOf 64 = .ok (.istore_n 3, 1) := by decide +kernel
theorem d_al_periodOf_65 : decode b_al_periodOf 65 = .ok (.iinc 2 1, 3) := by decide +kernel
theorem d_al_periodOf_68 : decode b_al_periodOf 68 = .ok (.goto (-26), 3) := by decide +kernel
theorem d_al_periodOf_71 : decode b_al_periodOf 71 = .ok (.iload_n 1, 1) := by decide +kernel
theorem d_al_periodOf_72 : decode b_al_periodOf 72 = .ok (.sipush 2000, 3) := by decide +kernel
theorem d_al_periodOf_75 : decode b_al_periodOf 75 = .ok (.isub, 1) := by decide +kernel
theorem d_al_periodOf_76 : decode b_al_periodOf 76 = .ok (.bipush 12, 2) := by decide +kernel
theorem d_al_periodOf_78 : decode b_al_periodOf 78 = .ok (.imul, 1) := by decide +kernel
theorem d_al_periodOf_79 : decode b_al_periodOf 79 = .ok (.iload_n 2, 1) := by decide +kernel
theorem d_al_periodOf_80 : decode b_al_periodOf 80 = .ok (.iadd, 1) := by decide +kernel
theorem d_al_periodOf_81 : decode b_al_periodOf 81 = .ok (.iconst 1, 1) := by decide +kernel
theorem d_al_periodOf_82 : decode b_al_periodOf 82 = .ok (.isub, 1) := by decide +kernel
theorem d_al_periodOf_83 : decode b_al_periodOf 83 = .ok (.ireturn, 1) := by decide +kernel
theorem d_al_firstDayOfYear_0 : decode b_al_firstDayOfYear 0 = .ok (.iload_n 0, 1) := by decide +kernel
theorem d_al_firstDayOfYear_1 : decode b_al_firstDayOfYear 1 = .ok (.sipush 2000, 3) := by decide +kernel
theorem d_al_firstDayOfYear_4 : decode b_al_firstDayOfYear 4 = .ok (.isub, 1) := by decide +kernel
theorem d_al_firstDayOfYear_5 : decode b_al_firstDayOfYear 5 = .ok (.istore_n 1, 1) := by decide +kernel
theorem d_al_firstDayOfYear_6 : decode b_al_firstDayOfYear 6 = .ok (.iload_n 1, 1) := by decide +kernel
theorem d_al_firstDayOfYear_7 : decode b_al_firstDayOfYear 7 = .ok (.iconst 3, 1) := by decide +kernel
theorem d_al_firstDayOfYear_8 : decode b_al_firstDayOfYear 8 = .ok (.iadd, 1) := by decide +kernel
theorem d_al_firstDayOfYear_9 : decode b_al_firstDayOfYear 9 = .ok (.iconst 4, 1) := by decide +kernel
theorem d_al_firstDayOfYear_10 : decode b_al_firstDayOfYear 10 = .ok (.idiv, 1) := by decide +kernel
theorem d_al_firstDayOfYear_11 : decode b_al_firstDayOfYear 11 = .ok (.iload_n 1, 1) := by decide +kernel
theorem d_al_firstDayOfYear_12 : decode b_al_firstDayOfYear 12 = .ok (.bipush 99, 2) := by decide +kernel
theorem d_al_firstDayOfYear_14 : decode b_al_firstDayOfYear 14 = .ok (.iadd, 1) := by decide +kernel
theorem d_al_firstDayOfYear_15 : decode b_al_firstDayOfYear 15 = .ok (.bipush 100, 2) := by decide +kernel
theorem d_al_firstDayOfYear_17 : decode b_al_firstDayOfYear 17 = .ok (.idiv, 1) := by decide +kernel
theorem d_al_firstDayOfYear_18 : decode b_al_firstDayOfYear 18 = .ok (.isub, 1) := by decide +kernel
theorem d_al_firstDayOfYear_19 : decode b_al_firstDayOfYear 19 = .ok (.iload_n 1, 1) := by decide +kernel
theorem d_al_firstDayOfYear_20 : decode b_al_firstDayOfYear 20 = .ok (.sipush 399, 3) := by decide +kernel
theorem d_al_firstDayOfYear_23 : decode b_al_firstDayOfYear 23 = .ok (.iadd, 1) := by decide +kernel
theorem d_al_firstDayOfYear_24 : decode b_al_firstDayOfYear 24 = .ok (.sipush 400, 3) := by decide +kernel
theorem d_al_firstDayOfYear_27 : decode b_al_firstDayOfYear 27 = .ok (.idiv, 1) := by decide +kernel
theorem d_al_firstDayOfYear_28 : decode b_al_firstDayOfYear 28 = .ok (.iadd, 1) := by decide +kernel
theorem d_al_firstDayOfYear_29 : decode b_al_firstDayOfYear 29 = .ok (.istore_n 2, 1) := by decide +kernel
theorem d_al_firstDayOfYear_30 : decode b_al_firstDayOfYear 30 = .ok (.sipush 365, 3) := by decide +kernel
theorem d_al_firstDayOfYear_33 : decode b_al_firstDayOfYear 33 = .ok (.iload_n 1, 1) := by decide +kernel
theorem d_al_firstDayOfYear_34 : decode b_al_firstDayOfYear 34 = .ok (.imul, 1) := by decide +kernel
theorem d_al_firstDayOfYear_35 : decode b_al_firstDayOfYear 35 = .ok (.iload_n 2, 1) := by decide +kernel
theorem d_al_firstDayOfYear_36 : decode b_al_firstDayOfYear 36 = .ok (.iadd, 1) := by decide +kernel
theorem d_al_firstDayOfYear_37 : decode b_al_firstDayOfYear 37 = .ok (.ireturn, 1) := by decide +kernel
theorem d_al_daysInMonth_0 : decode b_al_daysInMonth 0 = .ok (.iload_n 1, 1) := by decide +kernel
theorem d_al_daysInMonth_1 : decode b_al_daysInMonth 1 = .ok (.iconst 2, 1) := by decide +kernel
theorem d_al_daysInMonth_2 : decode b_al_daysInMonth 2 = .ok (.if_icmp .ne 18, 3) := by decide +kernel
theorem d_al_daysInMonth_5 : decode b_al_daysInMonth 5 = .ok (.iload_n 0, 1) := by decide +kernel
theorem d_al_daysInMonth_6 : decode b_al_daysInMonth 6 = .ok (.invokestatic 23, 3) := by decide +kernel
theorem d_al_daysInMonth_9 : decode b_al_daysInMonth 9 = .ok (.ifCond .eq 8, 3) := by decide +kernel
theorem d_al_daysInMonth_12 : decode b_al_daysInMonth 12 = .ok (.bipush 29, 2) := by decide +kernel
theorem d_al_daysInMonth_14 : decode b_al_daysInMonth 14 = .ok (.goto 5, 3) := by decide +kernel
theorem d_al_daysInMonth_17 : decode b_al_daysInMonth 17 = .ok (.bipush 28, 2) := by decide +kernel
theorem d_al_daysInMonth_19 : decode b_al_daysInMonth 19 = .ok (.ireturn, 1) := by decide +kernel
theorem d_al_daysInMonth_20 : decode b_al_daysInMonth 20 = .ok (.iload_n 1, 1) := by decide +kernel
theorem d_al_daysInMonth_21 : decode b_al_daysInMonth 21 = .ok (.iconst 4, 1) := by decide +kernel
theorem d_al_daysInMonth_22 : decode b_al_daysInMonth 22 = .ok (.if_icmp .eq 21, 3) := by decide +kernel
theorem d_al_daysInMonth_25 : decode b_al_daysInMonth 25 = .ok (.iload_n 1, 1) := by decide +kernel
theorem d_al_daysInMonth_26 : decode b_al_daysInMonth 26 = .ok (.bipush 6, 2) := by decide +kernel
theorem d_al_daysInMonth_28 : decode b_al_daysInMonth 28 = .ok (.if_icmp .eq 15, 3) := by decide +kernel
theorem d_al_daysInMonth_31 : decode b_al_daysInMonth 31 = .ok (.iload_n 1, 1) := by decide +kernel
theorem d_al_daysInMonth_32 : decode b_al_daysInMonth 32 = .ok (.bipush 9, 2) := by decide +kernel
theorem d_al_daysInMonth_34 : decode b_al_daysInMonth 34 = .ok (.if_icmp .eq 9, 3) := by decide +kernel
theorem d_al_daysInMonth_37 : decode b_al_daysInMonth 37 = .ok (.iload_n 1, 1) := by decide +kernel
theorem d_al_daysInMonth_38 : decode b_al_daysInMonth 38 = .ok (.bipush 11, 2) := by decide +kernel
theorem d_al_daysInMonth_40 : decode b_al_daysInMonth 40 = .ok (.if_icmp .ne 8, 3) := by decide +kernel
theorem d_al_daysInMonth_43 : decode b_al_daysInMonth 43 = .ok (.bipush 30, 2) := by decide +kernel
theorem d_al_daysInMonth_45 : decode b_al_daysInMonth 45 = .ok (.goto 5, 3) := by decide +kernel
theorem d_al_daysInMonth_48 : decode b_al_daysInMonth 48 = .ok (.bipush 31, 2) := by decide +kernel
theorem d_al_daysInMonth_50 : decode b_al_daysInMonth 50 = .ok (.ireturn, 1) := by decide +kernel
theorem d_al_isLeapYear_0 : decode b_al_isLeapYear 0 = .ok (.iload_n 0, 1) := by decide +kernel
theorem d_al_isLeapYear_1 : decode b_al_isLeapYear 1 = .ok (.iconst 4, 1) := by decide +kernel
theorem d_al_isLeapYear_2 : decode b_al_isLeapYear 2 = .ok (.irem, 1) := by decide +kernel
theorem d_al_isLeapYear_3 : decode b_al_isLeapYear 3 = .ok (.ifCond .ne 10, 3) := by decide +kernel
theorem d_al_isLeapYear_6 : decode b_al_isLeapYear 6 = .ok (.iload_n 0, 1) := by decide +kernel
theorem d_al_isLeapYear_7 : decode b_al_isLeapYear 7 = .ok (.bipush 100, 2) := by decide +kernel
theorem d_al_isLeapYear_9 : decode b_al_isLeapYear 9 = .ok (.irem, 1) := by decide +kernel
theorem d_al_isLeapYear_10 : decode b_al_isLeapYear 10 = .ok (.ifCond .ne 11, 3) := by decide +kernel
theorem d_al_isLeapYear_13 : decode b_al_isLeapYear 13 = .ok (.iload_n 0, 1) := by decide +kernel
theorem d_al_isLeapYear_14 : decode b_al_isLeapYear 14 = .ok (.sipush 400, 3) := by decide +kernel
theorem d_al_isLeapYear_17 : decode b_al_isLeapYear 17 = .ok (.irem, 1) := by decide +kernel
theorem d_al_isLeapYear_18 : decode b_al_isLeapYear 18 = .ok (.ifCond .ne 7, 3) := by decide +kernel
theorem d_al_isLeapYear_21 : decode b_al_isLeapYear 21 = .ok (.iconst 1, 1) := by decide +kernel
theorem d_al_isLeapYear_22 : decode b_al_isLeapYear 22 = .ok (.goto 4, 3) := by decide +kernel
theorem d_al_isLeapYear_25 : decode b_al_isLeapYear 25 = .ok (.iconst 0, 1) := by decide +kernel
theorem d_al_isLeapYear_26 : decode b_al_isLeapYear 26 = .ok (.ireturn, 1) := by decide +kernel
theorem d_cu_init_0 : decode b_cu_init 0 = .ok (.aload_n 0, 1) := by decide +kernel
theorem d_cu_init_1 : decode b_cu_init 1 = .ok (.invokespecial 3, 3) := by decide +kernel
theorem d_cu_init_4 : decode b_cu_init 4 = .ok (.aload_n 0, 1) := by decide +kernel
theorem d_cu_init_5 : decode b_cu_init 5 = .ok (.sipush 401, 3) := by decide +kernel
theorem d_cu_init_8 : decode b_cu_init 8 = .ok (.newarray .byte, 2) := by decide +kernel
theorem d_cu_init_10 : decode b_cu_init 10 = .ok (.putfield 9, 3) := by decide +kernel
theorem d_cu_init_13 : decode b_cu_init 13 = .ok (.aload_n 0, 1) := by decide +kernel
theorem d_cu_init_14 : decode b_cu_init 14 = .ok (.iconst (-1), 1) := by decide +kernel
theorem d_cu_init_15 : decode b_cu_init 15 = .ok (.putfield 15, 3) := by decide +kernel
theorem d_cu_init_18 : decode b_cu_init 18 = .ok (.aload_n 0, 1) := by decide +kernel
theorem d_cu_init_19 : decode b_cu_init 19 = .ok (.iconst 0, 1) := by decide +kernel
theorem d_cu_init_20 : decode b_cu_init 20 = .ok (.putfield 19, 3) := by decide +kernel
theorem d_cu_init_23 : decode b_cu_init 23 = .ok (.aload_n 0, 1) := by decide +kernel
theorem d_cu_init_24 : decode b_cu_init 24 = .ok (.iconst 0, 1) := by decide +kernel
theorem d_cu_init_25 : decode b_cu_init 25 = .ok (.putfield 23, 3) := by decide +kernel
theorem d_cu_init_28 : decode b_cu_init 28 = .ok (.aload_n 0, 1) := by decide +kernel
theorem d_cu_init_29 : decode b_cu_init 29 = .ok (.lconst 0, 1) := by decide +kernel
theorem d_cu_init_30 : decode b_cu_init 30 = .ok (.putfield 26, 3) := by decide +kernel
theorem d_cu_init_33 : decode b_cu_init 33 = .ok (.return_, 1) := by decide +kernel
theorem d_cu_tariffNow_0 : decode b_cu_tariffNow 0 = .ok (.aload_n 0, 1) := by decide +kernel
theorem d_cu_tariffNow_1 : decode b_cu_tariffNow 1 = .ok (.getfield 15, 3) := by decide +kernel
theorem d_cu_tariffNow_4 : decode b_cu_tariffNow 4 = .ok (.ireturn, 1) := by decide +kernel
theorem d_cu_isPaused_0 : decode b_cu_isPaused 0 = .ok (.aload_n 0, 1) := by decide +kernel
theorem d_cu_isPaused_1 : decode b_cu_isPaused 1 = .ok (.getfield 19, 3) := by decide +kernel
theorem d_cu_isPaused_4 : decode b_cu_isPaused 4 = .ok (.ireturn, 1) := by decide +kernel
theorem d_cu_stage_0 : decode b_cu_stage 0 = .ok (.aload_n 0, 1) := by decide +kernel
theorem d_cu_stage_1 : decode b_cu_stage 1 = .ok (.getfield 23, 3) := by decide +kernel
theorem d_cu_stage_4 : decode b_cu_stage 4 = .ok (.ireturn, 1) := by decide +kernel
theorem d_cu_credit_0 : decode b_cu_credit 0 = .ok (.aload_n 0, 1) := by decide +kernel
theorem d_cu_credit_1 : decode b_cu_credit 1 = .ok (.getfield 26, 3) := by decide +kernel
theorem d_cu_credit_4 : decode b_cu_credit 4 = .ok (.lreturn, 1) := by decide +kernel
theorem d_cu_isStopped_0 : decode b_cu_isStopped 0 = .ok (.aload_n 0, 1) := by decide +kernel
theorem d_cu_isStopped_1 : decode b_cu_isStopped 1 = .ok (.getfield 23, 3) := by decide +kernel
theorem d_cu_isStopped_4 : decode b_cu_isStopped 4 = .ok (.iconst 3, 1) := by decide +kernel
theorem d_cu_isStopped_5 : decode b_cu_isStopped 5 = .ok (.if_icmp .ne 7, 3) := by decide +kernel
theorem d_cu_isStopped_8 : decode b_cu_isStopped 8 = .ok (.iconst 1, 1) := by decide +kernel
theorem d_cu_isStopped_9 : decode b_cu_isStopped 9 = .ok (.goto 4, 3) := by decide +kernel
theorem d_cu_isStopped_12 : decode b_cu_isStopped 12 = .ok (.iconst 0, 1) := by decide +kernel
theorem d_cu_isStopped_13 : decode b_cu_isStopped 13 = .ok (.ireturn, 1) := by decide +kernel
theorem d_cu_changeTariff_0 : decode b_cu_changeTariff 0 = .ok (.aload_n 0, 1) := by decide +kernel
theorem d_cu_changeTariff_1 : decode b_cu_changeTariff 1 = .ok (.iload_n 1, 1) := by decide +kernel
theorem d_cu_changeTariff_2 : decode b_cu_changeTariff 2 = .ok (.putfield 15, 3) := by decide +kernel
theorem d_cu_changeTariff_5 : decode b_cu_changeTariff 5 = .ok (.aload_n 0, 1) := by decide +kernel
theorem d_cu_changeTariff_6 : decode b_cu_changeTariff 6 = .ok (.aload_n 0, 1) := by decide +kernel
theorem d_cu_changeTariff_7 : decode b_cu_changeTariff 7 = .ok (.invokevirtual 30, 3) := by decide +kernel
theorem d_cu_changeTariff_10 : decode b_cu_changeTariff 10 = .ok (.putfield 19, 3) := by decide +kernel
theorem d_cu_changeTariff_13 : decode b_cu_changeTariff 13 = .ok (.return_, 1) := by decide +kernel
theorem d_cu_setPaused_0 : decode b_cu_setPaused 0 = .ok (.aload_n 0, 1) := by decide +kernel
theorem d_cu_setPaused_1 : decode b_cu_setPaused 1 = .ok (.iload_n 1, 1) := by decide +kernel
theorem d_cu_setPaused_2 : decode b_cu_setPaused 2 = .ok (.putfield 19, 3) := by decide +kernel
theorem d_cu_setPaused_5 : decode b_cu_setPaused 5 = .ok (.return_, 1) := by decide +kernel
theorem d_cu_addCredit_0 : decode b_cu_addCredit 0 = .ok (.aload_n 0, 1) := by decide +kernel
theorem d_cu_addCredit_1 : decode b_cu_addCredit 1 = .ok (.dup, 1) := by decide +kernel
theorem d_cu_addCredit_2 : decode b_cu_addCredit 2 = .ok (.getfield 26, 3) := by decide +kernel
theorem d_cu_addCredit_5 : decode b_cu_addCredit 5 = .ok (.lload_n 1, 1) := by decide +kernel
theorem d_cu_addCredit_6 : decode b_cu_addCredit 6 = .ok (.ladd, 1) := by decide +kernel
theorem d_cu_addCredit_7 : decode b_cu_addCredit 7 = .ok (.putfield 26, 3) := by decide +kernel
theorem d_cu_addCredit_10 : decode b_cu_addCredit 10 = .ok (.return_, 1) := by decide +kernel
theorem d_cu_keepDay_0 : decode b_cu_keepDay 0 = .ok (.iload_n 1, 1) := by decide +kernel
theorem d_cu_keepDay_1 : decode b_cu_keepDay 1 = .ok (.ifCond .lt 23, 3) := by decide +kernel
theorem d_cu_keepDay_4 : decode b_cu_keepDay 4 = .ok (.iload_n 1, 1) := by decide +kernel
theorem d_cu_keepDay_5 : decode b_cu_keepDay 5 = .ok (.aload_n 0, 1) := by decide +kernel
theorem d_cu_keepDay_6 : decode b_cu_keepDay 6 = .ok (.getfield 9, 3) := by decide +kernel
theorem d_cu_keepDay_9 : decode b_cu_keepDay 9 = .ok (.arraylength, 1) := by decide +kernel
theorem d_cu_keepDay_10 : decode b_cu_keepDay 10 = .ok (.if_icmp .ge 14, 3) := by decide +kernel
theorem d_cu_keepDay_13 : decode b_cu_keepDay 13 = .ok (.aload_n 0, 1) := by decide +kernel
theorem d_cu_keepDay_14 : decode b_cu_keepDay 14 = .ok (.getfield 9, 3) := by decide +kernel
theorem d_cu_keepDay_17 : decode b_cu_keepDay 17 = .ok (.iload_n 1, 1) := by decide +kernel
theorem d_cu_keepDay_18 : decode b_cu_keepDay 18 = .ok (.aload_n 0, 1) := by decide +kernel
theorem d_cu_keepDay_19 : decode b_cu_keepDay 19 = .ok (.invokevirtual 34, 3) := by decide +kernel
theorem d_cu_keepDay_22 : decode b_cu_keepDay 22 = .ok (.i2b, 1) := by decide +kernel
theorem d_cu_keepDay_23 : decode b_cu_keepDay 23 = .ok (.bastore, 1) := by decide +kernel
theorem d_cu_keepDay_24 : decode b_cu_keepDay 24 = .ok (.return_, 1) := by decide +kernel
theorem d_cu_liveTariff_0 : decode b_cu_liveTariff 0 = .ok (.iload_n 1, 1) := by decide +kernel
theorem d_cu_liveTariff_1 : decode b_cu_liveTariff 1 = .ok (.iload_n 2, 1) := by decide +kernel
theorem d_cu_liveTariff_2 : decode b_cu_liveTariff 2 = .ok (.if_icmp .ne 8, 3) := by decide +kernel
theorem d_cu_liveTariff_5 : decode b_cu_liveTariff 5 = .ok (.aload_n 0, 1) := by decide +kernel
theorem d_cu_liveTariff_6 : decode b_cu_liveTariff 6 = .ok (.invokevirtual 34, 3) := by decide +kernel
theorem d_cu_liveTariff_9 : decode b_cu_liveTariff 9 = .ok (.ireturn, 1) := by decide +kernel
theorem d_cu_liveTariff_10 : decode b_cu_liveTariff 10 = .ok (.iload_n 1, 1) := by decide +kernel
theorem d_cu_liveTariff_11 : decode b_cu_liveTariff 11 = .ok (.ifCond .lt 26, 3) := by decide +kernel
theorem d_cu_liveTariff_14 : decode b_cu_liveTariff 14 = .ok (.iload_n 1, 1) := by decide +kernel
theorem d_cu_liveTariff_15 : decode b_cu_liveTariff 15 = .ok (.iload_n 2, 1) := by decide +kernel
theorem d_cu_liveTariff_16 : decode b_cu_liveTariff 16 = .ok (.if_icmp .ge 21, 3) := by decide +kernel
theorem d_cu_liveTariff_19 : decode b_cu_liveTariff 19 = .ok (.iload_n 1, 1) := by decide +kernel
theorem d_cu_liveTariff_20 : decode b_cu_liveTariff 20 = .ok (.aload_n 0, 1) := by decide +kernel
theorem d_cu_liveTariff_21 : decode b_cu_liveTariff 21 = .ok (.getfield 9, 3) := by decide +kernel
theorem d_cu_liveTariff_24 : decode b_cu_liveTariff 24 = .ok (.arraylength, 1) := by decide +kernel
theorem d_cu_liveTariff_25 : decode b_cu_liveTariff 25 = .ok (.if_icmp .ge 12, 3) := by decide +kernel
theorem d_cu_liveTariff_28 : decode b_cu_liveTariff 28 = .ok (.aload_n 0, 1) := by decide +kernel
theorem d_cu_liveTariff_29 : decode b_cu_liveTariff 29 = .ok (.getfield 9, 3) := by decide +kernel
theorem d_cu_liveTariff_32 : decode b_cu_liveTariff 32 = .ok (.iload_n 1, 1) := by decide +kernel
theorem d_cu_liveTariff_33 : decode b_cu_liveTariff 33 = .ok (.baload, 1) := by decide +kernel
theorem d_cu_liveTariff_34 : decode b_cu_liveTariff 34 = .ok (.goto 4, 3) := by decide +kernel
theorem d_cu_liveTariff_37 : decode b_cu_liveTariff 37 = .ok (.iconst (-1), 1) := by decide +kernel
theorem d_cu_liveTariff_38 : decode b_cu_liveTariff 38 = .ok (.ireturn, 1) := by decide +kernel
theorem d_cu_lookAtStage_0 : decode b_cu_lookAtStage 0 = .ok (.iload_n 1, 1) := by decide +kernel
theorem d_cu_lookAtStage_1 : decode b_cu_lookAtStage 1 = .ok (.ifCond .ne 7, 3) := by decide +kernel
theorem d_cu_lookAtStage_4 : decode b_cu_lookAtStage 4 = .ok (.iconst 0, 1) := by decide +kernel
theorem d_cu_lookAtStage_5 : decode b_cu_lookAtStage 5 = .ok (.goto 14, 3) := by decide +kernel
theorem d_cu_lookAtStage_8 : decode b_cu_lookAtStage 8 = .ok (.aload_n 0, 1) := by decide +kernel
theorem d_cu_lookAtStage_9 : decode b_cu_lookAtStage 9 = .ok (.getfield 23, 3) := by decide +kernel
theorem d_cu_lookAtStage_12 : decode b_cu_lookAtStage 12 = .ok (.iload_n 1, 1) := by decide +kernel
theorem d_cu_lookAtStage_13 : decode b_cu_lookAtStage 13 = .ok (.invokestatic 38, 3) := by decide +kernel
theorem d_cu_lookAtStage_16 : decode b_cu_lookAtStage 16 = .ok (.invokestatic 42, 3) := by decide +kernel
theorem d_cu_lookAtStage_19 : decode b_cu_lookAtStage 19 = .ok (.istore_n 2, 1) := by decide +kernel
theorem d_cu_lookAtStage_20 : decode b_cu_lookAtStage 20 = .ok (.iload_n 2, 1) := by decide +kernel
theorem d_cu_lookAtStage_21 : decode b_cu_lookAtStage 21 = .ok (.iconst 3, 1) := by decide +kernel
theorem d_cu_lookAtStage_22 : decode b_cu_lookAtStage 22 = .ok (.if_icmp .ne 16, 3) := by decide +kernel
theorem d_cu_lookAtStage_25 : decode b_cu_lookAtStage 25 = .ok (.aload_n 0, 1) := by decide +kernel
theorem d_cu_lookAtStage_26 : decode b_cu_lookAtStage 26 = .ok (.getfield 23, 3) := by decide +kernel
theorem d_cu_lookAtStage_29 : decode b_cu_lookAtStage 29 = .ok (.iconst 3, 1) := by decide +kernel
theorem d_cu_lookAtStage_30 : decode b_cu_lookAtStage 30 = .ok (.if_icmp .eq 8, 3) := by decide +kernel
theorem d_cu_lookAtStage_33 : decode b_cu_lookAtStage 33 = .ok (.aload_n 0, 1) := by decide +kernel
theorem d_cu_lookAtStage_34 : decode b_cu_lookAtStage 34 = .ok (.iconst 1, 1) := by decide +kernel
theorem d_cu_lookAtStage_35 : decode b_cu_lookAtStage 35 = .ok (.putfield 19, 3) := by decide +kernel
theorem d_cu_lookAtStage_38 : decode b_cu_lookAtStage 38 = .ok (.iload_n 2, 1) := by decide +kernel
theorem d_cu_lookAtStage_39 : decode b_cu_lookAtStage 39 = .ok (.ifCond .ne 16, 3) := by decide +kernel
theorem d_cu_lookAtStage_42 : decode b_cu_lookAtStage 42 = .ok (.aload_n 0, 1) := by decide +kernel
theorem d_cu_lookAtStage_43 : decode b_cu_lookAtStage 43 = .ok (.getfield 23, 3) := by decide +kernel
theorem d_cu_lookAtStage_46 : decode b_cu_lookAtStage 46 = .ok (.iconst 3, 1) := by decide +kernel
theorem d_cu_lookAtStage_47 : decode b_cu_lookAtStage 47 = .ok (.if_icmp .ne 8, 3) := by decide +kernel
theorem d_cu_lookAtStage_50 : decode b_cu_lookAtStage 50 = .ok (.aload_n 0, 1) := by decide +kernel
theorem d_cu_lookAtStage_51 : decode b_cu_lookAtStage 51 = .ok (.iconst 0, 1) := by decide +kernel
theorem d_cu_lookAtStage_52 : decode b_cu_lookAtStage 52 = .ok (.putfield 19, 3) := by decide +kernel
theorem d_cu_lookAtStage_55 : decode b_cu_lookAtStage 55 = .ok (.aload_n 0, 1) := by decide +kernel
theorem d_cu_lookAtStage_56 : decode b_cu_lookAtStage 56 = .ok (.iload_n 2, 1) := by decide +kernel
theorem d_cu_lookAtStage_57 : decode b_cu_lookAtStage 57 = .ok (.putfield 23, 3) := by decide +kernel
theorem d_cu_lookAtStage_60 : decode b_cu_lookAtStage 60 = .ok (.return_, 1) := by decide +kernel
theorem d_cu_liveTariffNow_0 : decode b_cu_liveTariffNow 0 = .ok (.aload_n 0, 1) := by decide +kernel
theorem d_cu_liveTariffNow_1 : decode b_cu_liveTariffNow 1 = .ok (.getfield 19, 3) := by decide +kernel
theorem d_cu_liveTariffNow_4 : decode b_cu_liveTariffNow 4 = .ok (.ifCond .eq 7, 3) := by decide +kernel
theorem d_cu_liveTariffNow_7 : decode b_cu_liveTariffNow 7 = .ok (.iconst (-1), 1) := by decide +kernel
theorem d_cu_liveTariffNow_8 : decode b_cu_liveTariffNow 8 = .ok (.goto 7, 3) := by decide +kernel
theorem d_cu_liveTariffNow_11 : decode b_cu_liveTariffNow 11 = .ok (.aload_n 0, 1) := by decide +kernel
theorem d_cu_liveTariffNow_12 : decode b_cu_liveTariffNow 12 = .ok (.getfield 15, 3) := by decide +kernel
theorem d_cu_liveTariffNow_15 : decode b_cu_liveTariffNow 15 = .ok (.ireturn, 1) := by decide +kernel
theorem d_cu_stageFor_0 : decode b_cu_stageFor 0 = .ok (.iload_n 0, 1) := by decide +kernel
theorem d_cu_stageFor_1 : decode b_cu_stageFor 1 = .ok (.bipush 10, 2) := by decide +kernel
theorem d_cu_stageFor_3 : decode b_cu_stageFor 3 = .ok (.if_icmp .gt 5, 3) := by decide +kernel
theorem d_cu_stageFor_6 : decode b_cu_stageFor 6 = .ok (.iconst 1, 1) := by decide +kernel
theorem d_cu_stageFor_7 : decode b_cu_stageFor 7 = .ok (.ireturn, 1) := by decide +kernel
theorem d_cu_stageFor_8 : decode b_cu_stageFor 8 = .ok (.iload_n 0, 1) := by decide +kernel
theorem d_cu_stageFor_9 : decode b_cu_stageFor 9 = .ok (.bipush 20, 2) := by decide +kernel
theorem d_cu_stageFor_11 : decode b_cu_stageFor 11 = .ok (.if_icmp .gt 7, 3) := by decide +kernel
theorem d_cu_stageFor_14 : decode b_cu_stageFor 14 = .ok (.iconst 2, 1) := by decide +kernel
theorem d_cu_stageFor_15 : decode b_cu_stageFor 15 = .ok (.goto 4, 3) := by decide +kernel
theorem d_cu_stageFor_18 : decode b_cu_stageFor 18 = .ok (.iconst 3, 1) := by decide +kernel
theorem d_cu_stageFor_19 : decode b_cu_stageFor 19 = .ok (.ireturn, 1) := by decide +kernel
theorem d_ev_init_0 : decode b_ev_init 0 = .ok (.aload_n 0, 1) := by decide +kernel
theorem d_ev_init_1 : decode b_ev_init 1 = .ok (.invokespecial 1, 3) := by decide +kernel
theorem d_ev_init_4 : decode b_ev_init 4 = .ok (.aload_n 0, 1) := by decide +kernel
theorem d_ev_init_5 : decode b_ev_init 5 = .ok (.bipush 80, 2) := by decide +kernel
theorem d_ev_init_7 : decode b_ev_init 7 = .ok (.newarray .int, 2) := by decide +kernel
theorem d_ev_init_9 : decode b_ev_init 9 = .ok (.putfield 9, 3) := by decide +kernel
theorem d_ev_init_12 : decode b_ev_init 12 = .ok (.aload_n 0, 1) := by decide +kernel
theorem d_ev_init_13 : decode b_ev_init 13 = .ok (.bipush 80, 2) := by decide +kernel
theorem d_ev_init_15 : decode b_ev_init 15 = .ok (.newarray .int, 2) := by decide +kernel
theorem d_ev_init_17 : decode b_ev_init 17 = .ok (.putfield 13, 3) := by decide +kernel
theorem d_ev_init_20 : decode b_ev_init 20 = .ok (.aload_n 0, 1) := by decide +kernel
theorem d_ev_init_21 : decode b_ev_init 21 = .ok (.bipush 80, 2) := by decide +kernel
theorem d_ev_init_23 : decode b_ev_init 23 = .ok (.newarray .int, 2) := by decide +kernel
theorem d_ev_init_25 : decode b_ev_init 25 = .ok (.putfield 16, 3) := by decide +kernel
theorem d_ev_init_28 : decode b_ev_init 28 = .ok (.aload_n 0, 1) := by decide +kernel
theorem d_ev_init_29 : decode b_ev_init 29 = .ok (.bipush 80, 2) := by decide +kernel
theorem d_ev_init_31 : decode b_ev_init 31 = .ok (.newarray .int, 2) := by decide +kernel
theorem d_ev_init_33 : decode b_ev_init 33 = .ok (.putfield 19, 3) := by decide +kernel
theorem d_ev_init_36 : decode b_ev_init 36 = .ok (.aload_n 0, 1) := by decide +kernel
theorem d_ev_init_37 : decode b_ev_init 37 = .ok (.iconst 0, 1) := by decide +kernel
theorem d_ev_init_38 : decode b_ev_init 38 = .ok (.putfield 22, 3) := by decide +kernel
theorem d_ev_init_41 : decode b_ev_init 41 = .ok (.return_, 1) := by decide +kernel
theorem d_ev_size_0 : decode b_ev_size 0 = .ok (.aload_n 0, 1) := by decide +kernel
theorem d_ev_size_1 : decode b_ev_size 1 = .ok (.getfield 22, 3) := by decide +kernel
theorem d_ev_size_4 : decode b_ev_size 4 = .ok (.ireturn, 1) := by decide +kernel
theorem d_ev_isFull_0 : decode b_ev_isFull 0 = .ok (.aload_n 0, 1) := by decide +kernel
theorem d_ev_isFull_1 : decode b_ev_isFull 1 = .ok (.getfield 22, 3) := by decide +kernel
theorem d_ev_isFull_4 : decode b_ev_isFull 4 = .ok (.bipush 80, 2) := by decide +kernel
theorem d_ev_isFull_6 : decode b_ev_isFull 6 = .ok (.if_icmp .lt 7, 3) := by decide +kernel
theorem d_ev_isFull_9 : decode b_ev_isFull 9 = .ok (.iconst 1, 1) := by decide +kernel
theorem d_ev_isFull_10 : decode b_ev_isFull 10 = .ok (.goto 4, 3) := by decide +kernel
theorem d_ev_isFull_13 : decode b_ev_isFull 13 = .ok (.iconst 0, 1) := by decide +kernel
theorem d_ev_isFull_14 : decode b_ev_isFull 14 = .ok (.ireturn, 1) := by decide +kernel
theorem d_ev_has_0 : decode b_ev_has 0 = .ok (.iconst 0, 1) := by decide +kernel
theorem d_ev_has_1 : decode b_ev_has 1 = .ok (.istore_n 2, 1) := by decide +kernel
theorem d_ev_has_2 : decode b_ev_has 2 = .ok (.iload_n 2, 1) := by decide +kernel
theorem d_ev_has_3 : decode b_ev_has 3 = .ok (.aload_n 0, 1) := by decide +kernel
theorem d_ev_has_4 : decode b_ev_has 4 = .ok (.getfield 22, 3) := by decide +kernel
theorem d_ev_has_7 : decode b_ev_has 7 = .ok (.if_icmp .ge 21, 3) := by decide +kernel
theorem d_ev_has_10 : decode b_ev_has 10 = .ok (.aload_n 0, 1) := by decide +kernel
theorem d_ev_has_11 : decode b_ev_has 11 = .ok (.getfield 9, 3) := by decide +kernel
theorem d_ev_has_14 : decode b_ev_has 14 = .ok (.iload_n 2, 1) := by decide +kernel
theorem d_ev_has_15 : decode b_ev_has 15 = .ok (.iaload, 1) := by decide +kernel
theorem d_ev_has_16 : decode b_ev_has 16 = .ok (.iload_n 1, 1) := by decide +kernel
theorem d_ev_has_17 : decode b_ev_has 17 = .ok (.if_icmp .ne 5, 3) := by decide +kernel
theorem d_ev_has_20 : decode b_ev_has 20 = .ok (.iconst 1, 1) := by decide +kernel
theorem d_ev_has_21 : decode b_ev_has 21 = .ok (.ireturn, 1) := by decide +kernel
theorem d_ev_has_22 : decode b_ev_has 22 = .ok (.iinc 2 1, 3) := by decide +kernel
theorem d_ev_has_25 : decode b_ev_has 25 = .ok (.goto (-23), 3) := by decide +kernel
theorem d_ev_has_28 : decode b_ev_has 28 = .ok (.iconst 0, 1) := by decide +kernel
theorem d_ev_has_29 : decode b_ev_has 29 = .ok (.ireturn, 1) := by decide +kernel
theorem d_ev_add_0 : decode b_ev_add 0 = .ok (.aload_n 0, 1) := by decide +kernel
theorem d_ev_add_1 : decode b_ev_add 1 = .ok (.invokevirtual 26, 3) := by decide +kernel
theorem d_ev_add_4 : decode b_ev_add 4 = .ok (.ifCond .ne 54, 3) := by decide +kernel
theorem d_ev_add_7 : decode b_ev_add 7 = .ok (.aload_n 0, 1) := by decide +kernel
theorem d_ev_add_8 : decode b_ev_add 8 = .ok (.getfield 9, 3) := by decide +kernel
theorem d_ev_add_11 : decode b_ev_add 11 = .ok (.aload_n 0, 1) := by decide +kernel
theorem d_ev_add_12 : decode b_ev_add 12 = .ok (.getfield 22, 3) := by decide +kernel
theorem d_ev_add_15 : decode b_ev_add 15 = .ok (.iload_n 1, 1) := by decide +kernel
theorem d_ev_add_16 : decode b_ev_add 16 = .ok (.iastore, 1) := by decide +kernel
theorem d_ev_add_17 : decode b_ev_add 17 = .ok (.aload_n 0, 1) := by decide +kernel
theorem d_ev_add_18 : decode b_ev_add 18 = .ok (.getfield 13, 3) := by decide +kernel
theorem d_ev_add_21 : decode b_ev_add 21 = .ok (.aload_n 0, 1) := by decide +kernel
theorem d_ev_add_22 : decode b_ev_add 22 = .ok (.getfield 22, 3) := by decide +kernel
theorem d_ev_add_25 : decode b_ev_add 25 = .ok (.iload_n 2, 1) := by decide +kernel
theorem d_ev_add_26 : decode b_ev_add 26 = .ok (.iastore, 1) := by decide +kernel
theorem d_ev_add_27 : decode b_ev_add 27 = .ok (.aload_n 0, 1) := by decide +kernel
theorem d_ev_add_28 : decode b_ev_add 28 = .ok (.getfield 16, 3) := by decide +kernel
theorem d_ev_add_31 : decode b_ev_add 31 = .ok (.aload_n 0, 1) := by decide +kernel
theorem d_ev_add_32 : decode b_ev_add 32 = .ok (.getfield 22, 3) := by decide +kernel
theorem d_ev_add_35 : decode b_ev_add 35 = .ok (.iload_n 3, 1) := by decide +kernel
theorem d_ev_add_36 : decode b_ev_add 36 = .ok (.iastore, 1) := by decide +kernel
theorem d_ev_add_37 : decode b_ev_add 37 = .ok (.aload_n 0, 1) := by decide +kernel
theorem d_ev_add_38 : decode b_ev_add 38 = .ok (.getfield 19, 3) := by decide +kernel
theorem d_ev_add_41 : decode b_ev_add 41 = .ok (.aload_n 0, 1) := by decide +kernel
theorem d_ev_add_42 : decode b_ev_add 42 = .ok (.getfield 22, 3) := by decide +kernel
theorem d_ev_add_45 : decode b_ev_add 45 = .ok (.iload 4, 2) := by decide +kernel
theorem d_ev_add_47 : decode b_ev_add 47 = .ok (.iastore, 1) := by decide +kernel
theorem d_ev_add_48 : decode b_ev_add 48 = .ok (.aload_n 0, 1) := by decide +kernel
theorem d_ev_add_49 : decode b_ev_add 49 = .ok (.dup, 1) := by decide +kernel
theorem d_ev_add_50 : decode b_ev_add 50 = .ok (.getfield 22, 3) := by decide +kernel
theorem d_ev_add_53 : decode b_ev_add 53 = .ok (.iconst 1, 1) := by decide +kernel
theorem d_ev_add_54 : decode b_ev_add 54 = .ok (.iadd, 1) := by decide +kernel
theorem d_ev_add_55 : decode b_ev_add 55 = .ok (.putfield 22, 3) := by decide +kernel
theorem d_ev_add_58 : decode b_ev_add 58 = .ok (.return_, 1) := by decide +kernel
theorem d_ev_customerOf_0 : decode b_ev_customerOf 0 = .ok (.aload_n 0, 1) := by decide +kernel
theorem d_ev_customerOf_1 : decode b_ev_customerOf 1 = .ok (.getfield 13, 3) := by decide +kernel
theorem d_ev_customerOf_4 : decode b_ev_customerOf 4 = .ok (.iload_n 1, 1) := by decide +kernel
theorem d_ev_customerOf_5 : decode b_ev_customerOf 5 = .ok (.iaload, 1) := by decide +kernel
theorem d_ev_customerOf_6 : decode b_ev_customerOf 6 = .ok (.ireturn, 1) := by decide +kernel
theorem d_ev_dayOf_0 : decode b_ev_dayOf 0 = .ok (.aload_n 0, 1) := by decide +kernel
theorem d_ev_dayOf_1 : decode b_ev_dayOf 1 = .ok (.getfield 16, 3) := by decide +kernel
theorem d_ev_dayOf_4 : decode b_ev_dayOf 4 = .ok (.iload_n 1, 1) := by decide +kernel
theorem d_ev_dayOf_5 : decode b_ev_dayOf 5 = .ok (.iaload, 1) := by decide +kernel
theorem d_ev_dayOf_6 : decode b_ev_dayOf 6 = .ok (.ireturn, 1) := by decide +kernel
theorem d_ev_unitsOf_0 : decode b_ev_unitsOf 0 = .ok (.aload_n 0, 1) := by decide +kernel
theorem d_ev_unitsOf_1 : decode b_ev_unitsOf 1 = .ok (.getfield 19, 3) := by decide +kernel
theorem d_ev_unitsOf_4 : decode b_ev_unitsOf 4 = .ok (.iload_n 1, 1) := by decide +kernel
theorem d_ev_unitsOf_5 : decode b_ev_unitsOf 5 = .ok (.iaload, 1) := by decide +kernel
theorem d_ev_unitsOf_6 : decode b_ev_unitsOf 6 = .ok (.ireturn, 1) := by decide +kernel
theorem d_ib_init_0 : decode b_ib_init 0 = .ok (.aload_n 0, 1) := by decide +kernel
theorem d_ib_init_1 : decode b_ib_init 1 = .ok (.invokespecial 1, 3) := by decide +kernel
theorem d_ib_init_4 : decode b_ib_init 4 = .ok (.aload_n 0, 1) := by decide +kernel
theorem d_ib_init_5 : decode b_ib_init 5 = .ok (.bipush 50, 2) := by decide +kernel
theorem d_ib_init_7 : decode b_ib_init 7 = .ok (.newarray .int, 2) := by decide +kernel
theorem d_ib_init_9 : decode b_ib_init 9 = .ok (.putfield 9, 3) := by decide +kernel
theorem d_ib_init_12 : decode b_ib_init 12 = .ok (.aload_n 0, 1) := by decide +kernel
theorem d_ib_init_13 : decode b_ib_init 13 = .ok (.bipush 50, 2) := by decide +kernel
theorem d_ib_init_15 : decode b_ib_init 15 = .ok (.newarray .int, 2) := by decide +kernel
theorem d_ib_init_17 : decode b_ib_init 17 = .ok (.putfield 13, 3) := by decide +kernel
theorem d_ib_init_20 : decode b_ib_init 20 = .ok (.aload_n 0, 1) := by decide +kernel
theorem d_ib_init_21 : decode b_ib_init 21 = .ok (.bipush 50, 2) := by decide +kernel
theorem d_ib_init_23 : decode b_ib_init 23 = .ok (.newarray .long, 2) := by decide +kernel
theorem d_ib_init_25 : decode b_ib_init 25 = .ok (.putfield 16, 3) := by decide +kernel
theorem d_ib_init_28 : decode b_ib_init 28 = .ok (.aload_n 0, 1) := by decide +kernel
theorem d_ib_init_29 : decode b_ib_init 29 = .ok (.bipush 50, 2) := by decide +kernel
theorem d_ib_init_31 : decode b_ib_init 31 = .ok (.newarray .int, 2) := by decide +kernel
theorem d_ib_init_33 : decode b_ib_init 33 = .ok (.putfield 20, 3) := by decide +kernel
theorem d_ib_init_36 : decode b_ib_init 36 = .ok (.aload_n 0, 1) := by decide +kernel
theorem d_ib_init_37 : decode b_ib_init 37 = .ok (.bipush 50, 2) := by decide +kernel
theorem d_ib_init_39 : decode b_ib_init 39 = .ok (.newarray .long, 2) := by decide +kernel
theorem d_ib_init_41 : decode b_ib_init 41 = .ok (.putfield 23, 3) := by decide +kernel
theorem d_ib_init_44 : decode b_ib_init 44 = .ok (.aload_n 0, 1) := by decide +kernel
theorem d_ib_init_45 : decode b_ib_init 45 = .ok (.iconst 0, 1) := by decide +kernel
theorem d_ib_init_46 : decode b_ib_init 46 = .ok (.putfield 26, 3) := by decide +kernel
theorem d_ib_init_49 : decode b_ib_init 49 = .ok (.return_, 1) := by decide +kernel
theorem d_ib_size_0 : decode b_ib_size 0 = .ok (.aload_n 0, 1) := by decide +kernel
theorem d_ib_size_1 : decode b_ib_size 1 = .ok (.getfield 26, 3) := by decide +kernel
theorem d_ib_size_4 : decode b_ib_size 4 = .ok (.ireturn, 1) := by decide +kernel
theorem d_ib_isFull_0 : decode b_ib_isFull 0 = .ok (.aload_n 0, 1) := by decide +kernel
theorem d_ib_isFull_1 : decode b_ib_isFull 1 = .ok (.getfield 26, 3) := by decide +kernel
theorem d_ib_isFull_4 : decode b_ib_isFull 4 = .ok (.bipush 50, 2) := by decide +kernel
theorem d_ib_isFull_6 : decode b_ib_isFull 6 = .ok (.if_icmp .lt 7, 3) := by decide +kernel
theorem d_ib_isFull_9 : decode b_ib_isFull 9 = .ok (.iconst 1, 1) := by decide +kernel
theorem d_ib_isFull_10 : decode b_ib_isFull 10 = .ok (.goto 4, 3) := by decide +kernel
theorem d_ib_isFull_13 : decode b_ib_isFull 13 = .ok (.iconst 0, 1) := by decide +kernel
theorem d_ib_isFull_14 : decode b_ib_isFull 14 = .ok (.ireturn, 1) := by decide +kernel
theorem d_ib_has_0 : decode b_ib_has 0 = .ok (.iload_n 1, 1) := by decide +kernel
theorem d_ib_has_1 : decode b_ib_has 1 = .ok (.ifCond .lt 15, 3) := by decide +kernel
theorem d_ib_has_4 : decode b_ib_has 4 = .ok (.iload_n 1, 1) := by decide +kernel
theorem d_ib_has_5 : decode b_ib_has 5 = .ok (.aload_n 0, 1) := by decide +kernel
theorem d_ib_has_6 : decode b_ib_has 6 = .ok (.getfield 26, 3) := by decide +kernel
theorem d_ib_has_9 : decode b_ib_has 9 = .ok (.if_icmp .ge 7, 3) := by decide +kernel
theorem d_ib_has_12 : decode b_ib_has 12 = .ok (.iconst 1, 1) := by decide +kernel
theorem d_ib_has_13 : decode b_ib_has 13 = .ok (.goto 4, 3) := by decide +kernel
theorem d_ib_has_16 : decode b_ib_has 16 = .ok (.iconst 0, 1) := by decide +kernel
theorem d_ib_has_17 : decode b_ib_has 17 = .ok (.ireturn, 1) := by decide +kernel
theorem d_ib_add_0 : decode b_ib_add 0 = .ok (.aload_n 0, 1) := by decide +kernel
theorem d_ib_add_1 : decode b_ib_add 1 = .ok (.invokevirtual 30, 3) := by decide +kernel
theorem d_ib_add_4 : decode b_ib_add 4 = .ok (.ifCond .ne 68, 3) := by decide +kernel
theorem d_ib_add_7 : decode b_ib_add 7 = .ok (.aload_n 0, 1) := by decide +kernel
theorem d_ib_add_8 : decode b_ib_add 8 = .ok (.getfield 9, 3) := by decide +kernel
theorem d_ib_add_11 : decode b_ib_add 11 = .ok (.aload_n 0, 1) := by decide +kernel
theorem d_ib_add_12 : decode b_ib_add 12 = .ok (.getfield 26, 3) := by decide +kernel
theorem d_ib_add_15 : decode b_ib_add 15 = .ok (.iload_n 1, 1) := by decide +kernel
theorem d_ib_add_16 : decode b_ib_add 16 = .ok (.iastore, 1) := by decide +kernel
theorem d_ib_add_17 : decode b_ib_add 17 = .ok (.aload_n 0, 1) := by decide +kernel
theorem d_ib_add_18 : decode b_ib_add 18 = .ok (.getfield 13, 3) := by decide +kernel
theorem d_ib_add_21 : decode b_ib_add 21 = .ok (.aload_n 0, 1) := by decide +kernel
theorem d_ib_add_22 : decode b_ib_add 22 = .ok (.getfield 26, 3) := by decide +kernel
theorem d_ib_add_25 : decode b_ib_add 25 = .ok (.iload_n 2, 1) := by decide +kernel
theorem d_ib_add_26 : decode b_ib_add 26 = .ok (.iastore, 1) := by decide +kernel
theorem d_ib_add_27 : decode b_ib_add 27 = .ok (.aload_n 0, 1) := by decide +kernel
theorem d_ib_add_28 : decode b_ib_add 28 = .ok (.getfield 16, 3) := by decide +kernel
theorem d_ib_add_31 : decode b_ib_add 31 = .ok (.aload_n 0, 1) := by decide +kernel
theorem d_ib_add_32 : decode b_ib_add 32 = .ok (.getfield 26, 3) := by decide +kernel
theorem d_ib_add_35 : decode b_ib_add 35 = .ok (.lload_n 3, 1) := by decide +kernel
theorem d_ib_add_36 : decode b_ib_add 36 = .ok (.lastore, 1) := by decide +kernel
theorem d_ib_add_37 : decode b_ib_add 37 = .ok (.aload_n 0, 1) := by decide +kernel
theorem d_ib_add_38 : decode b_ib_add 38 = .ok (.getfield 20, 3) := by decide +kernel
theorem d_ib_add_41 : decode b_ib_add 41 = .ok (.aload_n 0, 1) := by decide +kernel
theorem d_ib_add_42 : decode b_ib_add 42 = .ok (.getfield 26, 3) := by decide +kernel
theorem d_ib_add_45 : decode b_ib_add 45 = .ok (.iload 5, 2) := by decide +kernel
theorem d_ib_add_47 : decode b_ib_add 47 = .ok (.iastore, 1) := by decide +kernel
theorem d_ib_add_48 : decode b_ib_add 48 = .ok (.aload_n 0, 1) := by decide +kernel
theorem d_ib_add_49 : decode b_ib_add 49 = .ok (.getfield 23, 3) := by decide +kernel
theorem d_ib_add_52 : decode b_ib_add 52 = .ok (.aload_n 0, 1) := by decide +kernel
theorem d_ib_add_53 : decode b_ib_add 53 = .ok (.getfield 26, 3) := by decide +kernel
theorem d_ib_add_56 : decode b_ib_add 56 = .ok (.lload_n 3, 1) := by decide +kernel
theorem d_ib_add_57 : decode b_ib_add 57 = .ok (.lconst 0, 1) := by decide +kernel
theorem d_ib_add_58 : decode b_ib_add 58 = .ok (.invokestatic 34, 3) := by decide +kernel
theorem d_ib_add_61 : decode b_ib_add 61 = .ok (.lastore, 1) := by decide +kernel
theorem d_ib_add_62 : decode b_ib_add 62 = .ok (.aload_n 0, 1) := by decide +kernel
theorem d_ib_add_63 : decode b_ib_add 63 = .ok (.dup, 1) := by decide +kernel
theorem d_ib_add_64 : decode b_ib_add 64 = .ok (.getfield 26, 3) := by decide +kernel
theorem d_ib_add_67 : decode b_ib_add 67 = .ok (.iconst 1, 1) := by decide +kernel
theorem d_ib_add_68 : decode b_ib_add 68 = .ok (.iadd, 1) := by decide +kernel
theorem d_ib_add_69 : decode b_ib_add 69 = .ok (.putfield 26, 3) := by decide +kernel
theorem d_ib_add_72 : decode b_ib_add 72 = .ok (.return_, 1) := by decide +kernel
theorem d_ib_customerOf_0 : decode b_ib_customerOf 0 = .ok (.aload_n 0, 1) := by decide +kernel
theorem d_ib_customerOf_1 : decode b_ib_customerOf 1 = .ok (.getfield 9, 3) := by decide +kernel
theorem d_ib_customerOf_4 : decode b_ib_customerOf 4 = .ok (.iload_n 1, 1) := by decide +kernel
theorem d_ib_customerOf_5 : decode b_ib_customerOf 5 = .ok (.iaload, 1) := by decide +kernel
theorem d_ib_customerOf_6 : decode b_ib_customerOf 6 = .ok (.ireturn, 1) := by decide +kernel
theorem d_ib_periodOf_0 : decode b_ib_periodOf 0 = .ok (.aload_n 0, 1) := by decide +kernel
theorem d_ib_periodOf_1 : decode b_ib_periodOf 1 = .ok (.getfield 13, 3) := by decide +kernel
theorem d_ib_periodOf_4 : decode b_ib_periodOf 4 = .ok (.iload_n 1, 1) := by decide +kernel
theorem d_ib_periodOf_5 : decode b_ib_periodOf 5 = .ok (.iaload, 1) := by decide +kernel
theorem d_ib_periodOf_6 : decode b_ib_periodOf 6 = .ok (.ireturn, 1) := by decide +kernel
theorem d_ib_amountOf_0 : decode b_ib_amountOf 0 = .ok (.aload_n 0, 1) := by decide +kernel
theorem d_ib_amountOf_1 : decode b_ib_amountOf 1 = .ok (.getfield 16, 3) := by decide +kernel
theorem d_ib_amountOf_4 : decode b_ib_amountOf 4 = .ok (.iload_n 1, 1) := by decide +kernel
theorem d_ib_amountOf_5 : decode b_ib_amountOf 5 = .ok (.laload, 1) := by decide +kernel
theorem d_ib_amountOf_6 : decode b_ib_amountOf 6 = .ok (.lreturn, 1) := by decide +kernel
theorem d_ib_dayOf_0 : decode b_ib_dayOf 0 = .ok (.aload_n 0, 1) := by decide +kernel
theorem d_ib_dayOf_1 : decode b_ib_dayOf 1 = .ok (.getfield 20, 3) := by decide +kernel
theorem d_ib_dayOf_4 : decode b_ib_dayOf 4 = .ok (.iload_n 1, 1) := by decide +kernel
theorem d_ib_dayOf_5 : decode b_ib_dayOf 5 = .ok (.iaload, 1) := by decide +kernel
theorem d_ib_dayOf_6 : decode b_ib_dayOf 6 = .ok (.ireturn, 1) := by decide +kernel
theorem d_ib_paidOf_0 : decode b_ib_paidOf 0 = .ok (.aload_n 0, 1) := by decide +kernel
theorem d_ib_paidOf_1 : decode b_ib_paidOf 1 = .ok (.getfield 23, 3) := by decide +kernel
theorem d_ib_paidOf_4 : decode b_ib_paidOf 4 = .ok (.iload_n 1, 1) := by decide +kernel
theorem d_ib_paidOf_5 : decode b_ib_paidOf 5 = .ok (.laload, 1) := by decide +kernel
theorem d_ib_paidOf_6 : decode b_ib_paidOf 6 = .ok (.lreturn, 1) := by decide +kernel
theorem d_ib_overdueDays_0 : decode b_ib_overdueDays 0 = .ok (.aload_n 0, 1) := by decide +kernel
theorem d_ib_overdueDays_1 : decode b_ib_overdueDays 1 = .ok (.getfield 23, 3) := by decide +kernel
theorem d_ib_overdueDays_4 : decode b_ib_overdueDays 4 = .ok (.iload_n 1, 1) := by decide +kernel
theorem d_ib_overdueDays_5 : decode b_ib_overdueDays 5 = .ok (.laload, 1) := by decide +kernel
theorem d_ib_overdueDays_6 : decode b_ib_overdueDays 6 = .ok (.aload_n 0, 1) := by decide +kernel
theorem d_ib_overdueDays_7 : decode b_ib_overdueDays 7 = .ok (.getfield 16, 3) := by decide +kernel
theorem d_ib_overdueDays_10 : decode b_ib_overdueDays 10 = .ok (.iload_n 1, 1) := by decide +kernel
theorem d_ib_overdueDays_11 : decode b_ib_overdueDays 11 = .ok (.laload, 1) := by decide +kernel
theorem d_ib_overdueDays_12 : decode b_ib_overdueDays 12 = .ok (.lcmp, 1) := by decide +kernel
theorem d_ib_overdueDays_13 : decode b_ib_overdueDays 13 = .ok (.ifCond .ne 7, 3) := by decide +kernel
theorem d_ib_overdueDays_16 : decode b_ib_overdueDays 16 = .ok (.iconst 0, 1) := by decide +kernel
theorem d_ib_overdueDays_17 : decode b_ib_overdueDays 17 = .ok (.goto 18, 3) := by decide +kernel
theorem d_ib_overdueDays_20 : decode b_ib_overdueDays 20 = .ok (.iconst 0, 1) := by decide +kernel
theorem d_ib_overdueDays_21 : decode b_ib_overdueDays 21 = .ok (.iload_n 2, 1) := by decide +kernel
theorem d_ib_overdueDays_22 : decode b_ib_overdueDays 22 = .ok (.aload_n 0, 1) := by decide +kernel
theorem d_ib_overdueDays_23 : decode b_ib_overdueDays 23 = .ok (.getfield 20, 3) := by decide +kernel
theorem d_ib_overdueDays_26 : decode b_ib_overdueDays 26 = .ok (.iload_n 1, 1) := by decide +kernel
theorem d_ib_overdueDays_27 : decode b_ib_overdueDays 27 = .ok (.iaload, 1) := by decide +kernel
theorem d_ib_overdueDays_28 : decode b_ib_overdueDays 28 = .ok (.isub, 1) := by decide +kernel
theorem d_ib_overdueDays_29 : decode b_ib_overdueDays 29 = .ok (.bipush 14, 2) := by decide +kernel
theorem d_ib_overdueDays_31 : decode b_ib_overdueDays 31 = .ok (.isub, 1) := by decide +kernel
theorem d_ib_overdueDays_32 : decode b_ib_overdueDays 32 = .ok (.invokestatic 40, 3) := by decide +kernel
theorem d_ib_overdueDays_35 : decode b_ib_overdueDays 35 = .ok (.ireturn, 1) := by decide +kernel
theorem d_ib_mostOverdueDays_0 : decode b_ib_mostOverdueDays 0 = .ok (.iconst 0, 1) := by decide +kernel
theorem d_ib_mostOverdueDays_1 : decode b_ib_mostOverdueDays 1 = .ok (.istore_n 3, 1) := by decide +kernel
theorem d_ib_mostOverdueDays_2 : decode b_ib_mostOverdueDays 2 = .ok (.iconst 0, 1) := by decide +kernel
theorem d_ib_mostOverdueDays_3 : decode b_ib_mostOverdueDays 3 = .ok (.istore 4, 2) := by decide +kernel
theorem d_ib_mostOverdueDays_5 : decode b_ib_mostOverdueDays 5 = .ok (.iload 4, 2) := by decide +kernel
theorem d_ib_mostOverdueDays_7 : decode b_ib_mostOverdueDays 7 = .ok (.aload_n 0, 1) := by decide +kernel
theorem d_ib_mostOverdueDays_8 : decode b_ib_mostOverdueDays 8 = .ok (.getfield 26, 3) := by decide +kernel
theorem d_ib_mostOverdueDays_11 : decode b_ib_mostOverdueDays 11 = .ok (.if_icmp .ge 32, 3) := by decide +kernel
theorem d_ib_mostOverdueDays_14 : decode b_ib_mostOverdueDays 14 = .ok (.aload_n 0, 1) := by decide +kernel
theorem d_ib_mostOverdueDays_15 : decode b_ib_mostOverdueDays 15 = .ok (.getfield 9, 3) := by decide +kernel
theorem d_ib_mostOverdueDays_18 : decode b_ib_mostOverdueDays 18 = .ok (.iload 4, 2) := by decide +kernel
theorem d_ib_mostOverdueDays_20 : decode b_ib_mostOverdueDays 20 = .ok (.iaload, 1) := by decide +kernel
theorem d_ib_mostOverdueDays_21 : decode b_ib_mostOverdueDays 21 = .ok (.iload_n 1, 1) := by decide +kernel
theorem d_ib_mostOverdueDays_22 : decode b_ib_mostOverdueDays 22 = .ok (.if_icmp .ne 15, 3) := by decide +kernel
theorem d_ib_mostOverdueDays_25 : decode b_ib_mostOverdueDays 25 = .ok (.iload_n 3, 1) := by decide +kernel
theorem d_ib_mostOverdueDays_26 : decode b_ib_mostOverdueDays 26 = .ok (.aload_n 0, 1) := by decide +kernel
theorem d_ib_mostOverdueDays_27 : decode b_ib_mostOverdueDays 27 = .ok (.iload 4, 2) := by decide +kernel
theorem d_ib_mostOverdueDays_29 : decode b_ib_mostOverdueDays 29 = .ok (.iload_n 2, 1) := by decide +kernel
theorem d_ib_mostOverdueDays_30 : decode b_ib_mostOverdueDays 30 = .ok (.invokevirtual 44, 3) := by decide +kernel
theorem d_ib_mostOverdueDays_33 : decode b_ib_mostOverdueDays 33 = .ok (.invokestatic 40, 3) := by decide +kernel
theorem d_ib_mostOverdueDays_36 : decode b_ib_mostOverdueDays 36 = .ok (.istore_n 3, 1) := by decide +kernel
theorem d_ib_mostOverdueDays_37 : decode b_ib_mostOverdueDays 37 = .ok (.iinc 4 1, 3) := by decide +kernel
theorem d_ib_mostOverdueDays_40 : decode b_ib_mostOverdueDays 40 = .ok (.goto (-35), 3) := by decide +kernel
theorem d_ib_mostOverdueDays_43 : decode b_ib_mostOverdueDays 43 = .ok (.iload_n 3, 1) := by decide +kernel
theorem d_ib_mostOverdueDays_44 : decode b_ib_mostOverdueDays 44 = .ok (.ireturn, 1) := by decide +kernel
theorem d_ib_amountsOf_0 : decode b_ib_amountsOf 0 = .ok (.lconst 0, 1) := by decide +kernel
theorem d_ib_amountsOf_1 : decode b_ib_amountsOf 1 = .ok (.lstore_n 3, 1) := by decide +kernel
theorem d_ib_amountsOf_2 : decode b_ib_amountsOf 2 = .ok (.iconst 0, 1) := by decide +kernel
theorem d_ib_amountsOf_3 : decode b_ib_amountsOf 3 = .ok (.istore 5, 2) := by decide +kernel
theorem d_ib_amountsOf_5 : decode b_ib_amountsOf 5 = .ok (.iload 5, 2) := by decide +kernel
theorem d_ib_amountsOf_7 : decode b_ib_amountsOf 7 = .ok (.aload_n 0, 1) := by decide +kernel
theorem d_ib_amountsOf_8 : decode b_ib_amountsOf 8 = .ok (.getfield 26, 3) := by decide +kernel
theorem d_ib_amountsOf_11 : decode b_ib_amountsOf 11 = .ok (.if_icmp .ge 41, 3) := by decide +kernel
theorem d_ib_amountsOf_14 : decode b_ib_amountsOf 14 = .ok (.aload_n 0, 1) := by decide +kernel
theorem d_ib_amountsOf_15 : decode b_ib_amountsOf 15 = .ok (.getfield 9, 3) := by decide +kernel
theorem d_ib_amountsOf_18 : decode b_ib_amountsOf 18 = .ok (.iload 5, 2) := by decide +kernel
theorem d_ib_amountsOf_20 : decode b_ib_amountsOf 20 = .ok (.iaload, 1) := by decide +kernel
theorem d_ib_amountsOf_21 : decode b_ib_amountsOf 21 = .ok (.iload_n 1, 1) := by decide +kernel
theorem d_ib_amountsOf_22 : decode b_ib_amountsOf 22 = .ok (.if_icmp .ne 24, 3) := by decide +kernel
theorem d_ib_amountsOf_25 : decode b_ib_amountsOf 25 = .ok (.aload_n 0, 1) := by decide +kernel
theorem d_ib_amountsOf_26 : decode b_ib_amountsOf 26 = .ok (.getfield 13, 3) := by decide +kernel
theorem d_ib_amountsOf_29 : decode b_ib_amountsOf 29 = .ok (.iload 5, 2) := by decide +kernel
theorem d_ib_amountsOf_31 : decode b_ib_amountsOf 31 = .ok (.iaload, 1) := by decide +kernel
theorem d_ib_amountsOf_32 : decode b_ib_amountsOf 32 = .ok (.iload_n 2, 1) := by decide +kernel
theorem d_ib_amountsOf_33 : decode b_ib_amountsOf 33 = .ok (.if_icmp .ne 13, 3) := by decide +kernel
theorem d_ib_amountsOf_36 : decode b_ib_amountsOf 36 = .ok (.lload_n 3, 1) := by decide +kernel
theorem d_ib_amountsOf_37 : decode b_ib_amountsOf 37 = .ok (.aload_n 0, 1) := by decide +kernel
theorem d_ib_amountsOf_38 : decode b_ib_amountsOf 38 = .ok (.getfield 16, 3) := by decide +kernel
theorem d_ib_amountsOf_41 : decode b_ib_amountsOf 41 = .ok (.iload 5, 2) := by decide +kernel
theorem d_ib_amountsOf_43 : decode b_ib_amountsOf 43 = .ok (.laload, 1) := by decide +kernel
theorem d_ib_amountsOf_44 : decode b_ib_amountsOf 44 = .ok (.ladd, 1) := by decide +kernel
theorem d_ib_amountsOf_45 : decode b_ib_amountsOf 45 = .ok (.lstore_n 3, 1) := by decide +kernel
theorem d_ib_amountsOf_46 : decode b_ib_amountsOf 46 = .ok (.iinc 5 1, 3) := by decide +kernel
theorem d_ib_amountsOf_49 : decode b_ib_amountsOf 49 = .ok (.goto (-44), 3) := by decide +kernel
theorem d_ib_amountsOf_52 : decode b_ib_amountsOf 52 = .ok (.lload_n 3, 1) := by decide +kernel
theorem d_ib_amountsOf_53 : decode b_ib_amountsOf 53 = .ok (.lreturn, 1) := by decide +kernel
theorem d_ib_allAmounts_0 : decode b_ib_allAmounts 0 = .ok (.lconst 0, 1) := by decide +kernel
theorem d_ib_allAmounts_1 : decode b_ib_allAmounts 1 = .ok (.lstore_n 1, 1) := by decide +kernel
theorem d_ib_allAmounts_2 : decode b_ib_allAmounts 2 = .ok (.iconst 0, 1) := by decide +kernel
theorem d_ib_allAmounts_3 : decode b_ib_allAmounts 3 = .ok (.istore_n 3, 1) := by decide +kernel
theorem d_ib_allAmounts_4 : decode b_ib_allAmounts 4 = .ok (.iload_n 3, 1) := by decide +kernel
theorem d_ib_allAmounts_5 : decode b_ib_allAmounts 5 = .ok (.aload_n 0, 1) := by decide +kernel
theorem d_ib_allAmounts_6 : decode b_ib_allAmounts 6 = .ok (.getfield 26, 3) := by decide +kernel
theorem d_ib_allAmounts_9 : decode b_ib_allAmounts 9 = .ok (.if_icmp .ge 18, 3) := by decide +kernel
theorem d_ib_allAmounts_12 : decode b_ib_allAmounts 12 = .ok (.lload_n 1, 1) := by decide +kernel
theorem d_ib_allAmounts_13 : decode b_ib_allAmounts 13 = .ok (.aload_n 0, 1) := by decide +kernel
theorem d_ib_allAmounts_14 : decode b_ib_allAmounts 14 = .ok (.getfield 16, 3) := by decide +kernel
theorem d_ib_allAmounts_17 : decode b_ib_allAmounts 17 = .ok (.iload_n 3, 1) := by decide +kernel
theorem d_ib_allAmounts_18 : decode b_ib_allAmounts 18 = .ok (.laload, 1) := by decide +kernel
theorem d_ib_allAmounts_19 : decode b_ib_allAmounts 19 = .ok (.ladd, 1) := by decide +kernel
theorem d_ib_allAmounts_20 : decode b_ib_allAmounts 20 = .ok (.lstore_n 1, 1) := by decide +kernel
theorem d_ib_allAmounts_21 : decode b_ib_allAmounts 21 = .ok (.iinc 3 1, 3) := by decide +kernel
theorem d_ib_allAmounts_24 : decode b_ib_allAmounts 24 = .ok (.goto (-20), 3) := by decide +kernel
theorem d_ib_allAmounts_27 : decode b_ib_allAmounts 27 = .ok (.lload_n 1, 1) := by decide +kernel
theorem d_ib_allAmounts_28 : decode b_ib_allAmounts 28 = .ok (.lreturn, 1) := by decide +kernel
theorem d_ib_openOf_0 : decode b_ib_openOf 0 = .ok (.lconst 0, 1) := by decide +kernel
theorem d_ib_openOf_1 : decode b_ib_openOf 1 = .ok (.lstore_n 2, 1) := by decide +kernel
theorem d_ib_openOf_2 : decode b_ib_openOf 2 = .ok (.iconst 0, 1) := by decide +kernel
theorem d_ib_openOf_3 : decode b_ib_openOf 3 = .ok (.istore 4, 2) := by decide +kernel
theorem d_ib_openOf_5 : decode b_ib_openOf 5 = .ok (.iload 4, 2) := by decide +kernel
theorem d_ib_openOf_7 : decode b_ib_openOf 7 = .ok (.aload_n 0, 1) := by decide +kernel
theorem d_ib_openOf_8 : decode b_ib_openOf 8 = .ok (.getfield 26, 3) := by decide +kernel
theorem d_ib_openOf_11 : decode b_ib_openOf 11 = .ok (.if_icmp .ge 38, 3) := by decide +kernel
theorem d_ib_openOf_14 : decode b_ib_openOf 14 = .ok (.aload_n 0, 1) := by decide +kernel
theorem d_ib_openOf_15 : decode b_ib_openOf 15 = .ok (.getfield 9, 3) := by decide +kernel
theorem d_ib_openOf_18 : decode b_ib_openOf 18 = .ok (.iload 4, 2) := by decide +kernel
theorem d_ib_openOf_20 : decode b_ib_openOf 20 = .ok (.iaload, 1) := by decide +kernel
theorem d_ib_openOf_21 : decode b_ib_openOf 21 = .ok (.iload_n 1, 1) := by decide +kernel
theorem d_ib_openOf_22 : decode b_ib_openOf 22 = .ok (.if_icmp .ne 21, 3) := by decide +kernel
theorem d_ib_openOf_25 : decode b_ib_openOf 25 = .ok (.lload_n 2, 1) := by decide +kernel
theorem d_ib_openOf_26 : decode b_ib_openOf 26 = .ok (.aload_n 0, 1) := by decide +kernel
theorem d_ib_openOf_27 : decode b_ib_openOf 27 = .ok (.getfield 16, 3) := by decide +kernel
theorem d_ib_openOf_30 : decode b_ib_openOf 30 = .ok (.iload 4, 2) := by decide +kernel
theorem d_ib_openOf_32 : decode b_ib_openOf 32 = .ok (.laload, 1) := by decide +kernel
theorem d_ib_openOf_33 : decode b_ib_openOf 33 = .ok (.aload_n 0, 1) := by decide +kernel
theorem d_ib_openOf_34 : decode b_ib_openOf 34 = .ok (.getfield 23, 3) := by decide +kernel
theorem d_ib_openOf_37 : decode b_ib_openOf 37 = .ok (.iload 4, 2) := by decide +kernel
theorem d_ib_openOf_39 : decode b_ib_openOf 39 = .ok (.laload, 1) := by decide +kernel
theorem d_ib_openOf_40 : decode b_ib_openOf 40 = .ok (.lsub, 1) := by decide +kernel
theorem d_ib_openOf_41 : decode b_ib_openOf 41 = .ok (.ladd, 1) := by decide +kernel
theorem d_ib_openOf_42 : decode b_ib_openOf 42 = .ok (.lstore_n 2, 1) := by decide +kernel
theorem d_ib_openOf_43 : decode b_ib_openOf 43 = .ok (.iinc 4 1, 3) := by decide +kernel
theorem d_ib_openOf_46 : decode b_ib_openOf 46 = .ok (.goto (-41), 3) := by decide +kernel
theorem d_ib_openOf_49 : decode b_ib_openOf 49 = .ok (.lload_n 2, 1) := by decide +kernel
theorem d_ib_openOf_50 : decode b_ib_openOf 50 = .ok (.lreturn, 1) := by decide +kernel
theorem d_ib_payOpen_0 : decode b_ib_payOpen 0 = .ok (.lload_n 2, 1) := by decide +kernel
theorem d_ib_payOpen_1 : decode b_ib_payOpen 1 = .ok (.lstore 4, 2) := by decide +kernel
theorem d_ib_payOpen_3 : decode b_ib_payOpen 3 = .ok (.iconst 0, 1) := by decide +kernel
theorem d_ib_payOpen_4 : decode b_ib_payOpen 4 = .ok (.istore 6, 2) := by decide +kernel
theorem d_ib_payOpen_6 : decode b_ib_payOpen 6 = .ok (.iload 6, 2) := by decide +kernel
theorem d_ib_payOpen_8 : decode b_ib_payOpen 8 = .ok (.aload_n 0, 1) := by decide +kernel
theorem d_ib_payOpen_9 : decode b_ib_payOpen 9 = .ok (.getfield 26, 3) := by decide +kernel
theorem d_ib_payOpen_12 : decode b_ib_payOpen 12 = .ok (.if_icmp .ge 68, 3) := by decide +kernel
theorem d_ib_payOpen_15 : decode b_ib_payOpen 15 = .ok (.lload 4, 2) := by decide +kernel
theorem d_ib_payOpen_17 : decode b_ib_payOpen 17 = .ok (.lconst 0, 1) := by decide +kernel
theorem d_ib_payOpen_18 : decode b_ib_payOpen 18 = .ok (.lcmp, 1) := by decide +kernel
theorem d_ib_payOpen_19 : decode b_ib_payOpen 19 = .ok (.ifCond .le 61, 3) := by decide +kernel
theorem d_ib_payOpen_22 : decode b_ib_payOpen 22 = .ok (.aload_n 0, 1) := by decide +kernel
theorem d_ib_payOpen_23 : decode b_ib_payOpen 23 = .ok (.getfield 9, 3) := by decide +kernel
theorem d_ib_payOpen_26 : decode b_ib_payOpen 26 = .ok (.iload 6, 2) := by decide +kernel
theorem d_ib_payOpen_28 : decode b_ib_payOpen 28 = .ok (.iaload, 1) := by decide +kernel
theorem d_ib_payOpen_29 : decode b_ib_payOpen 29 = .ok (.iload_n 1, 1) := by decide +kernel
theorem d_ib_payOpen_30 : decode b_ib_payOpen 30 = .ok (.if_icmp .ne 44, 3) := by decide +kernel
theorem d_ib_payOpen_33 : decode b_ib_payOpen 33 = .ok (.lload 4, 2) := by decide +kernel
theorem d_ib_payOpen_35 : decode b_ib_payOpen 35 = .ok (.aload_n 0, 1) := by decide +kernel
theorem d_ib_payOpen_36 : decode b_ib_payOpen 36 = .ok (.getfield 16, 3) := by decide +kernel
theorem d_ib_payOpen_39 : decode b_ib_payOpen 39 = .ok (.iload 6, 2) := by decide +kernel
theorem d_ib_payOpen_41 : decode b_ib_payOpen 41 = .ok (.laload, 1) := by decide +kernel
theorem d_ib_payOpen_42 : decode b_ib_payOpen 42 = .ok (.aload_n 0, 1) := by decide +kernel
theorem d_ib_payOpen_43 : decode b_ib_payOpen 43 = .ok (.getfield 23, 3) := by decide +kernel
theorem d_ib_payOpen_46 : decode b_ib_payOpen 46 = .ok (.iload 6, 2) := by decide +kernel
theorem d_ib_payOpen_48 : decode b_ib_payOpen 48 = .ok (.laload, 1) := by decide +kernel
theorem d_ib_payOpen_49 : decode b_ib_payOpen 49 = .ok (.lsub, 1) := by decide +kernel
theorem d_ib_payOpen_50 : decode b_ib_payOpen 50 = .ok (.invokestatic 34, 3) := by decide +kernel
theorem d_ib_payOpen_53 : decode b_ib_payOpen 53 = .ok (.lstore 7, 2) := by decide +kernel
theorem d_ib_payOpen_55 : decode b_ib_payOpen 55 = .ok (.aload_n 0, 1) := by decide +kernel
theorem d_ib_payOpen_56 : decode b_ib_payOpen 56 = .ok (.getfield 23, 3) := by decide +kernel
theorem d_ib_payOpen_59 : decode b_ib_payOpen 59 = .ok (.iload 6, 2) := by decide +kernel
theorem d_ib_payOpen_61 : decode b_ib_payOpen 61 = .ok (.dup2, 1) := by decide +kernel
theorem d_ib_payOpen_62 : decode b_ib_payOpen 62 = .ok (.laload, 1) := by decide +kernel
theorem d_ib_payOpen_63 : decode b_ib_payOpen 63 = .ok (.lload 7, 2) := by decide +kernel
theorem d_ib_payOpen_65 : decode b_ib_payOpen 65 = .ok (.ladd, 1) := by decide +kernel
theorem d_ib_payOpen_66 : decode b_ib_payOpen 66 = .ok (.lastore, 1) := by decide +kernel
theorem d_ib_payOpen_67 : decode b_ib_payOpen 67 = .ok (.lload 4, 2) := by decide +kernel
theorem d_ib_payOpen_69 : decode b_ib_payOpen 69 = .ok (.lload 7, 2) := by decide +kernel
theorem d_ib_payOpen_71 : decode b_ib_payOpen 71 = .ok (.lsub, 1) := by decide +kernel
theorem d_ib_payOpen_72 : decode b_ib_payOpen 72 = .ok (.lstore 4, 2) := by decide +kernel
theorem d_ib_payOpen_74 : decode b_ib_payOpen 74 = .ok (.iinc 6 1, 3) := by decide +kernel
theorem d_ib_payOpen_77 : decode b_ib_payOpen 77 = .ok (.goto (-71), 3) := by decide +kernel
theorem d_ib_payOpen_80 : decode b_ib_payOpen 80 = .ok (.lload_n 2, 1) := by decide +kernel
theorem d_ib_payOpen_81 : decode b_ib_payOpen 81 = .ok (.lload 4, 2) := by decide +kernel
theorem d_ib_payOpen_83 : decode b_ib_payOpen 83 = .ok (.lsub, 1) := by decide +kernel
theorem d_ib_payOpen_84 : decode b_ib_payOpen 84 = .ok (.lreturn, 1) := by decide +kernel
theorem d_pb_init_0 : decode b_pb_init 0 = .ok (.aload_n 0, 1) := by decide +kernel
theorem d_pb_init_1 : decode b_pb_init 1 = .ok (.invokespecial 1, 3) := by decide +kernel
theorem d_pb_init_4 : decode b_pb_init 4 = .ok (.aload_n 0, 1) := by decide +kernel
theorem d_pb_init_5 : decode b_pb_init 5 = .ok (.bipush 10, 2) := by decide +kernel
theorem d_pb_init_7 : decode b_pb_init 7 = .ok (.newarray .int, 2) := by decide +kernel
theorem d_pb_init_9 : decode b_pb_init 9 = .ok (.putfield 9, 3) := by decide +kernel
theorem d_pb_init_12 : decode b_pb_init 12 = .ok (.aload_n 0, 1) := by decide +kernel
theorem d_pb_init_13 : decode b_pb_init 13 = .ok (.bipush 10, 2) := by decide +kernel
theorem d_pb_init_15 : decode b_pb_init 15 = .ok (.newarray .long, 2) := by decide +kernel
theorem d_pb_init_17 : decode b_pb_init 17 = .ok (.putfield 13, 3) := by decide +kernel
theorem d_pb_init_20 : decode b_pb_init 20 = .ok (.aload_n 0, 1) := by decide +kernel
theorem d_pb_init_21 : decode b_pb_init 21 = .ok (.bipush 10, 2) := by decide +kernel
theorem d_pb_init_23 : decode b_pb_init 23 = .ok (.newarray .int, 2) := by decide +kernel
theorem d_pb_init_25 : decode b_pb_init 25 = .ok (.putfield 17, 3) := by decide +kernel
theorem d_pb_init_28 : decode b_pb_init 28 = .ok (.aload_n 0, 1) := by decide +kernel
theorem d_pb_init_29 : decode b_pb_init 29 = .ok (.bipush 10, 2) := by decide +kernel
theorem d_pb_init_31 : decode b_pb_init 31 = .ok (.newarray .int, 2) := by decide +kernel
theorem d_pb_init_33 : decode b_pb_init 33 = .ok (.putfield 20, 3) := by decide +kernel
theorem d_pb_init_36 : decode b_pb_init 36 = .ok (.aload_n 0, 1) := by decide +kernel
theorem d_pb_init_37 : decode b_pb_init 37 = .ok (.iconst 0, 1) := by decide +kernel
theorem d_pb_init_38 : decode b_pb_init 38 = .ok (.putfield 23, 3) := by decide +kernel
theorem d_pb_init_41 : decode b_pb_init 41 = .ok (.return_, 1) := by decide +kernel
theorem d_pb_size_0 : decode b_pb_size 0 = .ok (.aload_n 0, 1) := by decide +kernel
theorem d_pb_size_1 : decode b_pb_size 1 = .ok (.getfield 23, 3) := by decide +kernel
theorem d_pb_size_4 : decode b_pb_size 4 = .ok (.ireturn, 1) := by decide +kernel
theorem d_pb_isFull_0 : decode b_pb_isFull 0 = .ok (.aload_n 0, 1) := by decide +kernel
theorem d_pb_isFull_1 : decode b_pb_isFull 1 = .ok (.getfield 23, 3) := by decide +kernel
theorem d_pb_isFull_4 : decode b_pb_isFull 4 = .ok (.bipush 10, 2) := by decide +kernel
theorem d_pb_isFull_6 : decode b_pb_isFull 6 = .ok (.if_icmp .lt 7, 3) := by decide +kernel
theorem d_pb_isFull_9 : decode b_pb_isFull 9 = .ok (.iconst 1, 1) := by decide +kernel
theorem d_pb_isFull_10 : decode b_pb_isFull 10 = .ok (.goto 4, 3) := by decide +kernel
theorem d_pb_isFull_13 : decode b_pb_isFull 13 = .ok (.iconst 0, 1) := by decide +kernel
theorem d_pb_isFull_14 : decode b_pb_isFull 14 = .ok (.ireturn, 1) := by decide +kernel
theorem d_pb_add_0 : decode b_pb_add 0 = .ok (.aload_n 0, 1) := by decide +kernel
theorem d_pb_add_1 : decode b_pb_add 1 = .ok (.invokevirtual 27, 3) := by decide +kernel
theorem d_pb_add_4 : decode b_pb_add 4 = .ok (.ifCond .ne 55, 3) := by decide +kernel
theorem d_pb_add_7 : decode b_pb_add 7 = .ok (.aload_n 0, 1) := by decide +kernel
theorem d_pb_add_8 : decode b_pb_add 8 = .ok (.getfield 9, 3) := by decide +kernel
theorem d_pb_add_11 : decode b_pb_add 11 = .ok (.aload_n 0, 1) := by decide +kernel
theorem d_pb_add_12 : decode b_pb_add 12 = .ok (.getfield 23, 3) := by decide +kernel
theorem d_pb_add_15 : decode b_pb_add 15 = .ok (.iload_n 1, 1) := by decide +kernel
theorem d_pb_add_16 : decode b_pb_add 16 = .ok (.iastore, 1) := by decide +kernel
theorem d_pb_add_17 : decode b_pb_add 17 = .ok (.aload_n 0, 1) := by decide +kernel
theorem d_pb_add_18 : decode b_pb_add 18 = .ok (.getfield 13, 3) := by decide +kernel
theorem d_pb_add_21 : decode b_pb_add 21 = .ok (.aload_n 0, 1) := by decide +kernel
theorem d_pb_add_22 : decode b_pb_add 22 = .ok (.getfield 23, 3) := by decide +kernel
theorem d_pb_add_25 : decode b_pb_add 25 = .ok (.lload_n 2, 1) := by decide +kernel
theorem d_pb_add_26 : decode b_pb_add 26 = .ok (.lastore, 1) := by decide +kernel
theorem d_pb_add_27 : decode b_pb_add 27 = .ok (.aload_n 0, 1) := by decide +kernel
theorem d_pb_add_28 : decode b_pb_add 28 = .ok (.getfield 17, 3) := by decide +kernel
theorem d_pb_add_31 : decode b_pb_add 31 = .ok (.aload_n 0, 1) := by decide +kernel
theorem d_pb_add_32 : decode b_pb_add 32 = .ok (.getfield 23, 3) := by decide +kernel
theorem d_pb_add_35 : decode b_pb_add 35 = .ok (.iload 4, 2) := by decide +kernel
theorem d_pb_add_37 : decode b_pb_add 37 = .ok (.iastore, 1) := by decide +kernel
theorem d_pb_add_38 : decode b_pb_add 38 = .ok (.aload_n 0, 1) := by decide +kernel
theorem d_pb_add_39 : decode b_pb_add 39 = .ok (.getfield 20, 3) := by decide +kernel
theorem d_pb_add_42 : decode b_pb_add 42 = .ok (.aload_n 0, 1) := by decide +kernel
theorem d_pb_add_43 : decode b_pb_add 43 = .ok (.getfield 23, 3) := by decide +kernel
theorem d_pb_add_46 : decode b_pb_add 46 = .ok (.iload 5, 2) := by decide +kernel
theorem d_pb_add_48 : decode b_pb_add 48 = .ok (.iastore, 1) := by decide +kernel
theorem d_pb_add_49 : decode b_pb_add 49 = .ok (.aload_n 0, 1) := by decide +kernel
theorem d_pb_add_50 : decode b_pb_add 50 = .ok (.dup, 1) := by decide +kernel
theorem d_pb_add_51 : decode b_pb_add 51 = .ok (.getfield 23, 3) := by decide +kernel
theorem d_pb_add_54 : decode b_pb_add 54 = .ok (.iconst 1, 1) := by decide +kernel
theorem d_pb_add_55 : decode b_pb_add 55 = .ok (.iadd, 1) := by decide +kernel
theorem d_pb_add_56 : decode b_pb_add 56 = .ok (.putfield 23, 3) := by decide +kernel
theorem d_pb_add_59 : decode b_pb_add 59 = .ok (.return_, 1) := by decide +kernel
theorem d_pb_amountsOf_0 : decode b_pb_amountsOf 0 = .ok (.lconst 0, 1) := by decide +kernel
theorem d_pb_amountsOf_1 : decode b_pb_amountsOf 1 = .ok (.lstore_n 2, 1) := by decide +kernel
theorem d_pb_amountsOf_2 : decode b_pb_amountsOf 2 = .ok (.iconst 0, 1) := by decide +kernel
theorem d_pb_amountsOf_3 : decode b_pb_amountsOf 3 = .ok (.istore 4, 2) := by decide +kernel
theorem d_pb_amountsOf_5 : decode b_pb_amountsOf 5 = .ok (.iload 4, 2) := by decide +kernel
theorem d_pb_amountsOf_7 : decode b_pb_amountsOf 7 = .ok (.aload_n 0, 1) := by decide +kernel
theorem d_pb_amountsOf_8 : decode b_pb_amountsOf 8 = .ok (.getfield 23, 3) := by decide +kernel
theorem d_pb_amountsOf_11 : decode b_pb_amountsOf 11 = .ok (.if_icmp .ge 30, 3) := by decide +kernel
theorem d_pb_amountsOf_14 : decode b_pb_amountsOf 14 = .ok (.aload_n 0, 1) := by decide +kernel
theorem d_pb_amountsOf_15 : decode b_pb_amountsOf 15 = .ok (.getfield 9, 3) := by decide +kernel
theorem d_pb_amountsOf_18 : decode b_pb_amountsOf 18 = .ok (.iload 4, 2) := by decide +kernel
theorem d_pb_amountsOf_20 : decode b_pb_amountsOf 20 = .ok (.iaload, 1) := by decide +kernel
theorem d_pb_amountsOf_21 : decode b_pb_amountsOf 21 = .ok (.iload_n 1, 1) := by decide +kernel
theorem d_pb_amountsOf_22 : decode b_pb_amountsOf 22 = .ok (.if_icmp .ne 13, 3) := by decide +kernel
theorem d_pb_amountsOf_25 : decode b_pb_amountsOf 25 = .ok (.lload_n 2, 1) := by decide +kernel
theorem d_pb_amountsOf_26 : decode b_pb_amountsOf 26 = .ok (.aload_n 0, 1) := by decide +kernel
theorem d_pb_amountsOf_27 : decode b_pb_amountsOf 27 = .ok (.getfield 13, 3) := by decide +kernel
theorem d_pb_amountsOf_30 : decode b_pb_amountsOf 30 = .ok (.iload 4, 2) := by decide +kernel
theorem d_pb_amountsOf_32 : decode b_pb_amountsOf 32 = .ok (.laload, 1) := by decide +kernel
theorem d_pb_amountsOf_33 : decode b_pb_amountsOf 33 = .ok (.ladd, 1) := by decide +kernel
theorem d_pb_amountsOf_34 : decode b_pb_amountsOf 34 = .ok (.lstore_n 2, 1) := by decide +kernel
theorem d_pb_amountsOf_35 : decode b_pb_amountsOf 35 = .ok (.iinc 4 1, 3) := by decide +kernel
theorem d_pb_amountsOf_38 : decode b_pb_amountsOf 38 = .ok (.goto (-33), 3) := by decide +kernel
theorem d_pb_amountsOf_41 : decode b_pb_amountsOf 41 = .ok (.lload_n 2, 1) := by decide +kernel
theorem d_pb_amountsOf_42 : decode b_pb_amountsOf 42 = .ok (.lreturn, 1) := by decide +kernel
theorem d_pb_allAmounts_0 : decode b_pb_allAmounts 0 = .ok (.lconst 0, 1) := by decide +kernel
theorem d_pb_allAmounts_1 : decode b_pb_allAmounts 1 = .ok (.lstore_n 1, 1) := by decide +kernel
theorem d_pb_allAmounts_2 : decode b_pb_allAmounts 2 = .ok (.iconst 0, 1) := by decide +kernel
theorem d_pb_allAmounts_3 : decode b_pb_allAmounts 3 = .ok (.istore_n 3, 1) := by decide +kernel
theorem d_pb_allAmounts_4 : decode b_pb_allAmounts 4 = .ok (.iload_n 3, 1) := by decide +kernel
theorem d_pb_allAmounts_5 : decode b_pb_allAmounts 5 = .ok (.aload_n 0, 1) := by decide +kernel
theorem d_pb_allAmounts_6 : decode b_pb_allAmounts 6 = .ok (.getfield 23, 3) := by decide +kernel
theorem d_pb_allAmounts_9 : decode b_pb_allAmounts 9 = .ok (.if_icmp .ge 18, 3) := by decide +kernel
theorem d_pb_allAmounts_12 : decode b_pb_allAmounts 12 = .ok (.lload_n 1, 1) := by decide +kernel
theorem d_pb_allAmounts_13 : decode b_pb_allAmounts 13 = .ok (.aload_n 0, 1) := by decide +kernel
theorem d_pb_allAmounts_14 : decode b_pb_allAmounts 14 = .ok (.getfield 13, 3) := by decide +kernel
theorem d_pb_allAmounts_17 : decode b_pb_allAmounts 17 = .ok (.iload_n 3, 1) := by decide +kernel
theorem d_pb_allAmounts_18 : decode b_pb_allAmounts 18 = .ok (.laload, 1) := by decide +kernel
theorem d_pb_allAmounts_19 : decode b_pb_allAmounts 19 = .ok (.ladd, 1) := by decide +kernel
theorem d_pb_allAmounts_20 : decode b_pb_allAmounts 20 = .ok (.lstore_n 1, 1) := by decide +kernel
theorem d_pb_allAmounts_21 : decode b_pb_allAmounts 21 = .ok (.iinc 3 1, 3) := by decide +kernel
theorem d_pb_allAmounts_24 : decode b_pb_allAmounts 24 = .ok (.goto (-20), 3) := by decide +kernel
theorem d_pb_allAmounts_27 : decode b_pb_allAmounts 27 = .ok (.lload_n 1, 1) := by decide +kernel
theorem d_pb_allAmounts_28 : decode b_pb_allAmounts 28 = .ok (.lreturn, 1) := by decide +kernel
theorem d_pb_earnedOf_0 : decode b_pb_earnedOf 0 = .ok (.lconst 0, 1) := by decide +kernel
theorem d_pb_earnedOf_1 : decode b_pb_earnedOf 1 = .ok (.lstore_n 3, 1) := by decide +kernel
theorem d_pb_earnedOf_2 : decode b_pb_earnedOf 2 = .ok (.iconst 0, 1) := by decide +kernel
theorem d_pb_earnedOf_3 : decode b_pb_earnedOf 3 = .ok (.istore 5, 2) := by decide +kernel
theorem d_pb_earnedOf_5 : decode b_pb_earnedOf 5 = .ok (.iload 5, 2) := by decide +kernel
theorem d_pb_earnedOf_7 : decode b_pb_earnedOf 7 = .ok (.aload_n 0, 1) := by decide +kernel
theorem d_pb_earnedOf_8 : decode b_pb_earnedOf 8 = .ok (.getfield 23, 3) := by decide +kernel
theorem d_pb_earnedOf_11 : decode b_pb_earnedOf 11 = .ok (.if_icmp .ge 65, 3) := by decide +kernel
theorem d_pb_earnedOf_14 : decode b_pb_earnedOf 14 = .ok (.aload_n 0, 1) := by decide +kernel
theorem d_pb_earnedOf_15 : decode b_pb_earnedOf 15 = .ok (.getfield 9, 3) := by decide +kernel
theorem d_pb_earnedOf_18 : decode b_pb_earnedOf 18 = .ok (.iload 5, 2) := by decide +kernel
theorem d_pb_earnedOf_20 : decode b_pb_earnedOf 20 = .ok (.iaload, 1) := by decide +kernel
theorem d_pb_earnedOf_21 : decode b_pb_earnedOf 21 = .ok (.iload_n 1, 1) := by decide +kernel
theorem d_pb_earnedOf_22 : decode b_pb_earnedOf 22 = .ok (.if_icmp .ne 48, 3) := by decide +kernel
theorem d_pb_earnedOf_25 : decode b_pb_earnedOf 25 = .ok (.iload_n 2, 1) := by decide +kernel
theorem d_pb_earnedOf_26 : decode b_pb_earnedOf 26 = .ok (.aload_n 0, 1) := by decide +kernel
theorem d_pb_earnedOf_27 : decode b_pb_earnedOf 27 = .ok (.getfield 20, 3) := by decide +kernel
theorem d_pb_earnedOf_30 : decode b_pb_earnedOf 30 = .ok (.iload 5, 2) := by decide +kernel
theorem d_pb_earnedOf_32 : decode b_pb_earnedOf 32 = .ok (.iaload, 1) := by decide +kernel
theorem d_pb_earnedOf_33 : decode b_pb_earnedOf 33 = .ok (.isub, 1) := by decide +kernel
theorem d_pb_earnedOf_34 : decode b_pb_earnedOf 34 = .ok (.aload_n 0, 1) := by decide +kernel
theorem d_pb_earnedOf_35 : decode b_pb_earnedOf 35 = .ok (.getfield 17, 3) := by decide +kernel
theorem d_pb_earnedOf_38 : decode b_pb_earnedOf 38 = .ok (.iload 5, 2) := by decide +kernel
theorem d_pb_earnedOf_40 : decode b_pb_earnedOf 40 = .ok (.iaload, 1) := by decide +kernel
theorem d_pb_earnedOf_41 : decode b_pb_earnedOf 41 = .ok (.invokestatic 31, 3) := by decide +kernel
theorem d_pb_earnedOf_44 : decode b_pb_earnedOf 44 = .ok (.istore 6, 2) := by decide +kernel
theorem d_pb_earnedOf_46 : decode b_pb_earnedOf 46 = .ok (.lload_n 3, 1) := by decide +kernel
theorem d_pb_earnedOf_47 : decode b_pb_earnedOf 47 = .ok (.aload_n 0, 1) := by decide +kernel
theorem d_pb_earnedOf_48 : decode b_pb_earnedOf 48 = .ok (.getfield 13, 3) := by decide +kernel
theorem d_pb_earnedOf_51 : decode b_pb_earnedOf 51 = .ok (.iload 5, 2) := by decide +kernel
theorem d_pb_earnedOf_53 : decode b_pb_earnedOf 53 = .ok (.laload, 1) := by decide +kernel
theorem d_pb_earnedOf_54 : decode b_pb_earnedOf 54 = .ok (.iload 6, 2) := by decide +kernel
theorem d_pb_earnedOf_56 : decode b_pb_earnedOf 56 = .ok (.i2l, 1) := by decide +kernel
theorem d_pb_earnedOf_57 : decode b_pb_earnedOf 57 = .ok (.aload_n 0, 1) := by decide +kernel
theorem d_pb_earnedOf_58 : decode b_pb_earnedOf 58 = .ok (.getfield 17, 3) := by decide +kernel
theorem d_pb_earnedOf_61 : decode b_pb_earnedOf 61 = .ok (.iload 5, 2) := by decide +kernel
theorem d_pb_earnedOf_63 : decode b_pb_earnedOf 63 = .ok (.iaload, 1) := by decide +kernel
theorem d_pb_earnedOf_64 : decode b_pb_earnedOf 64 = .ok (.i2l, 1) := by decide +kernel
theorem d_pb_earnedOf_65 : decode b_pb_earnedOf 65 = .ok (.invokestatic 37, 3) := by decide +kernel
theorem d_pb_earnedOf_68 : decode b_pb_earnedOf 68 = .ok (.ladd, 1) := by decide +kernel
theorem d_pb_earnedOf_69 : decode b_pb_earnedOf 69 = .ok (.lstore_n 3, 1) := by decide +kernel
theorem d_pb_earnedOf_70 : decode b_pb_earnedOf 70 = .ok (.iinc 5 1, 3) := by decide +kernel
theorem d_pb_earnedOf_73 : decode b_pb_earnedOf 73 = .ok (.goto (-68), 3) := by decide +kernel
theorem d_pb_earnedOf_76 : decode b_pb_earnedOf 76 = .ok (.lload_n 3, 1) := by decide +kernel
theorem d_pb_earnedOf_77 : decode b_pb_earnedOf 77 = .ok (.lreturn, 1) := by decide +kernel
theorem d_tf_init_0 : decode b_tf_init 0 = .ok (.aload_n 0, 1) := by decide +kernel
theorem d_tf_init_1 : decode b_tf_init 1 = .ok (.invokespecial 1, 3) := by decide +kernel
theorem d_tf_init_4 : decode b_tf_init 4 = .ok (.aload_n 0, 1) := by decide +kernel
theorem d_tf_init_5 : decode b_tf_init 5 = .ok (.iconst 0, 1) := by decide +kernel
theorem d_tf_init_6 : decode b_tf_init 6 = .ok (.putfield 7, 3) := by decide +kernel
theorem d_tf_init_9 : decode b_tf_init 9 = .ok (.aload_n 0, 1) := by decide +kernel
theorem d_tf_init_10 : decode b_tf_init 10 = .ok (.iconst 0, 1) := by decide +kernel
theorem d_tf_init_11 : decode b_tf_init 11 = .ok (.putfield 13, 3) := by decide +kernel
theorem d_tf_init_14 : decode b_tf_init 14 = .ok (.aload_n 0, 1) := by decide +kernel
theorem d_tf_init_15 : decode b_tf_init 15 = .ok (.iconst 0, 1) := by decide +kernel
theorem d_tf_init_16 : decode b_tf_init 16 = .ok (.putfield 16, 3) := by decide +kernel
theorem d_tf_init_19 : decode b_tf_init 19 = .ok (.aload_n 0, 1) := by decide +kernel
theorem d_tf_init_20 : decode b_tf_init 20 = .ok (.iconst 0, 1) := by decide +kernel
theorem d_tf_init_21 : decode b_tf_init 21 = .ok (.putfield 19, 3) := by decide +kernel
theorem d_tf_init_24 : decode b_tf_init 24 = .ok (.aload_n 0, 1) := by decide +kernel
theorem d_tf_init_25 : decode b_tf_init 25 = .ok (.iconst 0, 1) := by decide +kernel
theorem d_tf_init_26 : decode b_tf_init 26 = .ok (.putfield 22, 3) := by decide +kernel
theorem d_tf_init_29 : decode b_tf_init 29 = .ok (.aload_n 0, 1) := by decide +kernel
theorem d_tf_init_30 : decode b_tf_init 30 = .ok (.iconst 0, 1) := by decide +kernel
theorem d_tf_init_31 : decode b_tf_init 31 = .ok (.putfield 25, 3) := by decide +kernel
theorem d_tf_init_34 : decode b_tf_init 34 = .ok (.aload_n 0, 1) := by decide +kernel
theorem d_tf_init_35 : decode b_tf_init 35 = .ok (.iconst 4, 1) := by decide +kernel
theorem d_tf_init_36 : decode b_tf_init 36 = .ok (.newarray .int, 2) := by decide +kernel
theorem d_tf_init_38 : decode b_tf_init 38 = .ok (.putfield 28, 3) := by decide +kernel
theorem d_tf_init_41 : decode b_tf_init 41 = .ok (.aload_n 0, 1) := by decide +kernel
theorem d_tf_init_42 : decode b_tf_init 42 = .ok (.iconst 4, 1) := by decide +kernel
theorem d_tf_init_43 : decode b_tf_init 43 = .ok (.newarray .int, 2) := by decide +kernel
theorem d_tf_init_45 : decode b_tf_init 45 = .ok (.putfield 32, 3) := by decide +kernel
theorem d_tf_init_48 : decode b_tf_init 48 = .ok (.aload_n 0, 1) := by decide +kernel
theorem d_tf_init_49 : decode b_tf_init 49 = .ok (.iconst 0, 1) := by decide +kernel
theorem d_tf_init_50 : decode b_tf_init 50 = .ok (.putfield 35, 3) := by decide +kernel
theorem d_tf_init_53 : decode b_tf_init 53 = .ok (.return_, 1) := by decide +kernel
theorem d_tf_clear_0 : decode b_tf_clear 0 = .ok (.aload_n 0, 1) := by decide +kernel
theorem d_tf_clear_1 : decode b_tf_clear 1 = .ok (.iconst 0, 1) := by decide +kernel
theorem d_tf_clear_2 : decode b_tf_clear 2 = .ok (.putfield 7, 3) := by decide +kernel
theorem d_tf_clear_5 : decode b_tf_clear 5 = .ok (.aload_n 0, 1) := by decide +kernel
theorem d_tf_clear_6 : decode b_tf_clear 6 = .ok (.iconst 0, 1) := by decide +kernel
theorem d_tf_clear_7 : decode b_tf_clear 7 = .ok (.putfield 13, 3) := by decide +kernel
theorem d_tf_clear_10 : decode b_tf_clear 10 = .ok (.aload_n 0, 1) := by decide +kernel
theorem d_tf_clear_11 : decode b_tf_clear 11 = .ok (.iconst 0, 1) := by decide +kernel
theorem d_tf_clear_12 : decode b_tf_clear 12 = .ok (.putfield 16, 3) := by decide +kernel
theorem d_tf_clear_15 : decode b_tf_clear 15 = .ok (.aload_n 0, 1) := by decide +kernel
theorem d_tf_clear_16 : decode b_tf_clear 16 = .ok (.iconst 0, 1) := by decide +kernel
theorem d_tf_clear_17 : decode b_tf_clear 17 = .ok (.putfield 19, 3) := by decide +kernel
theorem d_tf_clear_20 : decode b_tf_clear 20 = .ok (.aload_n 0, 1) := by decide +kernel
theorem d_tf_clear_21 : decode b_tf_clear 21 = .ok (.iconst 0, 1) := by decide +kernel
theorem d_tf_clear_22 : decode b_tf_clear 22 = .ok (.putfield 22, 3) := by decide +kernel
theorem d_tf_clear_25 : decode b_tf_clear 25 = .ok (.aload_n 0, 1) := by decide +kernel
theorem d_tf_clear_26 : decode b_tf_clear 26 = .ok (.iconst 0, 1) := by decide +kernel
theorem d_tf_clear_27 : decode b_tf_clear 27 = .ok (.putfield 25, 3) := by decide +kernel
theorem d_tf_clear_30 : decode b_tf_clear 30 = .ok (.aload_n 0, 1) := by decide +kernel
theorem d_tf_clear_31 : decode b_tf_clear 31 = .ok (.iconst 0, 1) := by decide +kernel
theorem d_tf_clear_32 : decode b_tf_clear 32 = .ok (.putfield 35, 3) := by decide +kernel
theorem d_tf_clear_35 : decode b_tf_clear 35 = .ok (.return_, 1) := by decide +kernel
theorem d_tf_copyFrom_0 : decode b_tf_copyFrom 0 = .ok (.aload_n 0, 1) := by decide +kernel
theorem d_tf_copyFrom_1 : decode b_tf_copyFrom 1 = .ok (.aload_n 1, 1) := by decide +kernel
theorem d_tf_copyFrom_2 : decode b_tf_copyFrom 2 = .ok (.getfield 7, 3) := by decide +kernel
theorem d_tf_copyFrom_5 : decode b_tf_copyFrom 5 = .ok (.putfield 7, 3) := by decide +kernel
theorem d_tf_copyFrom_8 : decode b_tf_copyFrom 8 = .ok (.aload_n 0, 1) := by decide +kernel
theorem d_tf_copyFrom_9 : decode b_tf_copyFrom 9 = .ok (.aload_n 1, 1) := by decide +kernel
theorem d_tf_copyFrom_10 : decode b_tf_copyFrom 10 = .ok (.getfield 13, 3) := by decide +kernel
theorem d_tf_copyFrom_13 : decode b_tf_copyFrom 13 = .ok (.putfield 13, 3) := by decide +kernel
theorem d_tf_copyFrom_16 : decode b_tf_copyFrom 16 = .ok (.aload_n 0, 1) := by decide +kernel
theorem d_tf_copyFrom_17 : decode b_tf_copyFrom 17 = .ok (.aload_n 1, 1) := by decide +kernel
theorem d_tf_copyFrom_18 : decode b_tf_copyFrom 18 = .ok (.getfield 16, 3) := by decide +kernel
theorem d_tf_copyFrom_21 : decode b_tf_copyFrom 21 = .ok (.putfield 16, 3) := by decide +kernel
theorem d_tf_copyFrom_24 : decode b_tf_copyFrom 24 = .ok (.aload_n 0, 1) := by decide +kernel
theorem d_tf_copyFrom_25 : decode b_tf_copyFrom 25 = .ok (.aload_n 1, 1) := by decide +kernel
theorem d_tf_copyFrom_26 : decode b_tf_copyFrom 26 = .ok (.getfield 19, 3) := by decide +kernel
theorem d_tf_copyFrom_29 : decode b_tf_copyFrom 29 = .ok (.putfield 19, 3) := by decide +kernel
theorem d_tf_copyFrom_32 : decode b_tf_copyFrom 32 = .ok (.aload_n 0, 1) := by decide +kernel
theorem d_tf_copyFrom_33 : decode b_tf_copyFrom 33 = .ok (.aload_n 1, 1) := by decide +kernel
theorem d_tf_copyFrom_34 : decode b_tf_copyFrom 34 = .ok (.getfield 22, 3) := by decide +kernel
theorem d_tf_copyFrom_37 : decode b_tf_copyFrom 37 = .ok (.putfield 22, 3) := by decide +kernel
theorem d_tf_copyFrom_40 : decode b_tf_copyFrom 40 = .ok (.aload_n 0, 1) := by decide +kernel
theorem d_tf_copyFrom_41 : decode b_tf_copyFrom 41 = .ok (.aload_n 1, 1) := by decide +kernel
theorem d_tf_copyFrom_42 : decode b_tf_copyFrom 42 = .ok (.getfield 25, 3) := by decide +kernel
theorem d_tf_copyFrom_45 : decode b_tf_copyFrom 45 = .ok (.putfield 25, 3) := by decide +kernel
theorem d_tf_copyFrom_48 : decode b_tf_copyFrom 48 = .ok (.aload_n 0, 1) := by decide +kernel
theorem d_tf_copyFrom_49 : decode b_tf_copyFrom 49 = .ok (.aload_n 1, 1) := by decide +kernel
theorem d_tf_copyFrom_50 : decode b_tf_copyFrom 50 = .ok (.getfield 35, 3) := by decide +kernel
theorem d_tf_copyFrom_53 : decode b_tf_copyFrom 53 = .ok (.putfield 35, 3) := by decide +kernel
theorem d_tf_copyFrom_56 : decode b_tf_copyFrom 56 = .ok (.iconst 0, 1) := by decide +kernel
theorem d_tf_copyFrom_57 : decode b_tf_copyFrom 57 = .ok (.istore_n 2, 1) := by decide +kernel
theorem d_tf_copyFrom_58 : decode b_tf_copyFrom 58 = .ok (.iload_n 2, 1) := by decide +kernel
theorem d_tf_copyFrom_59 : decode b_tf_copyFrom 59 = .ok (.iconst 4, 1) := by decide +kernel
theorem d_tf_copyFrom_60 : decode b_tf_copyFrom 60 = .ok (.if_icmp .ge 33, 3) := by decide +kernel
theorem d_tf_copyFrom_63 : decode b_tf_copyFrom 63 = .ok (.aload_n 0, 1) := by decide +kernel
theorem d_tf_copyFrom_64 : decode b_tf_copyFrom 64 = .ok (.getfield 28, 3) := by decide +kernel
theorem d_tf_copyFrom_67 : decode b_tf_copyFrom 67 = .ok (.iload_n 2, 1) := by decide +kernel
theorem d_tf_copyFrom_68 : decode b_tf_copyFrom 68 = .ok (.aload_n 1, 1) := by decide +kernel
theorem d_tf_copyFrom_69 : decode b_tf_copyFrom 69 = .ok (.getfield 28, 3) := by decide +kernel
theorem d_tf_copyFrom_72 : decode b_tf_copyFrom 72 = .ok (.iload_n 2, 1) := by decide +kernel
theorem d_tf_copyFrom_73 : decode b_tf_copyFrom 73 = .ok (.iaload, 1) := by decide +kernel
theorem d_tf_copyFrom_74 : decode b_tf_copyFrom 74 = .ok (.iastore, 1) := by decide +kernel
theorem d_tf_copyFrom_75 : decode b_tf_copyFrom 75 = .ok (.aload_n 0, 1) := by decide +kernel
theorem d_tf_copyFrom_76 : decode b_tf_copyFrom 76 = .ok (.getfield 32, 3) := by decide +kernel
theorem d_tf_copyFrom_79 : decode b_tf_copyFrom 79 = .ok (.iload_n 2, 1) := by decide +kernel
theorem d_tf_copyFrom_80 : decode b_tf_copyFrom 80 = .ok (.aload_n 1, 1) := by decide +kernel
theorem d_tf_copyFrom_81 : decode b_tf_copyFrom 81 = .ok (.getfield 32, 3) := by decide +kernel
theorem d_tf_copyFrom_84 : decode b_tf_copyFrom 84 = .ok (.iload_n 2, 1) := by decide +kernel
theorem d_tf_copyFrom_85 : decode b_tf_copyFrom 85 = .ok (.iaload, 1) := by decide +kernel
theorem d_tf_copyFrom_86 : decode b_tf_copyFrom 86 = .ok (.iastore, 1) := by decide +kernel
theorem d_tf_copyFrom_87 : decode b_tf_copyFrom 87 = .ok (.iinc 2 1, 3) := by decide +kernel
theorem d_tf_copyFrom_90 : decode b_tf_copyFrom 90 = .ok (.goto (-32), 3) := by decide +kernel
theorem d_tf_copyFrom_93 : decode b_tf_copyFrom 93 = .ok (.return_, 1) := by decide +kernel
theorem d_tf_setFee_0 : decode b_tf_setFee 0 = .ok (.aload_n 0, 1) := by decide +kernel
theorem d_tf_setFee_1 : decode b_tf_setFee 1 = .ok (.iload_n 1, 1) := by decide +kernel
theorem d_tf_setFee_2 : decode b_tf_setFee 2 = .ok (.putfield 7, 3) := by decide +kernel
theorem d_tf_setFee_5 : decode b_tf_setFee 5 = .ok (.return_, 1) := by decide +kernel
theorem d_tf_setFree_0 : decode b_tf_setFree 0 = .ok (.aload_n 0, 1) := by decide +kernel
theorem d_tf_setFree_1 : decode b_tf_setFree 1 = .ok (.iload_n 1, 1) := by decide +kernel
theorem d_tf_setFree_2 : decode b_tf_setFree 2 = .ok (.putfield 13, 3) := by decide +kernel
theorem d_tf_setFree_5 : decode b_tf_setFree 5 = .ok (.return_, 1) := by decide +kernel
theorem d_tf_setLeast_0 : decode b_tf_setLeast 0 = .ok (.aload_n 0, 1) := by decide +kernel
theorem d_tf_setLeast_1 : decode b_tf_setLeast 1 = .ok (.iload_n 1, 1) := by decide +kernel
theorem d_tf_setLeast_2 : decode b_tf_setLeast 2 = .ok (.putfield 16, 3) := by decide +kernel
theorem d_tf_setLeast_5 : decode b_tf_setLeast 5 = .ok (.return_, 1) := by decide +kernel
theorem d_tf_setPack_0 : decode b_tf_setPack 0 = .ok (.aload_n 0, 1) := by decide +kernel
theorem d_tf_setPack_1 : decode b_tf_setPack 1 = .ok (.iload_n 1, 1) := by decide +kernel
theorem d_tf_setPack_2 : decode b_tf_setPack 2 = .ok (.putfield 19, 3) := by decide +kernel
theorem d_tf_setPack_5 : decode b_tf_setPack 5 = .ok (.aload_n 0, 1) := by decide +kernel
theorem d_tf_setPack_6 : decode b_tf_setPack 6 = .ok (.iload_n 2, 1) := by decide +kernel
theorem d_tf_setPack_7 : decode b_tf_setPack 7 = .ok (.putfield 22, 3) := by decide +kernel
theorem d_tf_setPack_10 : decode b_tf_setPack 10 = .ok (.return_, 1) := by decide +kernel
theorem d_tf_setRestPrice_0 : decode b_tf_setRestPrice 0 = .ok (.aload_n 0, 1) := by decide +kernel
theorem d_tf_setRestPrice_1 : decode b_tf_setRestPrice 1 = .ok (.iload_n 1, 1) := by decide +kernel
theorem d_tf_setRestPrice_2 : decode b_tf_setRestPrice 2 = .ok (.putfield 35, 3) := by decide +kernel
theorem d_tf_setRestPrice_5 : decode b_tf_setRestPrice 5 = .ok (.return_, 1) := by decide +kernel
theorem d_tf_addTier_0 : decode b_tf_addTier 0 = .ok (.aload_n 0, 1) := by decide +kernel
theorem d_tf_addTier_1 : decode b_tf_addTier 1 = .ok (.getfield 25, 3) := by decide +kernel
theorem d_tf_addTier_4 : decode b_tf_addTier 4 = .ok (.iconst 4, 1) := by decide +kernel
theorem d_tf_addTier_5 : decode b_tf_addTier 5 = .ok (.if_icmp .ge 33, 3) := by decide +kernel
theorem d_tf_addTier_8 : decode b_tf_addTier 8 = .ok (.aload_n 0, 1) := by decide +kernel
theorem d_tf_addTier_9 : decode b_tf_addTier 9 = .ok (.getfield 28, 3) := by decide +kernel
theorem d_tf_addTier_12 : decode b_tf_addTier 12 = .ok (.aload_n 0, 1) := by decide +kernel
theorem d_tf_addTier_13 : decode b_tf_addTier 13 = .ok (.getfield 25, 3) := by decide +kernel
theorem d_tf_addTier_16 : decode b_tf_addTier 16 = .ok (.iload_n 1, 1) := by decide +kernel
theorem d_tf_addTier_17 : decode b_tf_addTier 17 = .ok (.iastore, 1) := by decide +kernel
theorem d_tf_addTier_18 : decode b_tf_addTier 18 = .ok (.aload_n 0, 1) := by decide +kernel
theorem d_tf_addTier_19 : decode b_tf_addTier 19 = .ok (.getfield 32, 3) := by decide +kernel
theorem d_tf_addTier_22 : decode b_tf_addTier 22 = .ok (.aload_n 0, 1) := by decide +kernel
theorem d_tf_addTier_23 : decode b_tf_addTier 23 = .ok (.getfield 25, 3) := by decide +kernel
theorem d_tf_addTier_26 : decode b_tf_addTier 26 = .ok (.iload_n 2, 1) := by decide +kernel
theorem d_tf_addTier_27 : decode b_tf_addTier 27 = .ok (.iastore, 1) := by decide +kernel
theorem d_tf_addTier_28 : decode b_tf_addTier 28 = .ok (.aload_n 0, 1) := by decide +kernel
theorem d_tf_addTier_29 : decode b_tf_addTier 29 = .ok (.dup, 1) := by decide +kernel
theorem d_tf_addTier_30 : decode b_tf_addTier 30 = .ok (.getfield 25, 3) := by decide +kernel
theorem d_tf_addTier_33 : decode b_tf_addTier 33 = .ok (.iconst 1, 1) := by decide +kernel
theorem d_tf_addTier_34 : decode b_tf_addTier 34 = .ok (.iadd, 1) := by decide +kernel
theorem d_tf_addTier_35 : decode b_tf_addTier 35 = .ok (.putfield 25, 3) := by decide +kernel
theorem d_tf_addTier_38 : decode b_tf_addTier 38 = .ok (.return_, 1) := by decide +kernel
theorem d_tf_hasPack_0 : decode b_tf_hasPack 0 = .ok (.aload_n 0, 1) := by decide +kernel
theorem d_tf_hasPack_1 : decode b_tf_hasPack 1 = .ok (.getfield 19, 3) := by decide +kernel
theorem d_tf_hasPack_4 : decode b_tf_hasPack 4 = .ok (.ifCond .le 7, 3) := by decide +kernel
theorem d_tf_hasPack_7 : decode b_tf_hasPack 7 = .ok (.iconst 1, 1) := by decide +kernel
theorem d_tf_hasPack_8 : decode b_tf_hasPack 8 = .ok (.goto 4, 3) := by decide +kernel
theorem d_tf_hasPack_11 : decode b_tf_hasPack 11 = .ok (.iconst 0, 1) := by decide +kernel
theorem d_tf_hasPack_12 : decode b_tf_hasPack 12 = .ok (.ireturn, 1) := by decide +kernel
theorem d_tf_tiers_0 : decode b_tf_tiers 0 = .ok (.aload_n 0, 1) := by decide +kernel
theorem d_tf_tiers_1 : decode b_tf_tiers 1 = .ok (.getfield 25, 3) := by decide +kernel
theorem d_tf_tiers_4 : decode b_tf_tiers 4 = .ok (.ireturn, 1) := by decide +kernel
theorem d_tf_lastTierEnd_0 : decode b_tf_lastTierEnd 0 = .ok (.aload_n 0, 1) := by decide +kernel
theorem d_tf_lastTierEnd_1 : decode b_tf_lastTierEnd 1 = .ok (.getfield 25, 3) := by decide +kernel
theorem d_tf_lastTierEnd_4 : decode b_tf_lastTierEnd 4 = .ok (.ifCond .ne 7, 3) := by decide +kernel
theorem d_tf_lastTierEnd_7 : decode b_tf_lastTierEnd 7 = .ok (.iconst 0, 1) := by decide +kernel
theorem d_tf_lastTierEnd_8 : decode b_tf_lastTierEnd 8 = .ok (.goto 14, 3) := by decide +kernel
theorem d_tf_lastTierEnd_11 : decode b_tf_lastTierEnd 11 = .ok (.aload_n 0, 1) := by decide +kernel
theorem d_tf_lastTierEnd_12 : decode b_tf_lastTierEnd 12 = .ok (.getfield 28, 3) := by decide +kernel
theorem d_tf_lastTierEnd_15 : decode b_tf_lastTierEnd 15 = .ok (.aload_n 0, 1) := by decide +kernel
theorem d_tf_lastTierEnd_16 : decode b_tf_lastTierEnd 16 = .ok (.getfield 25, 3) := by decide +kernel
theorem d_tf_lastTierEnd_19 : decode b_tf_lastTierEnd 19 = .ok (.iconst 1, 1) := by decide +kernel
theorem d_tf_lastTierEnd_20 : decode b_tf_lastTierEnd 20 = .ok (.isub, 1) := by decide +kernel
theorem d_tf_lastTierEnd_21 : decode b_tf_lastTierEnd 21 = .ok (.iaload, 1) := by decide +kernel
theorem d_tf_lastTierEnd_22 : decode b_tf_lastTierEnd 22 = .ok (.ireturn, 1) := by decide +kernel
theorem d_tf_feeOf_0 : decode b_tf_feeOf 0 = .ok (.aload_n 0, 1) := by decide +kernel
theorem d_tf_feeOf_1 : decode b_tf_feeOf 1 = .ok (.getfield 7, 3) := by decide +kernel
theorem d_tf_feeOf_4 : decode b_tf_feeOf 4 = .ok (.i2l, 1) := by decide +kernel
theorem d_tf_feeOf_5 : decode b_tf_feeOf 5 = .ok (.iload_n 1, 1) := by decide +kernel
theorem d_tf_feeOf_6 : decode b_tf_feeOf 6 = .ok (.i2l, 1) := by decide +kernel
theorem d_tf_feeOf_7 : decode b_tf_feeOf 7 = .ok (.iload_n 2, 1) := by decide +kernel
theorem d_tf_feeOf_8 : decode b_tf_feeOf 8 = .ok (.i2l, 1) := by decide +kernel
theorem d_tf_feeOf_9 : decode b_tf_feeOf 9 = .ok (.invokestatic 38, 3) := by decide +kernel
theorem d_tf_feeOf_12 : decode b_tf_feeOf 12 = .ok (.lreturn, 1) := by decide +kernel
theorem d_tf_useOf_0 : decode b_tf_useOf 0 = .ok (.lconst 0, 1) := by decide +kernel
theorem d_tf_useOf_1 : decode b_tf_useOf 1 = .ok (.lload_n 1, 1) := by decide +kernel
theorem d_tf_useOf_2 : decode b_tf_useOf 2 = .ok (.aload_n 0, 1) := by decide +kernel
theorem d_tf_useOf_3 : decode b_tf_useOf 3 = .ok (.getfield 13, 3) := by decide +kernel
theorem d_tf_useOf_6 : decode b_tf_useOf 6 = .ok (.i2l, 1) := by decide +kernel
theorem d_tf_useOf_7 : decode b_tf_useOf 7 = .ok (.iload_n 3, 1) := by decide +kernel
theorem d_tf_useOf_8 : decode b_tf_useOf 8 = .ok (.i2l, 1) := by decide +kernel
theorem d_tf_useOf_9 : decode b_tf_useOf 9 = .ok (.iload 4, 2) := by decide +kernel
theorem d_tf_useOf_11 : decode b_tf_useOf 11 = .ok (.i2l, 1) := by decide +kernel
theorem d_tf_useOf_12 : decode b_tf_useOf 12 = .ok (.invokestatic 38, 3) := by decide +kernel
theorem d_tf_useOf_15 : decode b_tf_useOf 15 = .ok (.lsub, 1) := by decide +kernel
theorem d_tf_useOf_16 : decode b_tf_useOf 16 = .ok (.invokestatic 44, 3) := by decide +kernel
theorem d_tf_useOf_19 : decode b_tf_useOf 19 = .ok (.lstore 5, 2) := by decide +kernel
theorem d_tf_useOf_21 : decode b_tf_useOf 21 = .ok (.aload_n 0, 1) := by decide +kernel
theorem d_tf_useOf_22 : decode b_tf_useOf 22 = .ok (.getfield 19, 3) := by decide +kernel
theorem d_tf_useOf_25 : decode b_tf_useOf 25 = .ok (.ifCond .le 12, 3) := by decide +kernel
theorem d_tf_useOf_28 : decode b_tf_useOf 28 = .ok (.aload_n 0, 1) := by decide +kernel
theorem d_tf_useOf_29 : decode b_tf_useOf 29 = .ok (.lload 5, 2) := by decide +kernel
theorem d_tf_useOf_31 : decode b_tf_useOf 31 = .ok (.invokevirtual 50, 3) := by decide +kernel
theorem d_tf_useOf_34 : decode b_tf_useOf 34 = .ok (.goto 9, 3) := by decide +kernel
theorem d_tf_useOf_37 : decode b_tf_useOf 37 = .ok (.aload_n 0, 1) := by decide +kernel
theorem d_tf_useOf_38 : decode b_tf_useOf 38 = .ok (.lload 5, 2) := by decide +kernel
theorem d_tf_useOf_40 : decode b_tf_useOf 40 = .ok (.invokevirtual 54, 3) := by decide +kernel
theorem d_tf_useOf_43 : decode b_tf_useOf 43 = .ok (.lstore 7, 2) := by decide +kernel
theorem d_tf_useOf_45 : decode b_tf_useOf 45 = .ok (.lload 7, 2) := by decide +kernel
theorem d_tf_useOf_47 : decode b_tf_useOf 47 = .ok (.aload_n 0, 1) := by decide +kernel
theorem d_tf_useOf_48 : decode b_tf_useOf 48 = .ok (.getfield 16, 3) := by decide +kernel
theorem d_tf_useOf_51 : decode b_tf_useOf 51 = .ok (.i2l, 1) := by decide +kernel
theorem d_tf_useOf_52 : decode b_tf_useOf 52 = .ok (.iload_n 3, 1) := by decide +kernel
theorem d_tf_useOf_53 : decode b_tf_useOf 53 = .ok (.i2l, 1) := by decide +kernel
theorem d_tf_useOf_54 : decode b_tf_useOf 54 = .ok (.iload 4, 2) := by decide +kernel
theorem d_tf_useOf_56 : decode b_tf_useOf 56 = .ok (.i2l, 1) := by decide +kernel
theorem d_tf_useOf_57 : decode b_tf_useOf 57 = .ok (.invokestatic 38, 3) := by decide +kernel
theorem d_tf_useOf_60 : decode b_tf_useOf 60 = .ok (.invokestatic 44, 3) := by decide +kernel
theorem d_tf_useOf_63 : decode b_tf_useOf 63 = .ok (.lreturn, 1) := by decide +kernel
theorem d_tf_priceByPacks_0 : decode b_tf_priceByPacks 0 = .ok (.aload_n 0, 1) := by decide +kernel
theorem d_tf_priceByPacks_1 : decode b_tf_priceByPacks 1 = .ok (.getfield 19, 3) := by decide +kernel
theorem d_tf_priceByPacks_4 : decode b_tf_priceByPacks 4 = .ok (.iconst 1, 1) := by decide +kernel
theorem d_tf_priceByPacks_5 : decode b_tf_priceByPacks 5 = .ok (.if_icmp .ge 7, 3) := by decide +kernel
theorem d_tf_priceByPacks_8 : decode b_tf_priceByPacks 8 = .ok (.lconst 0, 1) := by decide +kernel
theorem d_tf_priceByPacks_9 : decode b_tf_priceByPacks 9 = .ok (.goto 24, 3) := by decide +kernel
theorem d_tf_priceByPacks_12 : decode b_tf_priceByPacks 12 = .ok (.lload_n 1, 1) := by decide +kernel
theorem d_tf_priceByPacks_13 : decode b_tf_priceByPacks 13 = .ok (.aload_n 0, 1) := by decide +kernel
theorem d_tf_priceByPacks_14 : decode b_tf_priceByPacks 14 = .ok (.getfield 19, 3) := by decide +kernel
theorem d_tf_priceByPacks_17 : decode b_tf_priceByPacks 17 = .ok (.i2l, 1) := by decide +kernel
theorem d_tf_priceByPacks_18 : decode b_tf_priceByPacks 18 = .ok (.ladd, 1) := by decide +kernel
theorem d_tf_priceByPacks_19 : decode b_tf_priceByPacks 19 = .ok (.lconst 1, 1) := by decide +kernel
theorem d_tf_priceByPacks_20 : decode b_tf_priceByPacks 20 = .ok (.lsub, 1) := by decide +kernel
theorem d_tf_priceByPacks_21 : decode b_tf_priceByPacks 21 = .ok (.aload_n 0, 1) := by decide +kernel
theorem d_tf_priceByPacks_22 : decode b_tf_priceByPacks 22 = .ok (.getfield 19, 3) := by decide +kernel
theorem d_tf_priceByPacks_25 : decode b_tf_priceByPacks 25 = .ok (.i2l, 1) := by decide +kernel
theorem d_tf_priceByPacks_26 : decode b_tf_priceByPacks 26 = .ok (.ldiv, 1) := by decide +kernel
theorem d_tf_priceByPacks_27 : decode b_tf_priceByPacks 27 = .ok (.aload_n 0, 1) := by decide +kernel
theorem d_tf_priceByPacks_28 : decode b_tf_priceByPacks 28 = .ok (.getfield 22, 3) := by decide +kernel
theorem d_tf_priceByPacks_31 : decode b_tf_priceByPacks 31 = .ok (.i2l, 1) := by decide +kernel
theorem d_tf_priceByPacks_32 : decode b_tf_priceByPacks 32 = .ok (.lmul, 1) := by decide +kernel
theorem d_tf_priceByPacks_33 : decode b_tf_priceByPacks 33 = .ok (.lreturn, 1) := by decide +kernel
theorem d_tf_priceByTiers_0 : decode b_tf_priceByTiers 0 = .ok (.lconst 0, 1) := by decide +kernel
theorem d_tf_priceByTiers_1 : decode b_tf_priceByTiers 1 = .ok (.lstore_n 3, 1) := by decide +kernel
theorem d_tf_priceByTiers_2 : decode b_tf_priceByTiers 2 = .ok (.lconst 0, 1) := by decide +kernel
theorem d_tf_priceByTiers_3 : decode b_tf_priceByTiers 3 = .ok (.lstore 5, 2) := by decide +kernel
theorem d_tf_priceByTiers_5 : decode b_tf_priceByTiers 5 = .ok (.iconst 0, 1) := by decide +kernel
theorem d_tf_priceByTiers_6 : decode b_tf_priceByTiers 6 = .ok (.istore 7, 2) := by decide +kernel
theorem d_tf_priceByTiers_8 : decode b_tf_priceByTiers 8 = .ok (.iload 7, 2) := by decide +kernel
theorem d_tf_priceByTiers_10 : decode b_tf_priceByTiers 10 = .ok (.aload_n 0, 1) := by decide +kernel
theorem d_tf_priceByTiers_11 : decode b_tf_priceByTiers 11 = .ok (.getfield 25, 3) := by decide +kernel
theorem d_tf_priceByTiers_14 : decode b_tf_priceByTiers 14 = .ok (.if_icmp .ge 44, 3) := by decide +kernel
theorem d_tf_priceByTiers_17 : decode b_tf_priceByTiers 17 = .ok (.lload_n 1, 1) := by decide +kernel
theorem d_tf_priceByTiers_18 : decode b_tf_priceByTiers 18 = .ok (.aload_n 0, 1) := by decide +kernel
theorem d_tf_priceByTiers_19 : decode b_tf_priceByTiers 19 = .ok (.getfield 28, 3) := by decide +kernel
theorem d_tf_priceByTiers_22 : decode b_tf_priceByTiers 22 = .ok (.iload 7, 2) := by decide +kernel
theorem d_tf_priceByTiers_24 : decode b_tf_priceByTiers 24 = .ok (.iaload, 1) := by decide +kernel
theorem d_tf_priceByTiers_25 : decode b_tf_priceByTiers 25 = .ok (.i2l, 1) := by decide +kernel
theorem d_tf_priceByTiers_26 : decode b_tf_priceByTiers 26 = .ok (.invokestatic 57, 3) := by decide +kernel
theorem d_tf_priceByTiers_29 : decode b_tf_priceByTiers 29 = .ok (.lstore 8, 2) := by decide +kernel
theorem d_tf_priceByTiers_31 : decode b_tf_priceByTiers 31 = .ok (.lload_n 3, 1) := by decide +kernel
theorem d_tf_priceByTiers_32 : decode b_tf_priceByTiers 32 = .ok (.lload 8, 2) := by decide +kernel
theorem d_tf_priceByTiers_34 : decode b_tf_priceByTiers 34 = .ok (.lload 5, 2) := by decide +kernel
theorem d_tf_priceByTiers_36 : decode b_tf_priceByTiers 36 = .ok (.lsub, 1) := by decide +kernel
theorem d_tf_priceByTiers_37 : decode b_tf_priceByTiers 37 = .ok (.aload_n 0, 1) := by decide +kernel
theorem d_tf_priceByTiers_38 : decode b_tf_priceByTiers 38 = .ok (.getfield 32, 3) := by decide +kernel
theorem d_tf_priceByTiers_41 : decode b_tf_priceByTiers 41 = .ok (.iload 7, 2) := by decide +kernel
theorem d_tf_priceByTiers_43 : decode b_tf_priceByTiers 43 = .ok (.iaload, 1) := by decide +kernel
theorem d_tf_priceByTiers_44 : decode b_tf_priceByTiers 44 = .ok (.i2l, 1) := by decide +kernel
theorem d_tf_priceByTiers_45 : decode b_tf_priceByTiers 45 = .ok (.lmul, 1) := by decide +kernel
theorem d_tf_priceByTiers_46 : decode b_tf_priceByTiers 46 = .ok (.ladd, 1) := by decide +kernel
theorem d_tf_priceByTiers_47 : decode b_tf_priceByTiers 47 = .ok (.lstore_n 3, 1) := by decide +kernel
theorem d_tf_priceByTiers_48 : decode b_tf_priceByTiers 48 = .ok (.lload 8, 2) := by decide +kernel
theorem d_tf_priceByTiers_50 : decode b_tf_priceByTiers 50 = .ok (.lstore 5, 2) := by decide +kernel
theorem d_tf_priceByTiers_52 : decode b_tf_priceByTiers 52 = .ok (.iinc 7 1, 3) := by decide +kernel
theorem d_tf_priceByTiers_55 : decode b_tf_priceByTiers 55 = .ok (.goto (-47), 3) := by decide +kernel
theorem d_tf_priceByTiers_58 : decode b_tf_priceByTiers 58 = .ok (.lload_n 3, 1) := by decide +kernel
theorem d_tf_priceByTiers_59 : decode b_tf_priceByTiers 59 = .ok (.lload_n 1, 1) := by decide +kernel
theorem d_tf_priceByTiers_60 : decode b_tf_priceByTiers 60 = .ok (.lload 5, 2) := by decide +kernel
theorem d_tf_priceByTiers_62 : decode b_tf_priceByTiers 62 = .ok (.lsub, 1) := by decide +kernel
theorem d_tf_priceByTiers_63 : decode b_tf_priceByTiers 63 = .ok (.aload_n 0, 1) := by decide +kernel
theorem d_tf_priceByTiers_64 : decode b_tf_priceByTiers 64 = .ok (.getfield 35, 3) := by decide +kernel
theorem d_tf_priceByTiers_67 : decode b_tf_priceByTiers 67 = .ok (.i2l, 1) := by decide +kernel
theorem d_tf_priceByTiers_68 : decode b_tf_priceByTiers 68 = .ok (.lmul, 1) := by decide +kernel
theorem d_tf_priceByTiers_69 : decode b_tf_priceByTiers 69 = .ok (.ladd, 1) := by decide +kernel
theorem d_tf_priceByTiers_70 : decode b_tf_priceByTiers 70 = .ok (.lreturn, 1) := by decide +kernel
theorem d_bf_init_0 : decode b_bf_init 0 = .ok (.aload_n 0, 1) := by decide +kernel
theorem d_bf_init_1 : decode b_bf_init 1 = .ok (.invokespecial 1, 3) := by decide +kernel
theorem d_bf_init_4 : decode b_bf_init 4 = .ok (.aload_n 0, 1) := by decide +kernel
theorem d_bf_init_5 : decode b_bf_init 5 = .ok (.new 7, 3) := by decide +kernel
theorem d_bf_init_8 : decode b_bf_init 8 = .ok (.dup, 1) := by decide +kernel
theorem d_bf_init_9 : decode b_bf_init 9 = .ok (.invokespecial 9, 3) := by decide +kernel
theorem d_bf_init_12 : decode b_bf_init 12 = .ok (.putfield 10, 3) := by decide +kernel
theorem d_bf_init_15 : decode b_bf_init 15 = .ok (.aload_n 0, 1) := by decide +kernel
theorem d_bf_init_16 : decode b_bf_init 16 = .ok (.iconst 3, 1) := by decide +kernel
theorem d_bf_init_17 : decode b_bf_init 17 = .ok (.anewarray 16, 3) := by decide +kernel
theorem d_bf_init_20 : decode b_bf_init 20 = .ok (.putfield 18, 3) := by decide +kernel
theorem d_bf_init_23 : decode b_bf_init 23 = .ok (.aload_n 0, 1) := by decide +kernel
theorem d_bf_init_24 : decode b_bf_init 24 = .ok (.iconst 5, 1) := by decide +kernel
theorem d_bf_init_25 : decode b_bf_init 25 = .ok (.anewarray 22, 3) := by decide +kernel
theorem d_bf_init_28 : decode b_bf_init 28 = .ok (.putfield 24, 3) := by decide +kernel
theorem d_bf_init_31 : decode b_bf_init 31 = .ok (.aload_n 0, 1) := by decide +kernel
theorem d_bf_init_32 : decode b_bf_init 32 = .ok (.new 28, 3) := by decide +kernel
theorem d_bf_init_35 : decode b_bf_init 35 = .ok (.dup, 1) := by decide +kernel
theorem d_bf_init_36 : decode b_bf_init 36 = .ok (.invokespecial 30, 3) := by decide +kernel
theorem d_bf_init_39 : decode b_bf_init 39 = .ok (.putfield 31, 3) := by decide +kernel
theorem d_bf_init_42 : decode b_bf_init 42 = .ok (.aload_n 0, 1) := by decide +kernel
theorem d_bf_init_43 : decode b_bf_init 43 = .ok (.new 35, 3) := by decide +kernel
theorem d_bf_init_46 : decode b_bf_init 46 = .ok (.dup, 1) := by decide +kernel
theorem d_bf_init_47 : decode b_bf_init 47 = .ok (.invokespecial 37, 3) := by decide +kernel
theorem d_bf_init_50 : decode b_bf_init 50 = .ok (.putfield 38, 3) := by decide +kernel
theorem d_bf_init_53 : decode b_bf_init 53 = .ok (.aload_n 0, 1) := by decide +kernel
theorem d_bf_init_54 : decode b_bf_init 54 = .ok (.new 42, 3) := by decide +kernel
theorem d_bf_init_57 : decode b_bf_init 57 = .ok (.dup, 1) := by decide +kernel
theorem d_bf_init_58 : decode b_bf_init 58 = .ok (.invokespecial 44, 3) := by decide +kernel
theorem d_bf_init_61 : decode b_bf_init 61 = .ok (.putfield 45, 3) := by decide +kernel
theorem d_bf_init_64 : decode b_bf_init 64 = .ok (.aload_n 0, 1) := by decide +kernel
theorem d_bf_init_65 : decode b_bf_init 65 = .ok (.bipush 15, 2) := by decide +kernel
theorem d_bf_init_67 : decode b_bf_init 67 = .ok (.newarray .int, 2) := by decide +kernel
theorem d_bf_init_69 : decode b_bf_init 69 = .ok (.putfield 49, 3) := by decide +kernel
theorem d_bf_init_72 : decode b_bf_init 72 = .ok (.aload_n 0, 1) := by decide +kernel
theorem d_bf_init_73 : decode b_bf_init 73 = .ok (.iconst 3, 1) := by decide +kernel
theorem d_bf_init_74 : decode b_bf_init 74 = .ok (.newarray .int, 2) := by decide +kernel
theorem d_bf_init_76 : decode b_bf_init 76 = .ok (.putfield 53, 3) := by decide +kernel
theorem d_bf_init_79 : decode b_bf_init 79 = .ok (.aload_n 0, 1) := by decide +kernel
theorem d_bf_init_80 : decode b_bf_init 80 = .ok (.iconst 3, 1) := by decide +kernel
theorem d_bf_init_81 : decode b_bf_init 81 = .ok (.newarray .long, 2) := by decide +kernel
theorem d_bf_init_83 : decode b_bf_init 83 = .ok (.putfield 56, 3) := by decide +kernel
theorem d_bf_init_86 : decode b_bf_init 86 = .ok (.aload_n 0, 1) := by decide +kernel
theorem d_bf_init_87 : decode b_bf_init 87 = .ok (.iconst 0, 1) := by decide +kernel
theorem d_bf_init_88 : decode b_bf_init 88 = .ok (.putfield 60, 3) := by decide +kernel
theorem d_bf_init_91 : decode b_bf_init 91 = .ok (.aload_n 0, 1) := by decide +kernel
theorem d_bf_init_92 : decode b_bf_init 92 = .ok (.lconst 0, 1) := by decide +kernel
theorem d_bf_init_93 : decode b_bf_init 93 = .ok (.putfield 64, 3) := by decide +kernel
theorem d_bf_init_96 : decode b_bf_init 96 = .ok (.iconst 0, 1) := by decide +kernel
theorem d_bf_init_97 : decode b_bf_init 97 = .ok (.istore_n 1, 1) := by decide +kernel
theorem d_bf_init_98 : decode b_bf_init 98 = .ok (.iload_n 1, 1) := by decide +kernel
theorem d_bf_init_99 : decode b_bf_init 99 = .ok (.iconst 3, 1) := by decide +kernel
theorem d_bf_init_100 : decode b_bf_init 100 = .ok (.if_icmp .ge 22, 3) := by decide +kernel
theorem d_bf_init_103 : decode b_bf_init 103 = .ok (.aload_n 0, 1) := by decide +kernel
theorem d_bf_init_104 : decode b_bf_init 104 = .ok (.getfield 18, 3) := by decide +kernel
theorem d_bf_init_107 : decode b_bf_init 107 = .ok (.iload_n 1, 1) := by decide +kernel
theorem d_bf_init_108 : decode b_bf_init 108 = .ok (.new 16, 3) := by decide +kernel
theorem d_bf_init_111 : decode b_bf_init 111 = .ok (.dup, 1) := by decide +kernel
theorem d_bf_init_112 : decode b_bf_init 112 = .ok (.invokespecial 68, 3) := by decide +kernel
theorem d_bf_init_115 : decode b_bf_init 115 = .ok (.aastore, 1) := by decide +kernel
theorem d_bf_init_116 : decode b_bf_init 116 = .ok (.iinc 1 1, 3) := by decide +kernel
theorem d_bf_init_119 : decode b_bf_init 119 = .ok (.goto (-21), 3) := by decide +kernel
theorem d_bf_init_122 : decode b_bf_init 122 = .ok (.iconst 0, 1) := by decide +kernel
theorem d_bf_init_123 : decode b_bf_init 123 = .ok (.istore_n 1, 1) := by decide +kernel
theorem d_bf_init_124 : decode b_bf_init 124 = .ok (.iload_n 1, 1) := by decide +kernel
theorem d_bf_init_125 : decode b_bf_init 125 = .ok (.iconst 5, 1) := by decide +kernel
theorem d_bf_init_126 : decode b_bf_init 126 = .ok (.if_icmp .ge 22, 3) := by decide +kernel
theorem d_bf_init_129 : decode b_bf_init 129 = .ok (.aload_n 0, 1) := by decide +kernel
theorem d_bf_init_130 : decode b_bf_init 130 = .ok (.getfield 24, 3) := by decide +kernel
theorem d_bf_init_133 : decode b_bf_init 133 = .ok (.iload_n 1, 1) := by decide +kernel
theorem d_bf_init_134 : decode b_bf_init 134 = .ok (.new 22, 3) := by decide +kernel
theorem d_bf_init_137 : decode b_bf_init 137 = .ok (.dup, 1) := by decide +kernel
theorem d_bf_init_138 : decode b_bf_init 138 = .ok (.invokespecial 69, 3) := by decide +kernel
theorem d_bf_init_141 : decode b_bf_init 141 = .ok (.aastore, 1) := by decide +kernel
theorem d_bf_init_142 : decode b_bf_init 142 = .ok (.iinc 1 1, 3) := by decide +kernel
theorem d_bf_init_145 : decode b_bf_init 145 = .ok (.goto (-21), 3) := by decide +kernel
theorem d_bf_init_148 : decode b_bf_init 148 = .ok (.iconst 0, 1) := by decide +kernel
theorem d_bf_init_149 : decode b_bf_init 149 = .ok (.istore_n 1, 1) := by decide +kernel
theorem d_bf_init_150 : decode b_bf_init 150 = .ok (.iload_n 1, 1) := by decide +kernel
theorem d_bf_init_151 : decode b_bf_init 151 = .ok (.bipush 14, 2) := by decide +kernel
theorem d_bf_init_153 : decode b_bf_init 153 = .ok (.if_icmp .gt 19, 3) := by decide +kernel
theorem d_bf_init_156 : decode b_bf_init 156 = .ok (.aload_n 0, 1) := by decide +kernel
theorem d_bf_init_157 : decode b_bf_init 157 = .ok (.getfield 49, 3) := by decide +kernel
theorem d_bf_init_160 : decode b_bf_init 160 = .ok (.iload_n 1, 1) := by decide +kernel
theorem d_bf_init_161 : decode b_bf_init 161 = .ok (.iload_n 1, 1) := by decide +kernel
theorem d_bf_init_162 : decode b_bf_init 162 = .ok (.invokestatic 70, 3) := by decide +kernel
theorem d_bf_init_165 : decode b_bf_init 165 = .ok (.iastore, 1) := by decide +kernel
theorem d_bf_init_166 : decode b_bf_init 166 = .ok (.iinc 1 1, 3) := by decide +kernel
theorem d_bf_init_169 : decode b_bf_init 169 = .ok (.goto (-19), 3) := by decide +kernel
theorem d_bf_init_172 : decode b_bf_init 172 = .ok (.return_, 1) := by decide +kernel
theorem d_bf_text_0 : decode b_bf_text 0 = .ok (.lload_n 1, 1) := by decide +kernel
theorem d_bf_text_1 : decode b_bf_text 1 = .ok (.invokestatic 76, 3) := by decide +kernel
theorem d_bf_text_4 : decode b_bf_text 4 = .ok (.istore_n 3, 1) := by decide +kernel
theorem d_bf_text_5 : decode b_bf_text 5 = .ok (.iload_n 3, 1) := by decide +kernel
theorem d_bf_text_6 : decode b_bf_text 6 = .ok (.ifCond .ge 11, 3) := by decide +kernel
theorem d_bf_text_9 : decode b_bf_text 9 = .ok (.new 80, 3) := by decide +kernel
theorem d_bf_text_12 : decode b_bf_text 12 = .ok (.dup, 1) := by decide +kernel
theorem d_bf_text_13 : decode b_bf_text 13 = .ok (.invokespecial 82, 3) := by decide +kernel
theorem d_bf_text_16 : decode b_bf_text 16 = .ok (.athrow, 1) := by decide +kernel
theorem d_bf_text_17 : decode b_bf_text 17 = .ok (.aload_n 0, 1) := by decide +kernel
theorem d_bf_text_18 : decode b_bf_text 18 = .ok (.getfield 10, 3) := by decide +kernel
theorem d_bf_text_21 : decode b_bf_text 21 = .ok (.invokevirtual 83, 3) := by decide +kernel
theorem d_bf_text_24 : decode b_bf_text 24 = .ok (.iload_n 3, 1) := by decide +kernel
theorem d_bf_text_25 : decode b_bf_text 25 = .ok (.iadd, 1) := by decide +kernel
theorem d_bf_text_26 : decode b_bf_text 26 = .ok (.bipush 60, 2) := by decide +kernel
theorem d_bf_text_28 : decode b_bf_text 28 = .ok (.if_icmp .le 11, 3) := by decide +kernel
theorem d_bf_text_31 : decode b_bf_text 31 = .ok (.new 87, 3) := by decide +kernel
theorem d_bf_text_34 : decode b_bf_text 34 = .ok (.dup, 1) := by decide +kernel
theorem d_bf_text_35 : decode b_bf_text 35 = .ok (.invokespecial 89, 3) := by decide +kernel
theorem d_bf_text_38 : decode b_bf_text 38 = .ok (.athrow, 1) := by decide +kernel
theorem d_bf_text_39 : decode b_bf_text 39 = .ok (.aload_n 0, 1) := by decide +kernel
theorem d_bf_text_40 : decode b_bf_text 40 = .ok (.getfield 10, 3) := by decide +kernel
theorem d_bf_text_43 : decode b_bf_text 43 = .ok (.lload_n 1, 1) := by decide +kernel
theorem d_bf_text_44 : decode b_bf_text 44 = .ok (.invokevirtual 90, 3) := by decide +kernel
theorem d_bf_text_47 : decode b_bf_text 47 = .ok (.aload_n 0, 1) := by decide +kernel
theorem d_bf_text_48 : decode b_bf_text 48 = .ok (.getfield 10, 3) := by decide +kernel
theorem d_bf_text_51 : decode b_bf_text 51 = .ok (.invokevirtual 83, 3) := by decide +kernel
theorem d_bf_text_54 : decode b_bf_text 54 = .ok (.ireturn, 1) := by decide +kernel
theorem d_bf_tariff_0 : decode b_bf_tariff 0 = .ok (.iload_n 1, 1) := by decide +kernel
theorem d_bf_tariff_1 : decode b_bf_tariff 1 = .ok (.invokestatic 94, 3) := by decide +kernel
theorem d_bf_tariff_4 : decode b_bf_tariff 4 = .ok (.ifCond .ne 18, 3) := by decide +kernel
theorem d_bf_tariff_7 : decode b_bf_tariff 7 = .ok (.aload_n 0, 1) := by decide +kernel
theorem d_bf_tariff_8 : decode b_bf_tariff 8 = .ok (.getfield 10, 3) := by decide +kernel
theorem d_bf_tariff_11 : decode b_bf_tariff 11 = .ok (.invokevirtual 98, 3) := by decide +kernel
theorem d_bf_tariff_14 : decode b_bf_tariff 14 = .ok (.new 80, 3) := by decide +kernel
theorem d_bf_tariff_17 : decode b_bf_tariff 17 = .ok (.dup, 1) := by decide +kernel
theorem d_bf_tariff_18 : decode b_bf_tariff 18 = .ok (.invokespecial 82, 3) := by decide +kernel
theorem d_bf_tariff_21 : decode b_bf_tariff 21 = .ok (.athrow, 1) := by decide +kernel
theorem d_bf_tariff_22 : decode b_bf_tariff 22 = .ok (.aload_n 0, 1) := by decide +kernel
theorem d_bf_tariff_23 : decode b_bf_tariff 23 = .ok (.getfield 10, 3) := by decide +kernel
theorem d_bf_tariff_26 : decode b_bf_tariff 26 = .ok (.invokevirtual 101, 3) := by decide +kernel
theorem d_bf_tariff_29 : decode b_bf_tariff 29 = .ok (.ifCond .ne 11, 3) := by decide +kernel
theorem d_bf_tariff_32 : decode b_bf_tariff 32 = .ok (.new 80, 3) := by decide +kernel
theorem d_bf_tariff_35 : decode b_bf_tariff 35 = .ok (.dup, 1) := by decide +kernel
theorem d_bf_tariff_36 : decode b_bf_tariff 36 = .ok (.invokespecial 82, 3) := by decide +kernel
theorem d_bf_tariff_39 : decode b_bf_tariff 39 = .ok (.athrow, 1) := by decide +kernel
theorem d_bf_tariff_40 : decode b_bf_tariff 40 = .ok (.aload_n 0, 1) := by decide +kernel
theorem d_bf_tariff_41 : decode b_bf_tariff 41 = .ok (.getfield 18, 3) := by decide +kernel
theorem d_bf_tariff_44 : decode b_bf_tariff 44 = .ok (.iload_n 1, 1) := by decide +kernel
theorem d_bf_tariff_45 : decode b_bf_tariff 45 = .ok (.aaload, 1) := by decide +kernel
theorem d_bf_tariff_46 : decode b_bf_tariff 46 = .ok (.aload_n 0, 1) := by decide +kernel
theorem d_bf_tariff_47 : decode b_bf_tariff 47 = .ok (.getfield 10, 3) := by decide +kernel
theorem d_bf_tariff_50 : decode b_bf_tariff 50 = .ok (.invokevirtual 105, 3) := by decide +kernel
theorem d_bf_tariff_53 : decode b_bf_tariff 53 = .ok (.invokevirtual 109, 3) := by decide +kernel
theorem d_bf_tariff_56 : decode b_bf_tariff 56 = .ok (.aload_n 0, 1) := by decide +kernel
theorem d_bf_tariff_57 : decode b_bf_tariff 57 = .ok (.getfield 10, 3) := by decide +kernel
theorem d_bf_tariff_60 : decode b_bf_tariff 60 = .ok (.invokevirtual 113, 3) := by decide +kernel
theorem d_bf_tariff_63 : decode b_bf_tariff 63 = .ok (.aload_n 0, 1) := by decide +kernel
theorem d_bf_tariff_64 : decode b_bf_tariff 64 = .ok (.getfield 10, 3) := by decide +kernel
theorem d_bf_tariff_67 : decode b_bf_tariff 67 = .ok (.invokevirtual 116, 3) := by decide +kernel
theorem d_bf_tariff_70 : decode b_bf_tariff 70 = .ok (.ireturn, 1) := by decide +kernel
theorem d_bf_where_0 : decode b_bf_where 0 = .ok (.aload_n 0, 1) := by decide +kernel
theorem d_bf_where_1 : decode b_bf_where 1 = .ok (.getfield 10, 3) := by decide +kernel
theorem d_bf_where_4 : decode b_bf_where 4 = .ok (.invokevirtual 119, 3) := by decide +kernel
theorem d_bf_where_7 : decode b_bf_where 7 = .ok (.ireturn, 1) := by decide +kernel
theorem d_bf_use_0 : decode b_bf_use 0 = .ok (.iload_n 1, 1) := by decide +kernel
theorem d_bf_use_1 : decode b_bf_use 1 = .ok (.invokestatic 94, 3) := by decide +kernel
theorem d_bf_use_4 : decode b_bf_use 4 = .ok (.ifCond .eq 13, 3) := by decide +kernel
theorem d_bf_use_7 : decode b_bf_use 7 = .ok (.iload_n 2, 1) := by decide +kernel
theorem d_bf_use_8 : decode b_bf_use 8 = .ok (.ifCond .lt 9, 3) := by decide +kernel
theorem d_bf_use_11 : decode b_bf_use 11 = .ok (.iload_n 2, 1) := by decide +kernel
theorem d_bf_use_12 : decode b_bf_use 12 = .ok (.ldc 122, 2) := by decide +kernel
theorem d_bf_use_14 : decode b_bf_use 14 = .ok (.if_icmp .le 11, 3) := by decide +kernel
theorem d_bf_use_17 : decode b_bf_use 17 = .ok (.new 80, 3) := by decide +kernel
theorem d_bf_use_20 : decode b_bf_use 20 = .ok (.dup, 1) := by decide +kernel
theorem d_bf_use_21 : decode b_bf_use 21 = .ok (.invokespecial 82, 3) := by decide +kernel
theorem d_bf_use_24 : decode b_bf_use 24 = .ok (.athrow, 1) := by decide +kernel
theorem d_bf_use_25 : decode b_bf_use 25 = .ok (.aload_n 0, 1) := by decide +kernel
theorem d_bf_use_26 : decode b_bf_use 26 = .ok (.getfield 18, 3) := by decide +kernel
theorem d_bf_use_29 : decode b_bf_use 29 = .ok (.iload_n 1, 1) := by decide +kernel
theorem d_bf_use_30 : decode b_bf_use 30 = .ok (.aaload, 1) := by decide +kernel
theorem d_bf_use_31 : decode b_bf_use 31 = .ok (.iload_n 2, 1) := by decide +kernel
theorem d_bf_use_32 : decode b_bf_use 32 = .ok (.i2l, 1) := by decide +kernel
theorem d_bf_use_33 : decode b_bf_use 33 = .ok (.iconst 1, 1) := by decide +kernel
theorem d_bf_use_34 : decode b_bf_use 34 = .ok (.iconst 1, 1) := by decide +kernel
theorem d_bf_use_35 : decode b_bf_use 35 = .ok (.invokevirtual 123, 3) := by decide +kernel
theorem d_bf_use_38 : decode b_bf_use 38 = .ok (.lreturn, 1) := by decide +kernel
theorem d_bf_subscribe_0 : decode b_bf_subscribe 0 = .ok (.iload_n 1, 1) := by decide +kernel
theorem d_bf_subscribe_1 : decode b_bf_subscribe 1 = .ok (.invokestatic 127, 3) := by decide +kernel
theorem d_bf_subscribe_4 : decode b_bf_subscribe 4 = .ok (.ifCond .eq 15, 3) := by decide +kernel
theorem d_bf_subscribe_7 : decode b_bf_subscribe 7 = .ok (.iload_n 2, 1) := by decide +kernel
theorem d_bf_subscribe_8 : decode b_bf_subscribe 8 = .ok (.iconst (-1), 1) := by decide +kernel
theorem d_bf_subscribe_9 : decode b_bf_subscribe 9 = .ok (.if_icmp .eq 18, 3) := by decide +kernel
theorem d_bf_subscribe_12 : decode b_bf_subscribe 12 = .ok (.iload_n 2, 1) := by decide +kernel
theorem d_bf_subscribe_13 : decode b_bf_subscribe 13 = .ok (.invokestatic 94, 3) := by decide +kernel
theorem d_bf_subscribe_16 : decode b_bf_subscribe 16 = .ok (.ifCond .ne 11, 3) := by decide +kernel
theorem d_bf_subscribe_19 : decode b_bf_subscribe 19 = .ok (.new 80, 3) := by decide +kernel
theorem d_bf_subscribe_22 : decode b_bf_subscribe 22 = .ok (.dup, 1) := by decide +kernel
theorem d_bf_subscribe_23 : decode b_bf_subscribe 23 = .ok (.invokespecial 82, 3) := by decide +kernel
theorem d_bf_subscribe_26 : decode b_bf_subscribe 26 = .ok (.athrow, 1) := by decide +kernel
theorem d_bf_subscribe_27 : decode b_bf_subscribe 27 = .ok (.aload_n 0, 1) := by decide +kernel
theorem d_bf_subscribe_28 : decode b_bf_subscribe 28 = .ok (.getfield 24, 3) := by decide +kernel
theorem d_bf_subscribe_31 : decode b_bf_subscribe 31 = .ok (.iload_n 1, 1) := by decide +kernel
theorem d_bf_subscribe_32 : decode b_bf_subscribe 32 = .ok (.aaload, 1) := by decide +kernel
theorem d_bf_subscribe_33 : decode b_bf_subscribe 33 = .ok (.invokevirtual 130, 3) := by decide +kernel
theorem d_bf_subscribe_36 : decode b_bf_subscribe 36 = .ok (.istore_n 3, 1) := by decide +kernel
theorem d_bf_subscribe_37 : decode b_bf_subscribe 37 = .ok (.aload_n 0, 1) := by decide +kernel
theorem d_bf_subscribe_38 : decode b_bf_subscribe 38 = .ok (.getfield 24, 3) := by decide +kernel
theorem d_bf_subscribe_41 : decode b_bf_subscribe 41 = .ok (.iload_n 1, 1) := by decide +kernel
theorem d_bf_subscribe_42 : decode b_bf_subscribe 42 = .ok (.aaload, 1) := by decide +kernel
theorem d_bf_subscribe_43 : decode b_bf_subscribe 43 = .ok (.iload_n 2, 1) := by decide +kernel
theorem d_bf_subscribe_44 : decode b_bf_subscribe 44 = .ok (.invokevirtual 133, 3) := by decide +kernel
theorem d_bf_subscribe_47 : decode b_bf_subscribe 47 = .ok (.iload_n 3, 1) := by decide +kernel
theorem d_bf_subscribe_48 : decode b_bf_subscribe 48 = .ok (.ireturn, 1) := by decide +kernel
theorem d_bf_pause_0 : decode b_bf_pause 0 = .ok (.iload_n 1, 1) := by decide +kernel
theorem d_bf_pause_1 : decode b_bf_pause 1 = .ok (.invokestatic 127, 3) := by decide +kernel
theorem d_bf_pause_4 : decode b_bf_pause 4 = .ok (.ifCond .ne 11, 3) := by decide +kernel
theorem d_bf_pause_7 : decode b_bf_pause 7 = .ok (.new 80, 3) := by decide +kernel
theorem d_bf_pause_10 : decode b_bf_pause 10 = .ok (.dup, 1) := by decide +kernel
theorem d_bf_pause_11 : decode b_bf_pause 11 = .ok (.invokespecial 82, 3) := by decide +kernel
theorem d_bf_pause_14 : decode b_bf_pause 14 = .ok (.athrow, 1) := by decide +kernel
theorem d_bf_pause_15 : decode b_bf_pause 15 = .ok (.aload_n 0, 1) := by decide +kernel
theorem d_bf_pause_16 : decode b_bf_pause 16 = .ok (.getfield 24, 3) := by decide +kernel
theorem d_bf_pause_19 : decode b_bf_pause 19 = .ok (.iload_n 1, 1) := by decide +kernel
theorem d_bf_pause_20 : decode b_bf_pause 20 = .ok (.aaload, 1) := by decide +kernel
theorem d_bf_pause_21 : decode b_bf_pause 21 = .ok (.astore_n 3, 1) := by decide +kernel
theorem d_bf_pause_22 : decode b_bf_pause 22 = .ok (.aload_n 3, 1) := by decide +kernel
theorem d_bf_pause_23 : decode b_bf_pause 23 = .ok (.invokevirtual 130, 3) := by decide +kernel
theorem d_bf_pause_26 : decode b_bf_pause 26 = .ok (.iconst (-1), 1) := by decide +kernel
theorem d_bf_pause_27 : decode b_bf_pause 27 = .ok (.if_icmp .eq 14, 3) := by decide +kernel
theorem d_bf_pause_30 : decode b_bf_pause 30 = .ok (.iload_n 2, 1) := by decide +kernel
theorem d_bf_pause_31 : decode b_bf_pause 31 = .ok (.ifCond .ne 18, 3) := by decide +kernel
theorem d_bf_pause_34 : decode b_bf_pause 34 = .ok (.aload_n 3, 1) := by decide +kernel
theorem d_bf_pause_35 : decode b_bf_pause 35 = .ok (.invokevirtual 137, 3) := by decide +kernel
theorem d_bf_pause_38 : decode b_bf_pause 38 = .ok (.ifCond .eq 11, 3) := by decide +kernel
theorem d_bf_pause_41 : decode b_bf_pause 41 = .ok (.new 87, 3) := by decide +kernel
theorem d_bf_pause_44 : decode b_bf_pause 44 = .ok (.dup, 1) := by decide +kernel
theorem d_bf_pause_45 : decode b_bf_pause 45 = .ok (.invokespecial 89, 3) := by decide +kernel
theorem d_bf_pause_48 : decode b_bf_pause 48 = .ok (.athrow, 1) := by decide +kernel
theorem d_bf_pause_49 : decode b_bf_pause 49 = .ok (.aload_n 3, 1) := by decide +kernel
theorem d_bf_pause_50 : decode b_bf_pause 50 = .ok (.invokevirtual 140, 3) := by decide +kernel
theorem d_bf_pause_53 : decode b_bf_pause 53 = .ok (.iload_n 2, 1) := by decide +kernel
theorem d_bf_pause_54 : decode b_bf_pause 54 = .ok (.if_icmp .eq 7, 3) := by decide +kernel
theorem d_bf_pause_57 : decode b_bf_pause 57 = .ok (.iconst 1, 1) := by decide +kernel
theorem d_bf_pause_58 : decode b_bf_pause 58 = .ok (.goto 4, 3) := by decide +kernel
theorem d_bf_pause_61 : decode b_bf_pause 61 = .ok (.iconst 0, 1) := by decide +kernel
theorem d_bf_pause_62 : decode b_bf_pause 62 = .ok (.istore 4, 2) := by decide +kernel
theorem d_bf_pause_64 : decode b_bf_pause 64 = .ok (.aload_n 3, 1) := by decide +kernel
theorem d_bf_pause_65 : decode b_bf_pause 65 = .ok (.iload_n 2, 1) := by decide +kernel
theorem d_bf_pause_66 : decode b_bf_pause 66 = .ok (.invokevirtual 143, 3) := by decide +kernel
theorem d_bf_pause_69 : decode b_bf_pause 69 = .ok (.iload 4, 2) := by decide +kernel
theorem d_bf_pause_71 : decode b_bf_pause 71 = .ok (.ireturn, 1) := by decide +kernel
theorem d_bf_event_0 : decode b_bf_event 0 = .ok (.iload_n 2, 1) := by decide +kernel
theorem d_bf_event_1 : decode b_bf_event 1 = .ok (.invokestatic 127, 3) := by decide +kernel
theorem d_bf_event_4 : decode b_bf_event 4 = .ok (.ifCond .eq 17, 3) := by decide +kernel
theorem d_bf_event_7 : decode b_bf_event 7 = .ok (.iload 4, 2) := by decide +kernel
theorem d_bf_event_9 : decode b_bf_event 9 = .ok (.iconst 1, 1) := by decide +kernel
theorem d_bf_event_10 : decode b_bf_event 10 = .ok (.if_icmp .lt 11, 3) := by decide +kernel
theorem d_bf_event_13 : decode b_bf_event 13 = .ok (.iload 4, 2) := by decide +kernel
theorem d_bf_event_15 : decode b_bf_event 15 = .ok (.sipush 10000, 3) := by decide +kernel
theorem d_bf_event_18 : decode b_bf_event 18 = .ok (.if_icmp .le 11, 3) := by decide +kernel
theorem d_bf_event_21 : decode b_bf_event 21 = .ok (.new 80, 3) := by decide +kernel
theorem d_bf_event_24 : decode b_bf_event 24 = .ok (.dup, 1) := by decide +kernel
theorem d_bf_event_25 : decode b_bf_event 25 = .ok (.invokespecial 82, 3) := by decide +kernel
theorem d_bf_event_28 : decode b_bf_event 28 = .ok (.athrow, 1) := by decide +kernel
theorem d_bf_event_29 : decode b_bf_event 29 = .ok (.iload_n 3, 1) := by decide +kernel
theorem d_bf_event_30 : decode b_bf_event 30 = .ok (.ifCond .lt 22, 3) := by decide +kernel
theorem d_bf_event_33 : decode b_bf_event 33 = .ok (.iload_n 3, 1) := by decide +kernel
theorem d_bf_event_34 : decode b_bf_event 34 = .ok (.aload_n 0, 1) := by decide +kernel
theorem d_bf_event_35 : decode b_bf_event 35 = .ok (.getfield 60, 3) := by decide +kernel
theorem d_bf_event_38 : decode b_bf_event 38 = .ok (.if_icmp .gt 14, 3) := by decide +kernel
theorem d_bf_event_41 : decode b_bf_event 41 = .ok (.iload_n 3, 1) := by decide +kernel
theorem d_bf_event_42 : decode b_bf_event 42 = .ok (.aload_n 0, 1) := by decide +kernel
theorem d_bf_event_43 : decode b_bf_event 43 = .ok (.getfield 60, 3) := by decide +kernel
theorem d_bf_event_46 : decode b_bf_event 46 = .ok (.bipush 45, 2) := by decide +kernel
theorem d_bf_event_48 : decode b_bf_event 48 = .ok (.isub, 1) := by decide +kernel
theorem d_bf_event_49 : decode b_bf_event 49 = .ok (.if_icmp .ge 11, 3) := by decide +kernel
theorem d_bf_event_52 : decode b_bf_event 52 = .ok (.new 147, 3) := by decide +kernel
theorem d_bf_event_55 : decode b_bf_event 55 = .ok (.dup, 1) := by decide +kernel
theorem d_bf_event_56 : decode b_bf_event 56 = .ok (.invokespecial 149, 3) := by decide +kernel
theorem d_bf_event_59 : decode b_bf_event 59 = .ok (.athrow, 1) := by decide +kernel
theorem d_bf_event_60 : decode b_bf_event 60 = .ok (.aload_n 0, 1) := by decide +kernel
theorem d_bf_event_61 : decode b_bf_event 61 = .ok (.getfield 31, 3) := by decide +kernel
theorem d_bf_event_64 : decode b_bf_event 64 = .ok (.iload_n 1, 1) := by decide +kernel
theorem d_bf_event_65 : decode b_bf_event 65 = .ok (.invokevirtual 150, 3) := by decide +kernel
theorem d_bf_event_68 : decode b_bf_event 68 = .ok (.ifCond .eq 5, 3) := by decide +kernel
theorem d_bf_event_71 : decode b_bf_event 71 = .ok (.iconst 0, 1) := by decide +kernel
theorem d_bf_event_72 : decode b_bf_event 72 = .ok (.ireturn, 1) := by decide +kernel
theorem d_bf_event_73 : decode b_bf_event 73 = .ok (.aload_n 0, 1) := by decide +kernel
theorem d_bf_event_74 : decode b_bf_event 74 = .ok (.getfield 31, 3) := by decide +kernel
theorem d_bf_event_77 : decode b_bf_event 77 = .ok (.invokevirtual 153, 3) := by decide +kernel
theorem d_bf_event_80 : decode b_bf_event 80 = .ok (.ifCond .eq 11, 3) := by decide +kernel
theorem d_bf_event_83 : decode b_bf_event 83 = .ok (.new 87, 3) := by decide +kernel
theorem d_bf_event_86 : decode b_bf_event 86 = .ok (.dup, 1) := by decide +kernel
theorem d_bf_event_87 : decode b_bf_event 87 = .ok (.invokespecial 89, 3) := by decide +kernel
theorem d_bf_event_90 : decode b_bf_event 90 = .ok (.athrow, 1) := by decide +kernel
theorem d_bf_event_91 : decode b_bf_event 91 = .ok (.aload_n 0, 1) := by decide +kernel
theorem d_bf_event_92 : decode b_bf_event 92 = .ok (.getfield 31, 3) := by decide +kernel
theorem d_bf_event_95 : decode b_bf_event 95 = .ok (.iload_n 1, 1) := by decide +kernel
theorem d_bf_event_96 : decode b_bf_event 96 = .ok (.iload_n 2, 1) := by decide +kernel
theorem d_bf_event_97 : decode b_bf_event 97 = .ok (.iload_n 3, 1) := by decide +kernel
theorem d_bf_event_98 : decode b_bf_event 98 = .ok (.iload 4, 2) := by decide +kernel
theorem d_bf_event_100 : decode b_bf_event 100 = .ok (.invokevirtual 156, 3) := by decide +kernel
theorem d_bf_event_103 : decode b_bf_event 103 = .ok (.aload_n 0, 1) := by decide +kernel
theorem d_bf_event_104 : decode b_bf_event 104 = .ok (.getfield 31, 3) := by decide +kernel
theorem d_bf_event_107 : decode b_bf_event 107 = .ok (.invokevirtual 160, 3) := by decide +kernel
theorem d_bf_event_110 : decode b_bf_event 110 = .ok (.ireturn, 1) := by decide +kernel
theorem d_bf_tick_0 : decode b_bf_tick 0 = .ok (.iload_n 1, 1) := by decide +kernel
theorem d_bf_tick_1 : decode b_bf_tick 1 = .ok (.iconst 1, 1) := by decide +kernel
theorem d_bf_tick_2 : decode b_bf_tick 2 = .ok (.if_icmp .lt 9, 3) := by decide +kernel
theorem d_bf_tick_5 : decode b_bf_tick 5 = .ok (.iload_n 1, 1) := by decide +kernel
theorem d_bf_tick_6 : decode b_bf_tick 6 = .ok (.bipush 40, 2) := by decide +kernel
theorem d_bf_tick_8 : decode b_bf_tick 8 = .ok (.if_icmp .le 11, 3) := by decide +kernel
theorem d_bf_tick_11 : decode b_bf_tick 11 = .ok (.new 80, 3) := by decide +kernel
theorem d_bf_tick_14 : decode b_bf_tick 14 = .ok (.dup, 1) := by decide +kernel
theorem d_bf_tick_15 : decode b_bf_tick 15 = .ok (.invokespecial 82, 3) := by decide +kernel
theorem d_bf_tick_18 : decode b_bf_tick 18 = .ok (.athrow, 1) := by decide +kernel
theorem d_bf_tick_19 : decode b_bf_tick 19 = .ok (.aload_n 0, 1) := by decide +kernel
theorem d_bf_tick_20 : decode b_bf_tick 20 = .ok (.getfield 60, 3) := by decide +kernel
theorem d_bf_tick_23 : decode b_bf_tick 23 = .ok (.iload_n 1, 1) := by decide +kernel
theorem d_bf_tick_24 : decode b_bf_tick 24 = .ok (.iadd, 1) := by decide +kernel
theorem d_bf_tick_25 : decode b_bf_tick 25 = .ok (.sipush 400, 3) := by decide +kernel
theorem d_bf_tick_28 : decode b_bf_tick 28 = .ok (.if_icmp .le 11, 3) := by decide +kernel
theorem d_bf_tick_31 : decode b_bf_tick 31 = .ok (.new 87, 3) := by decide +kernel
theorem d_bf_tick_34 : decode b_bf_tick 34 = .ok (.dup, 1) := by decide +kernel
theorem d_bf_tick_35 : decode b_bf_tick 35 = .ok (.invokespecial 89, 3) := by decide +kernel
theorem d_bf_tick_38 : decode b_bf_tick 38 = .ok (.athrow, 1) := by decide +kernel
theorem d_bf_tick_39 : decode b_bf_tick 39 = .ok (.iconst 0, 1) := by decide +kernel
theorem d_bf_tick_40 : decode b_bf_tick 40 = .ok (.istore_n 2, 1) := by decide +kernel
theorem d_bf_tick_41 : decode b_bf_tick 41 = .ok (.iload_n 2, 1) := by decide +kernel
theorem d_bf_tick_42 : decode b_bf_tick 42 = .ok (.iload_n 1, 1) := by decide +kernel
theorem d_bf_tick_43 : decode b_bf_tick 43 = .ok (.if_icmp .ge 13, 3) := by decide +kernel
theorem d_bf_tick_46 : decode b_bf_tick 46 = .ok (.aload_n 0, 1) := by decide +kernel
theorem d_bf_tick_47 : decode b_bf_tick 47 = .ok (.invokevirtual 163, 3) := by decide +kernel
theorem d_bf_tick_50 : decode b_bf_tick 50 = .ok (.iinc 2 1, 3) := by decide +kernel
theorem d_bf_tick_53 : decode b_bf_tick 53 = .ok (.goto (-12), 3) := by decide +kernel
theorem d_bf_tick_56 : decode b_bf_tick 56 = .ok (.aload_n 0, 1) := by decide +kernel
theorem d_bf_tick_57 : decode b_bf_tick 57 = .ok (.getfield 60, 3) := by decide +kernel
theorem d_bf_tick_60 : decode b_bf_tick 60 = .ok (.ireturn, 1) := by decide +kernel
theorem d_bf_run_0 : decode b_bf_run 0 = .ok (.aload_n 0, 1) := by decide +kernel
theorem d_bf_run_1 : decode b_bf_run 1 = .ok (.getfield 38, 3) := by decide +kernel
theorem d_bf_run_4 : decode b_bf_run 4 = .ok (.invokevirtual 166, 3) := by decide +kernel
theorem d_bf_run_7 : decode b_bf_run 7 = .ok (.istore_n 1, 1) := by decide +kernel
theorem d_bf_run_8 : decode b_bf_run 8 = .ok (.iconst 0, 1) := by decide +kernel
theorem d_bf_run_9 : decode b_bf_run 9 = .ok (.istore_n 2, 1) := by decide +kernel
theorem d_bf_run_10 : decode b_bf_run 10 = .ok (.iload_n 2, 1) := by decide +kernel
theorem d_bf_run_11 : decode b_bf_run 11 = .ok (.iconst 5, 1) := by decide +kernel
theorem d_bf_run_12 : decode b_bf_run 12 = .ok (.if_icmp .ge 44, 3) := by decide +kernel
theorem d_bf_run_15 : decode b_bf_run 15 = .ok (.iconst 0, 1) := by decide +kernel
theorem d_bf_run_16 : decode b_bf_run 16 = .ok (.istore_n 3, 1) := by decide +kernel
theorem d_bf_run_17 : decode b_bf_run 17 = .ok (.iload_n 3, 1) := by decide +kernel
theorem d_bf_run_18 : decode b_bf_run 18 = .ok (.bipush 14, 2) := by decide +kernel
theorem d_bf_run_20 : decode b_bf_run 20 = .ok (.if_icmp .ge 30, 3) := by decide +kernel
theorem d_bf_run_23 : decode b_bf_run 23 = .ok (.aload_n 0, 1) := by decide +kernel
theorem d_bf_run_24 : decode b_bf_run 24 = .ok (.getfield 49, 3) := by decide +kernel
theorem d_bf_run_27 : decode b_bf_run 27 = .ok (.iload_n 3, 1) := by decide +kernel
theorem d_bf_run_28 : decode b_bf_run 28 = .ok (.iconst 1, 1) := by decide +kernel
theorem d_bf_run_29 : decode b_bf_run 29 = .ok (.iadd, 1) := by decide +kernel
theorem d_bf_run_30 : decode b_bf_run 30 = .ok (.iaload, 1) := by decide +kernel
theorem d_bf_run_31 : decode b_bf_run 31 = .ok (.aload_n 0, 1) := by decide +kernel
theorem d_bf_run_32 : decode b_bf_run 32 = .ok (.getfield 60, 3) := by decide +kernel
theorem d_bf_run_35 : decode b_bf_run 35 = .ok (.if_icmp .gt 15, 3) := by decide +kernel
theorem d_bf_run_38 : decode b_bf_run 38 = .ok (.aload_n 0, 1) := by decide +kernel
theorem d_bf_run_39 : decode b_bf_run 39 = .ok (.iload_n 2, 1) := by decide +kernel
theorem d_bf_run_40 : decode b_bf_run 40 = .ok (.iload_n 3, 1) := by decide +kernel
theorem d_bf_run_41 : decode b_bf_run 41 = .ok (.invokevirtual 167, 3) := by decide +kernel
theorem d_bf_run_44 : decode b_bf_run 44 = .ok (.iinc 3 1, 3) := by decide +kernel
theorem d_bf_run_47 : decode b_bf_run 47 = .ok (.goto (-30), 3) := by decide +kernel
theorem d_bf_run_50 : decode b_bf_run 50 = .ok (.iinc 2 1, 3) := by decide +kernel
theorem d_bf_run_53 : decode b_bf_run 53 = .ok (.goto (-43), 3) := by decide +kernel
theorem d_bf_run_56 : decode b_bf_run 56 = .ok (.aload_n 0, 1) := by decide +kernel
theorem d_bf_run_57 : decode b_bf_run 57 = .ok (.getfield 38, 3) := by decide +kernel
theorem d_bf_run_60 : decode b_bf_run 60 = .ok (.invokevirtual 166, 3) := by decide +kernel
theorem d_bf_run_63 : decode b_bf_run 63 = .ok (.iload_n 1, 1) := by decide +kernel
theorem d_bf_run_64 : decode b_bf_run 64 = .ok (.isub, 1) := by decide +kernel
theorem d_bf_run_65 : decode b_bf_run 65 = .ok (.ireturn, 1) := by decide +kernel
theorem d_bf_pay_0 : decode b_bf_pay 0 = .ok (.iload_n 1, 1) := by decide +kernel
theorem d_bf_pay_1 : decode b_bf_pay 1 = .ok (.invokestatic 127, 3) := by decide +kernel
theorem d_bf_pay_4 : decode b_bf_pay 4 = .ok (.ifCond .eq 10, 3) := by decide +kernel
theorem d_bf_pay_7 : decode b_bf_pay 7 = .ok (.lload_n 2, 1) := by decide +kernel
theorem d_bf_pay_8 : decode b_bf_pay 8 = .ok (.invokestatic 171, 3) := by decide +kernel
theorem d_bf_pay_11 : decode b_bf_pay 11 = .ok (.ifCond .ne 11, 3) := by decide +kernel
theorem d_bf_pay_14 : decode b_bf_pay 14 = .ok (.new 80, 3) := by decide +kernel
theorem d_bf_pay_17 : decode b_bf_pay 17 = .ok (.dup, 1) := by decide +kernel
theorem d_bf_pay_18 : decode b_bf_pay 18 = .ok (.invokespecial 82, 3) := by decide +kernel
theorem d_bf_pay_21 : decode b_bf_pay 21 = .ok (.athrow, 1) := by decide +kernel
theorem d_bf_pay_22 : decode b_bf_pay 22 = .ok (.aload_n 0, 1) := by decide +kernel
theorem d_bf_pay_23 : decode b_bf_pay 23 = .ok (.getfield 24, 3) := by decide +kernel
theorem d_bf_pay_26 : decode b_bf_pay 26 = .ok (.iload_n 1, 1) := by decide +kernel
theorem d_bf_pay_27 : decode b_bf_pay 27 = .ok (.aaload, 1) := by decide +kernel
theorem d_bf_pay_28 : decode b_bf_pay 28 = .ok (.invokevirtual 175, 3) := by decide +kernel
theorem d_bf_pay_31 : decode b_bf_pay 31 = .ok (.lstore 4, 2) := by decide +kernel
theorem d_bf_pay_33 : decode b_bf_pay 33 = .ok (.aload_n 0, 1) := by decide +kernel
theorem d_bf_pay_34 : decode b_bf_pay 34 = .ok (.dup, 1) := by decide +kernel
theorem d_bf_pay_35 : decode b_bf_pay 35 = .ok (.getfield 64, 3) := by decide +kernel
theorem d_bf_pay_38 : decode b_bf_pay 38 = .ok (.lload_n 2, 1) := by decide +kernel
theorem d_bf_pay_39 : decode b_bf_pay 39 = .ok (.ladd, 1) := by decide +kernel
theorem d_bf_pay_40 : decode b_bf_pay 40 = .ok (.putfield 64, 3) := by decide +kernel
theorem d_bf_pay_43 : decode b_bf_pay 43 = .ok (.aload_n 0, 1) := by decide +kernel
theorem d_bf_pay_44 : decode b_bf_pay 44 = .ok (.getfield 24, 3) := by decide +kernel
theorem d_bf_pay_47 : decode b_bf_pay 47 = .ok (.iload_n 1, 1) := by decide +kernel
theorem d_bf_pay_48 : decode b_bf_pay 48 = .ok (.aaload, 1) := by decide +kernel
theorem d_bf_pay_49 : decode b_bf_pay 49 = .ok (.lload_n 2, 1) := by decide +kernel
theorem d_bf_pay_50 : decode b_bf_pay 50 = .ok (.invokevirtual 179, 3) := by decide +kernel
theorem d_bf_pay_53 : decode b_bf_pay 53 = .ok (.aload_n 0, 1) := by decide +kernel
theorem d_bf_pay_54 : decode b_bf_pay 54 = .ok (.iload_n 1, 1) := by decide +kernel
theorem d_bf_pay_55 : decode b_bf_pay 55 = .ok (.invokevirtual 182, 3) := by decide +kernel
theorem d_bf_pay_58 : decode b_bf_pay 58 = .ok (.aload_n 0, 1) := by decide +kernel
theorem d_bf_pay_59 : decode b_bf_pay 59 = .ok (.getfield 24, 3) := by decide +kernel
theorem d_bf_pay_62 : decode b_bf_pay 62 = .ok (.iload_n 1, 1) := by decide +kernel
theorem d_bf_pay_63 : decode b_bf_pay 63 = .ok (.aaload, 1) := by decide +kernel
theorem d_bf_pay_64 : decode b_bf_pay 64 = .ok (.invokevirtual 175, 3) := by decide +kernel
theorem d_bf_pay_67 : decode b_bf_pay 67 = .ok (.lload 4, 2) := by decide +kernel
theorem d_bf_pay_69 : decode b_bf_pay 69 = .ok (.lsub, 1) := by decide +kernel
theorem d_bf_pay_70 : decode b_bf_pay 70 = .ok (.lreturn, 1) := by decide +kernel
theorem d_bf_plan_0 : decode b_bf_plan 0 = .ok (.iload_n 1, 1) := by decide +kernel
theorem d_bf_plan_1 : decode b_bf_plan 1 = .ok (.invokestatic 127, 3) := by decide +kernel
theorem d_bf_plan_4 : decode b_bf_plan 4 = .ok (.ifCond .eq 24, 3) := by decide +kernel
theorem d_bf_plan_7 : decode b_bf_plan 7 = .ok (.lload_n 2, 1) := by decide +kernel
theorem d_bf_plan_8 : decode b_bf_plan 8 = .ok (.invokestatic 171, 3) := by decide +kernel
theorem d_bf_plan_11 : decode b_bf_plan 11 = .ok (.ifCond .eq 17, 3) := by decide +kernel
theorem d_bf_plan_14 : decode b_bf_plan 14 = .ok (.iload 4, 2) := by decide +kernel
theorem d_bf_plan_16 : decode b_bf_plan 16 = .ok (.iconst 1, 1) := by decide +kernel
theorem d_bf_plan_17 : decode b_bf_plan 17 = .ok (.if_icmp .lt 11, 3) := by decide +kernel
theorem d_bf_plan_20 : decode b_bf_plan 20 = .ok (.iload 4, 2) := by decide +kernel
theorem d_bf_plan_22 : decode b_bf_plan 22 = .ok (.sipush 400, 3) := by decide +kernel
theorem d_bf_plan_25 : decode b_bf_plan 25 = .ok (.if_icmp .le 11, 3) := by decide +kernel
theorem d_bf_plan_28 : decode b_bf_plan 28 = .ok (.new 80, 3) := by decide +kernel
theorem d_bf_plan_31 : decode b_bf_plan 31 = .ok (.dup, 1) := by decide +kernel
theorem d_bf_plan_32 : decode b_bf_plan 32 = .ok (.invokespecial 82, 3) := by decide +kernel
theorem d_bf_plan_35 : decode b_bf_plan 35 = .ok (.athrow, 1) := by decide +kernel
theorem d_bf_plan_36 : decode b_bf_plan 36 = .ok (.aload_n 0, 1) := by decide +kernel
theorem d_bf_plan_37 : decode b_bf_plan 37 = .ok (.getfield 45, 3) := by decide +kernel
theorem d_bf_plan_40 : decode b_bf_plan 40 = .ok (.invokevirtual 185, 3) := by decide +kernel
theorem d_bf_plan_43 : decode b_bf_plan 43 = .ok (.ifCond .eq 11, 3) := by decide +kernel
theorem d_bf_plan_46 : decode b_bf_plan 46 = .ok (.new 87, 3) := by decide +kernel
theorem d_bf_plan_49 : decode b_bf_plan 49 = .ok (.dup, 1) := by decide +kernel
theorem d_bf_plan_50 : decode b_bf_plan 50 = .ok (.invokespecial 89, 3) := by decide +kernel
theorem d_bf_plan_53 : decode b_bf_plan 53 = .ok (.athrow, 1) := by decide +kernel
theorem d_bf_plan_54 : decode b_bf_plan 54 = .ok (.aload_n 0, 1) := by decide +kernel
theorem d_bf_plan_55 : decode b_bf_plan 55 = .ok (.dup, 1) := by decide +kernel
theorem d_bf_plan_56 : decode b_bf_plan 56 = .ok (.getfield 64, 3) := by decide +kernel
theorem d_bf_plan_59 : decode b_bf_plan 59 = .ok (.lload_n 2, 1) := by decide +kernel
theorem d_bf_plan_60 : decode b_bf_plan 60 = .ok (.ladd, 1) := by decide +kernel
theorem d_bf_plan_61 : decode b_bf_plan 61 = .ok (.putfield 64, 3) := by decide +kernel
theorem d_bf_plan_64 : decode b_bf_plan 64 = .ok (.aload_n 0, 1) := by decide +kernel
theorem d_bf_plan_65 : decode b_bf_plan 65 = .ok (.getfield 45, 3) := by decide +kernel
theorem d_bf_plan_68 : decode b_bf_plan 68 = .ok (.iload_n 1, 1) := by decide +kernel
theorem d_bf_plan_69 : decode b_bf_plan 69 = .ok (.lload_n 2, 1) := by decide +kernel
theorem d_bf_plan_70 : decode b_bf_plan 70 = .ok (.iload 4, 2) := by decide +kernel
theorem d_bf_plan_72 : decode b_bf_plan 72 = .ok (.aload_n 0, 1) := by decide +kernel
theorem d_bf_plan_73 : decode b_bf_plan 73 = .ok (.getfield 60, 3) := by decide +kernel
theorem d_bf_plan_76 : decode b_bf_plan 76 = .ok (.invokevirtual 186, 3) := by decide +kernel
theorem d_bf_plan_79 : decode b_bf_plan 79 = .ok (.aload_n 0, 1) := by decide +kernel
theorem d_bf_plan_80 : decode b_bf_plan 80 = .ok (.getfield 45, 3) := by decide +kernel
theorem d_bf_plan_83 : decode b_bf_plan 83 = .ok (.invokevirtual 189, 3) := by decide +kernel
theorem d_bf_plan_86 : decode b_bf_plan 86 = .ok (.ireturn, 1) := by decide +kernel
theorem d_bf_charge_0 : decode b_bf_charge 0 = .ok (.iload_n 1, 1) := by decide +kernel
theorem d_bf_charge_1 : decode b_bf_charge 1 = .ok (.invokestatic 127, 3) := by decide +kernel
theorem d_bf_charge_4 : decode b_bf_charge 4 = .ok (.ifCond .eq 13, 3) := by decide +kernel
theorem d_bf_charge_7 : decode b_bf_charge 7 = .ok (.iload_n 2, 1) := by decide +kernel
theorem d_bf_charge_8 : decode b_bf_charge 8 = .ok (.ifCond .lt 9, 3) := by decide +kernel
theorem d_bf_charge_11 : decode b_bf_charge 11 = .ok (.iload_n 2, 1) := by decide +kernel
theorem d_bf_charge_12 : decode b_bf_charge 12 = .ok (.bipush 14, 2) := by decide +kernel
theorem d_bf_charge_14 : decode b_bf_charge 14 = .ok (.if_icmp .lt 11, 3) := by decide +kernel
theorem d_bf_charge_17 : decode b_bf_charge 17 = .ok (.new 80, 3) := by decide +kernel
theorem d_bf_charge_20 : decode b_bf_charge 20 = .ok (.dup, 1) := by decide +kernel
theorem d_bf_charge_21 : decode b_bf_charge 21 = .ok (.invokespecial 82, 3) := by decide +kernel
theorem d_bf_charge_24 : decode b_bf_charge 24 = .ok (.athrow, 1) := by decide +kernel
theorem d_bf_charge_25 : decode b_bf_charge 25 = .ok (.aload_n 0, 1) := by decide +kernel
theorem d_bf_charge_26 : decode b_bf_charge 26 = .ok (.iload_n 1, 1) := by decide +kernel
theorem d_bf_charge_27 : decode b_bf_charge 27 = .ok (.iload_n 2, 1) := by decide +kernel
theorem d_bf_charge_28 : decode b_bf_charge 28 = .ok (.invokevirtual 190, 3) := by decide +kernel
theorem d_bf_charge_31 : decode b_bf_charge 31 = .ok (.lreturn, 1) := by decide +kernel
theorem d_bf_invoice_0 : decode b_bf_invoice 0 = .ok (.aload_n 0, 1) := by decide +kernel
theorem d_bf_invoice_1 : decode b_bf_invoice 1 = .ok (.getfield 38, 3) := by decide +kernel
theorem d_bf_invoice_4 : decode b_bf_invoice 4 = .ok (.iload_n 1, 1) := by decide +kernel
theorem d_bf_invoice_5 : decode b_bf_invoice 5 = .ok (.invokevirtual 194, 3) := by decide +kernel
theorem d_bf_invoice_8 : decode b_bf_invoice 8 = .ok (.ifCond .ne 11, 3) := by decide +kernel
theorem d_bf_invoice_11 : decode b_bf_invoice 11 = .ok (.new 195, 3) := by decide +kernel
theorem d_bf_invoice_14 : decode b_bf_invoice 14 = .ok (.dup, 1) := by decide +kernel
theorem d_bf_invoice_15 : decode b_bf_invoice 15 = .ok (.invokespecial 197, 3) := by decide +kernel
theorem d_bf_invoice_18 : decode b_bf_invoice 18 = .ok (.athrow, 1) := by decide +kernel
theorem d_bf_invoice_19 : decode b_bf_invoice 19 = .ok (.iload_n 2, 1) := by decide +kernel
theorem d_bf_invoice_20 : decode b_bf_invoice 20 = .ok (.tableswitch 102 0 5 #[40, 50, 60, 69, 79, 88], 40) := by decide +kernel
theorem d_bf_invoice_60 : decode b_bf_invoice 60 = .ok (.aload_n 0, 1) := by decide +kernel
theorem d_bf_invoice_61 : decode b_bf_invoice 61 = .ok (.getfield 38, 3) := by decide +kernel
theorem d_bf_invoice_64 : decode b_bf_invoice 64 = .ok (.iload_n 1, 1) := by decide +kernel
theorem d_bf_invoice_65 : decode b_bf_invoice 65 = .ok (.invokevirtual 198, 3) := by decide +kernel
theorem d_bf_invoice_68 : decode b_bf_invoice 68 = .ok (.i2l, 1) := by decide +kernel
theorem d_bf_invoice_69 : decode b_bf_invoice 69 = .ok (.lreturn, 1) := by decide +kernel
theorem d_bf_invoice_70 : decode b_bf_invoice 70 = .ok (.aload_n 0, 1) := by decide +kernel
theorem d_bf_invoice_71 : decode b_bf_invoice 71 = .ok (.getfield 38, 3) := by decide +kernel
theorem d_bf_invoice_74 : decode b_bf_invoice 74 = .ok (.iload_n 1, 1) := by decide +kernel
theorem d_bf_invoice_75 : decode b_bf_invoice 75 = .ok (.invokevirtual 201, 3) := by decide +kernel
theorem d_bf_invoice_78 : decode b_bf_invoice 78 = .ok (.i2l, 1) := by decide +kernel
theorem d_bf_invoice_79 : decode b_bf_invoice 79 = .ok (.lreturn, 1) := by decide +kernel
theorem d_bf_invoice_80 : decode b_bf_invoice 80 = .ok (.aload_n 0, 1) := by decide +kernel
theorem d_bf_invoice_81 : decode b_bf_invoice 81 = .ok (.getfield 38, 3) := by decide +kernel
theorem d_bf_invoice_84 : decode b_bf_invoice 84 = .ok (.iload_n 1, 1) := by decide +kernel
theorem d_bf_invoice_85 : decode b_bf_invoice 85 = .ok (.invokevirtual 204, 3) := by decide +kernel
theorem d_bf_invoice_88 : decode b_bf_invoice 88 = .ok (.lreturn, 1) := by decide +kernel
theorem d_bf_invoice_89 : decode b_bf_invoice 89 = .ok (.aload_n 0, 1) := by decide +kernel
theorem d_bf_invoice_90 : decode b_bf_invoice 90 = .ok (.getfield 38, 3) := by decide +kernel
theorem d_bf_invoice_93 : decode b_bf_invoice 93 = .ok (.iload_n 1, 1) := by decide +kernel
theorem d_bf_invoice_94 : decode b_bf_invoice 94 = .ok (.invokevirtual 208, 3) := by decide +kernel
theorem d_bf_invoice_97 : decode b_bf_invoice 97 = .ok (.i2l, 1) := by decide +kernel
theorem d_bf_invoice_98 : decode b_bf_invoice 98 = .ok (.lreturn, 1) := by decide +kernel
theorem d_bf_invoice_99 : decode b_bf_invoice 99 = .ok (.aload_n 0, 1) := by decide +kernel
theorem d_bf_invoice_100 : decode b_bf_invoice 100 = .ok (.getfield 38, 3) := by decide +kernel
theorem d_bf_invoice_103 : decode b_bf_invoice 103 = .ok (.iload_n 1, 1) := by decide +kernel
theorem d_bf_invoice_104 : decode b_bf_invoice 104 = .ok (.invokevirtual 211, 3) := by decide +kernel
theorem d_bf_invoice_107 : decode b_bf_invoice 107 = .ok (.lreturn, 1) := by decide +kernel
theorem d_bf_invoice_108 : decode b_bf_invoice 108 = .ok (.aload_n 0, 1) := by decide +kernel
theorem d_bf_invoice_109 : decode b_bf_invoice 109 = .ok (.getfield 38, 3) := by decide +kernel
theorem d_bf_invoice_112 : decode b_bf_invoice 112 = .ok (.iload_n 1, 1) := by decide +kernel
theorem d_bf_invoice_113 : decode b_bf_invoice 113 = .ok (.aload_n 0, 1) := by decide +kernel
theorem d_bf_invoice_114 : decode b_bf_invoice 114 = .ok (.getfield 60, 3) := by decide +kernel
theorem d_bf_invoice_117 : decode b_bf_invoice 117 = .ok (.invokevirtual 214, 3) := by decide +kernel
theorem d_bf_invoice_120 : decode b_bf_invoice 120 = .ok (.i2l, 1) := by decide +kernel
theorem d_bf_invoice_121 : decode b_bf_invoice 121 = .ok (.lreturn, 1) := by decide +kernel
theorem d_bf_invoice_122 : decode b_bf_invoice 122 = .ok (.new 80, 3) := by decide +kernel
theorem d_bf_invoice_125 : decode b_bf_invoice 125 = .ok (.dup, 1) := by decide +kernel
theorem d_bf_invoice_126 : decode b_bf_invoice 126 = .ok (.invokespecial 82, 3) := by decide +kernel
theorem d_bf_invoice_129 : decode b_bf_invoice 129 = .ok (.athrow, 1) := by decide +kernel
theorem d_bf_told_0 : decode b_bf_told 0 = .ok (.iload_n 1, 1) := by decide +kernel
theorem d_bf_told_1 : decode b_bf_told 1 = .ok (.invokestatic 127, 3) := by decide +kernel
theorem d_bf_told_4 : decode b_bf_told 4 = .ok (.ifCond .ne 11, 3) := by decide +kernel
theorem d_bf_told_7 : decode b_bf_told 7 = .ok (.new 80, 3) := by decide +kernel
theorem d_bf_told_10 : decode b_bf_told 10 = .ok (.dup, 1) := by decide +kernel
theorem d_bf_told_11 : decode b_bf_told 11 = .ok (.invokespecial 82, 3) := by decide +kernel
theorem d_bf_told_14 : decode b_bf_told 14 = .ok (.athrow, 1) := by decide +kernel
theorem d_bf_told_15 : decode b_bf_told 15 = .ok (.iload_n 2, 1) := by decide +kernel
theorem d_bf_told_16 : decode b_bf_told 16 = .ok (.tableswitch 138 0 6 #[44, 55, 73, 84, 94, 103, 125], 44) := by decide +kernel
theorem d_bf_told_60 : decode b_bf_told 60 = .ok (.aload_n 0, 1) := by decide +kernel
theorem d_bf_told_61 : decode b_bf_told 61 = .ok (.getfield 24, 3) := by decide +kernel
theorem d_bf_told_64 : decode b_bf_told 64 = .ok (.iload_n 1, 1) := by decide +kernel
theorem d_bf_told_65 : decode b_bf_told 65 = .ok (.aaload, 1) := by decide +kernel
theorem d_bf_told_66 : decode b_bf_told 66 = .ok (.invokevirtual 130, 3) := by decide +kernel
theorem d_bf_told_69 : decode b_bf_told 69 = .ok (.i2l, 1) := by decide +kernel
theorem d_bf_told_70 : decode b_bf_told 70 = .ok (.lreturn, 1) := by decide +kernel
theorem d_bf_told_71 : decode b_bf_told 71 = .ok (.aload_n 0, 1) := by decide +kernel
theorem d_bf_told_72 : decode b_bf_told 72 = .ok (.getfield 24, 3) := by decide +kernel
theorem d_bf_told_75 : decode b_bf_told 75 = .ok (.iload_n 1, 1) := by decide +kernel
theorem d_bf_told_76 : decode b_bf_told 76 = .ok (.aaload, 1) := by decide +kernel
theorem d_bf_told_77 : decode b_bf_told 77 = .ok (.invokevirtual 140, 3) := by decide +kernel
theorem d_bf_told_80 : decode b_bf_told 80 = .ok (.ifCond .eq 7, 3) := by decide +kernel
theorem d_bf_told_83 : decode b_bf_told 83 = .ok (.lconst 1, 1) := by decide +kernel
theorem d_bf_told_84 : decode b_bf_told 84 = .ok (.goto 4, 3) := by decide +kernel
theorem d_bf_told_87 : decode b_bf_told 87 = .ok (.lconst 0, 1) := by decide +kernel
theorem d_bf_told_88 : decode b_bf_told 88 = .ok (.lreturn, 1) := by decide +kernel
theorem d_bf_told_89 : decode b_bf_told 89 = .ok (.aload_n 0, 1) := by decide +kernel
theorem d_bf_told_90 : decode b_bf_told 90 = .ok (.getfield 24, 3) := by decide +kernel
theorem d_bf_told_93 : decode b_bf_told 93 = .ok (.iload_n 1, 1) := by decide +kernel
theorem d_bf_told_94 : decode b_bf_told 94 = .ok (.aaload, 1) := by decide +kernel
theorem d_bf_told_95 : decode b_bf_told 95 = .ok (.invokevirtual 218, 3) := by decide +kernel
theorem d_bf_told_98 : decode b_bf_told 98 = .ok (.i2l, 1) := by decide +kernel
theorem d_bf_told_99 : decode b_bf_told 99 = .ok (.lreturn, 1) := by decide +kernel
theorem d_bf_told_100 : decode b_bf_told 100 = .ok (.aload_n 0, 1) := by decide +kernel
theorem d_bf_told_101 : decode b_bf_told 101 = .ok (.getfield 24, 3) := by decide +kernel
theorem d_bf_told_104 : decode b_bf_told 104 = .ok (.iload_n 1, 1) := by decide +kernel
theorem d_bf_told_105 : decode b_bf_told 105 = .ok (.aaload, 1) := by decide +kernel
theorem d_bf_told_106 : decode b_bf_told 106 = .ok (.invokevirtual 175, 3) := by decide +kernel
theorem d_bf_told_109 : decode b_bf_told 109 = .ok (.lreturn, 1) := by decide +kernel
theorem d_bf_told_110 : decode b_bf_told 110 = .ok (.aload_n 0, 1) := by decide +kernel
theorem d_bf_told_111 : decode b_bf_told 111 = .ok (.getfield 38, 3) := by decide +kernel
theorem d_bf_told_114 : decode b_bf_told 114 = .ok (.iload_n 1, 1) := by decide +kernel
theorem d_bf_told_115 : decode b_bf_told 115 = .ok (.invokevirtual 221, 3) := by decide +kernel
theorem d_bf_told_118 : decode b_bf_told 118 = .ok (.lreturn, 1) := by decide +kernel
theorem d_bf_told_119 : decode b_bf_told 119 = .ok (.aload_n 0, 1) := by decide +kernel
theorem d_bf_told_120 : decode b_bf_told 120 = .ok (.getfield 45, 3) := by decide +kernel
theorem d_bf_told_123 : decode b_bf_told 123 = .ok (.iload_n 1, 1) := by decide +kernel
theorem d_bf_told_124 : decode b_bf_told 124 = .ok (.invokevirtual 224, 3) := by decide +kernel
theorem d_bf_told_127 : decode b_bf_told 127 = .ok (.aload_n 0, 1) := by decide +kernel
theorem d_bf_told_128 : decode b_bf_told 128 = .ok (.getfield 45, 3) := by decide +kernel
theorem d_bf_told_131 : decode b_bf_told 131 = .ok (.iload_n 1, 1) := by decide +kernel
theorem d_bf_told_132 : decode b_bf_told 132 = .ok (.aload_n 0, 1) := by decide +kernel
theorem d_bf_told_133 : decode b_bf_told 133 = .ok (.getfield 60, 3) := by decide +kernel
theorem d_bf_told_136 : decode b_bf_told 136 = .ok (.invokevirtual 227, 3) := by decide +kernel
theorem d_bf_told_139 : decode b_bf_told 139 = .ok (.lsub, 1) := by decide +kernel
theorem d_bf_told_140 : decode b_bf_told 140 = .ok (.lreturn, 1) := by decide +kernel
theorem d_bf_told_141 : decode b_bf_told 141 = .ok (.aload_n 0, 1) := by decide +kernel
theorem d_bf_told_142 : decode b_bf_told 142 = .ok (.getfield 45, 3) := by decide +kernel
theorem d_bf_told_145 : decode b_bf_told 145 = .ok (.iload_n 1, 1) := by decide +kernel
theorem d_bf_told_146 : decode b_bf_told 146 = .ok (.aload_n 0, 1) := by decide +kernel
theorem d_bf_told_147 : decode b_bf_told 147 = .ok (.getfield 60, 3) := by decide +kernel
theorem d_bf_told_150 : decode b_bf_told 150 = .ok (.invokevirtual 227, 3) := by decide +kernel
theorem d_bf_told_153 : decode b_bf_told 153 = .ok (.lreturn, 1) := by decide +kernel
theorem d_bf_told_154 : decode b_bf_told 154 = .ok (.new 80, 3) := by decide +kernel
theorem d_bf_told_157 : decode b_bf_told 157 = .ok (.dup, 1) := by decide +kernel
theorem d_bf_told_158 : decode b_bf_told 158 = .ok (.invokespecial 82, 3) := by decide +kernel
theorem d_bf_told_161 : decode b_bf_told 161 = .ok (.athrow, 1) := by decide +kernel
theorem d_bf_books_0 : decode b_bf_books 0 = .ok (.iload_n 1, 1) := by decide +kernel
theorem d_bf_books_1 : decode b_bf_books 1 = .ok (.tableswitch 76 0 4 #[35, 40, 45, 50, 63], 35) := by decide +kernel
theorem d_bf_books_36 : decode b_bf_books 36 = .ok (.aload_n 0, 1) := by decide +kernel
theorem d_bf_books_37 : decode b_bf_books 37 = .ok (.getfield 64, 3) := by decide +kernel
theorem d_bf_books_40 : decode b_bf_books 40 = .ok (.lreturn, 1) := by decide +kernel
theorem d_bf_books_41 : decode b_bf_books 41 = .ok (.aload_n 0, 1) := by decide +kernel
theorem d_bf_books_42 : decode b_bf_books 42 = .ok (.invokevirtual 230, 3) := by decide +kernel
theorem d_bf_books_45 : decode b_bf_books 45 = .ok (.lreturn, 1) := by decide +kernel
theorem d_bf_books_46 : decode b_bf_books 46 = .ok (.aload_n 0, 1) := by decide +kernel
theorem d_bf_books_47 : decode b_bf_books 47 = .ok (.invokevirtual 233, 3) := by decide +kernel
theorem d_bf_books_50 : decode b_bf_books 50 = .ok (.lreturn, 1) := by decide +kernel
theorem d_bf_books_51 : decode b_bf_books 51 = .ok (.aload_n 0, 1) := by decide +kernel
theorem d_bf_books_52 : decode b_bf_books 52 = .ok (.getfield 38, 3) := by decide +kernel
theorem d_bf_books_55 : decode b_bf_books 55 = .ok (.invokevirtual 236, 3) := by decide +kernel
theorem d_bf_books_58 : decode b_bf_books 58 = .ok (.aload_n 0, 1) := by decide +kernel
theorem d_bf_books_59 : decode b_bf_books 59 = .ok (.invokevirtual 239, 3) := by decide +kernel
theorem d_bf_books_62 : decode b_bf_books 62 = .ok (.ladd, 1) := by decide +kernel
theorem d_bf_books_63 : decode b_bf_books 63 = .ok (.lreturn, 1) := by decide +kernel
theorem d_bf_books_64 : decode b_bf_books 64 = .ok (.aload_n 0, 1) := by decide +kernel
theorem d_bf_books_65 : decode b_bf_books 65 = .ok (.getfield 45, 3) := by decide +kernel
theorem d_bf_books_68 : decode b_bf_books 68 = .ok (.invokevirtual 242, 3) := by decide +kernel
theorem d_bf_books_71 : decode b_bf_books 71 = .ok (.aload_n 0, 1) := by decide +kernel
theorem d_bf_books_72 : decode b_bf_books 72 = .ok (.invokevirtual 239, 3) := by decide +kernel
theorem d_bf_books_75 : decode b_bf_books 75 = .ok (.lsub, 1) := by decide +kernel
theorem d_bf_books_76 : decode b_bf_books 76 = .ok (.lreturn, 1) := by decide +kernel
theorem d_bf_books_77 : decode b_bf_books 77 = .ok (.new 80, 3) := by decide +kernel
theorem d_bf_books_80 : decode b_bf_books 80 = .ok (.dup, 1) := by decide +kernel
theorem d_bf_books_81 : decode b_bf_books 81 = .ok (.invokespecial 82, 3) := by decide +kernel
theorem d_bf_books_84 : decode b_bf_books 84 = .ok (.athrow, 1) := by decide +kernel
theorem d_bf_date_0 : decode b_bf_date 0 = .ok (.iload_n 1, 1) := by decide +kernel
theorem d_bf_date_1 : decode b_bf_date 1 = .ok (.ifCond .lt 9, 3) := by decide +kernel
theorem d_bf_date_4 : decode b_bf_date 4 = .ok (.iload_n 1, 1) := by decide +kernel
theorem d_bf_date_5 : decode b_bf_date 5 = .ok (.ldc 243, 2) := by decide +kernel
theorem d_bf_date_7 : decode b_bf_date 7 = .ok (.if_icmp .le 11, 3) := by decide +kernel
theorem d_bf_date_10 : decode b_bf_date 10 = .ok (.new 80, 3) := by decide +kernel
theorem d_bf_date_13 : decode b_bf_date 13 = .ok (.dup, 1) := by decide +kernel
theorem d_bf_date_14 : decode b_bf_date 14 = .ok (.invokespecial 82, 3) := by decide +kernel
theorem d_bf_date_17 : decode b_bf_date 17 = .ok (.athrow, 1) := by decide +kernel
theorem d_bf_date_18 : decode b_bf_date 18 = .ok (.iload_n 1, 1) := by decide +kernel
theorem d_bf_date_19 : decode b_bf_date 19 = .ok (.invokestatic 244, 3) := by decide +kernel
theorem d_bf_date_22 : decode b_bf_date 22 = .ok (.istore_n 3, 1) := by decide +kernel
theorem d_bf_date_23 : decode b_bf_date 23 = .ok (.iload_n 2, 1) := by decide +kernel
theorem d_bf_date_24 : decode b_bf_date 24 = .ok (.tableswitch 53 0 3 #[32, 37, 42, 51], 32) := by decide +kernel
theorem d_bf_date_56 : decode b_bf_date 56 = .ok (.iload_n 3, 1) := by decide +kernel
theorem d_bf_date_57 : decode b_bf_date 57 = .ok (.invokestatic 245, 3) := by decide +kernel
theorem d_bf_date_60 : decode b_bf_date 60 = .ok (.ireturn, 1) := by decide +kernel
theorem d_bf_date_61 : decode b_bf_date 61 = .ok (.iload_n 3, 1) := by decide +kernel
theorem d_bf_date_62 : decode b_bf_date 62 = .ok (.invokestatic 248, 3) := by decide +kernel
theorem d_bf_date_65 : decode b_bf_date 65 = .ok (.ireturn, 1) := by decide +kernel
theorem d_bf_date_66 : decode b_bf_date 66 = .ok (.iload_n 1, 1) := by decide +kernel
theorem d_bf_date_67 : decode b_bf_date 67 = .ok (.iload_n 3, 1) := by decide +kernel
theorem d_bf_date_68 : decode b_bf_date 68 = .ok (.invokestatic 70, 3) := by decide +kernel
theorem d_bf_date_71 : decode b_bf_date 71 = .ok (.isub, 1) := by decide +kernel
theorem d_bf_date_72 : decode b_bf_date 72 = .ok (.iconst 1, 1) := by decide +kernel
theorem d_bf_date_73 : decode b_bf_date 73 = .ok (.iadd, 1) := by decide +kernel
theorem d_bf_date_74 : decode b_bf_date 74 = .ok (.ireturn, 1) := by decide +kernel
theorem d_bf_date_75 : decode b_bf_date 75 = .ok (.iload_n 3, 1) := by decide +kernel
theorem d_bf_date_76 : decode b_bf_date 76 = .ok (.ireturn, 1) := by decide +kernel
theorem d_bf_date_77 : decode b_bf_date 77 = .ok (.new 80, 3) := by decide +kernel
theorem d_bf_date_80 : decode b_bf_date 80 = .ok (.dup, 1) := by decide +kernel
theorem d_bf_date_81 : decode b_bf_date 81 = .ok (.invokespecial 82, 3) := by decide +kernel
theorem d_bf_date_84 : decode b_bf_date 84 = .ok (.athrow, 1) := by decide +kernel
theorem d_bf_count_0 : decode b_bf_count 0 = .ok (.iload_n 1, 1) := by decide +kernel
theorem d_bf_count_1 : decode b_bf_count 1 = .ok (.tableswitch 72 0 4 #[35, 40, 48, 56, 64], 35) := by decide +kernel
theorem d_bf_count_36 : decode b_bf_count 36 = .ok (.aload_n 0, 1) := by decide +kernel
theorem d_bf_count_37 : decode b_bf_count 37 = .ok (.getfield 60, 3) := by decide +kernel
theorem d_bf_count_40 : decode b_bf_count 40 = .ok (.ireturn, 1) := by decide +kernel
theorem d_bf_count_41 : decode b_bf_count 41 = .ok (.aload_n 0, 1) := by decide +kernel
theorem d_bf_count_42 : decode b_bf_count 42 = .ok (.getfield 31, 3) := by decide +kernel
theorem d_bf_count_45 : decode b_bf_count 45 = .ok (.invokevirtual 160, 3) := by decide +kernel
theorem d_bf_count_48 : decode b_bf_count 48 = .ok (.ireturn, 1) := by decide +kernel
theorem d_bf_count_49 : decode b_bf_count 49 = .ok (.aload_n 0, 1) := by decide +kernel
theorem d_bf_count_50 : decode b_bf_count 50 = .ok (.getfield 38, 3) := by decide +kernel
theorem d_bf_count_53 : decode b_bf_count 53 = .ok (.invokevirtual 166, 3) := by decide +kernel
theorem d_bf_count_56 : decode b_bf_count 56 = .ok (.ireturn, 1) := by decide +kernel
theorem d_bf_count_57 : decode b_bf_count 57 = .ok (.aload_n 0, 1) := by decide +kernel
theorem d_bf_count_58 : decode b_bf_count 58 = .ok (.getfield 45, 3) := by decide +kernel
theorem d_bf_count_61 : decode b_bf_count 61 = .ok (.invokevirtual 189, 3) := by decide +kernel
theorem d_bf_count_64 : decode b_bf_count 64 = .ok (.ireturn, 1) := by decide +kernel
theorem d_bf_count_65 : decode b_bf_count 65 = .ok (.aload_n 0, 1) := by decide +kernel
theorem d_bf_count_66 : decode b_bf_count 66 = .ok (.getfield 10, 3) := by decide +kernel
theorem d_bf_count_69 : decode b_bf_count 69 = .ok (.invokevirtual 83, 3) := by decide +kernel
theorem d_bf_count_72 : decode b_bf_count 72 = .ok (.ireturn, 1) := by decide +kernel
theorem d_bf_count_73 : decode b_bf_count 73 = .ok (.new 80, 3) := by decide +kernel
theorem d_bf_count_76 : decode b_bf_count 76 = .ok (.dup, 1) := by decide +kernel
theorem d_bf_count_77 : decode b_bf_count 77 = .ok (.invokespecial 82, 3) := by decide +kernel
theorem d_bf_count_80 : decode b_bf_count 80 = .ok (.athrow, 1) := by decide +kernel
theorem d_bf_isTariff_0 : decode b_bf_isTariff 0 = .ok (.iload_n 0, 1) := by decide +kernel
theorem d_bf_isTariff_1 : decode b_bf_isTariff 1 = .ok (.ifCond .lt 12, 3) := by decide +kernel
theorem d_bf_isTariff_4 : decode b_bf_isTariff 4 = .ok (.iload_n 0, 1) := by decide +kernel
theorem d_bf_isTariff_5 : decode b_bf_isTariff 5 = .ok (.iconst 3, 1) := by decide +kernel
theorem d_bf_isTariff_6 : decode b_bf_isTariff 6 = .ok (.if_icmp .ge 7, 3) := by decide +kernel
theorem d_bf_isTariff_9 : decode b_bf_isTariff 9 = .ok (.iconst 1, 1) := by decide +kernel
theorem d_bf_isTariff_10 : decode b_bf_isTariff 10 = .ok (.goto 4, 3) := by decide +kernel
theorem d_bf_isTariff_13 : decode b_bf_isTariff 13 = .ok (.iconst 0, 1) := by decide +kernel
theorem d_bf_isTariff_14 : decode b_bf_isTariff 14 = .ok (.ireturn, 1) := by decide +kernel
theorem d_bf_isCustomer_0 : decode b_bf_isCustomer 0 = .ok (.iload_n 0, 1) := by decide +kernel
theorem d_bf_isCustomer_1 : decode b_bf_isCustomer 1 = .ok (.ifCond .lt 12, 3) := by decide +kernel
theorem d_bf_isCustomer_4 : decode b_bf_isCustomer 4 = .ok (.iload_n 0, 1) := by decide +kernel
theorem d_bf_isCustomer_5 : decode b_bf_isCustomer 5 = .ok (.iconst 5, 1) := by decide +kernel
theorem d_bf_isCustomer_6 : decode b_bf_isCustomer 6 = .ok (.if_icmp .ge 7, 3) := by decide +kernel
theorem d_bf_isCustomer_9 : decode b_bf_isCustomer 9 = .ok (.iconst 1, 1) := by decide +kernel
theorem d_bf_isCustomer_10 : decode b_bf_isCustomer 10 = .ok (.goto 4, 3) := by decide +kernel
theorem d_bf_isCustomer_13 : decode b_bf_isCustomer 13 = .ok (.iconst 0, 1) := by decide +kernel
theorem d_bf_isCustomer_14 : decode b_bf_isCustomer 14 = .ok (.ireturn, 1) := by decide +kernel
theorem d_bf_isPayable_0 : decode b_bf_isPayable 0 = .ok (.lload_n 0, 1) := by decide +kernel
theorem d_bf_isPayable_1 : decode b_bf_isPayable 1 = .ok (.lconst 1, 1) := by decide +kernel
theorem d_bf_isPayable_2 : decode b_bf_isPayable 2 = .ok (.lcmp, 1) := by decide +kernel
theorem d_bf_isPayable_3 : decode b_bf_isPayable 3 = .ok (.ifCond .lt 15, 3) := by decide +kernel
theorem d_bf_isPayable_6 : decode b_bf_isPayable 6 = .ok (.lload_n 0, 1) := by decide +kernel
theorem d_bf_isPayable_7 : decode b_bf_isPayable 7 = .ok (.ldc2_w 251, 3) := by decide +kernel
theorem d_bf_isPayable_10 : decode b_bf_isPayable 10 = .ok (.lcmp, 1) := by decide +kernel
theorem d_bf_isPayable_11 : decode b_bf_isPayable 11 = .ok (.ifCond .gt 7, 3) := by decide +kernel
theorem d_bf_isPayable_14 : decode b_bf_isPayable 14 = .ok (.iconst 1, 1) := by decide +kernel
theorem d_bf_isPayable_15 : decode b_bf_isPayable 15 = .ok (.goto 4, 3) := by decide +kernel
theorem d_bf_isPayable_18 : decode b_bf_isPayable 18 = .ok (.iconst 0, 1) := by decide +kernel
theorem d_bf_isPayable_19 : decode b_bf_isPayable 19 = .ok (.ireturn, 1) := by decide +kernel
theorem d_bf_shareOf_0 : decode b_bf_shareOf 0 = .ok (.lload 4, 2) := by decide +kernel
theorem d_bf_shareOf_2 : decode b_bf_shareOf 2 = .ok (.lconst 1, 1) := by decide +kernel
theorem d_bf_shareOf_3 : decode b_bf_shareOf 3 = .ok (.lcmp, 1) := by decide +kernel
theorem d_bf_shareOf_4 : decode b_bf_shareOf 4 = .ok (.ifCond .ge 7, 3) := by decide +kernel
theorem d_bf_shareOf_7 : decode b_bf_shareOf 7 = .ok (.lconst 0, 1) := by decide +kernel
theorem d_bf_shareOf_8 : decode b_bf_shareOf 8 = .ok (.goto 9, 3) := by decide +kernel
theorem d_bf_shareOf_11 : decode b_bf_shareOf 11 = .ok (.lload_n 0, 1) := by decide +kernel
theorem d_bf_shareOf_12 : decode b_bf_shareOf 12 = .ok (.lload_n 2, 1) := by decide +kernel
theorem d_bf_shareOf_13 : decode b_bf_shareOf 13 = .ok (.lmul, 1) := by decide +kernel
theorem d_bf_shareOf_14 : decode b_bf_shareOf 14 = .ok (.lload 4, 2) := by decide +kernel
theorem d_bf_shareOf_16 : decode b_bf_shareOf 16 = .ok (.ldiv, 1) := by decide +kernel
theorem d_bf_shareOf_17 : decode b_bf_shareOf 17 = .ok (.lreturn, 1) := by decide +kernel
theorem d_bf_passDay_0 : decode b_bf_passDay 0 = .ok (.iconst 0, 1) := by decide +kernel
theorem d_bf_passDay_1 : decode b_bf_passDay 1 = .ok (.istore_n 1, 1) := by decide +kernel
theorem d_bf_passDay_2 : decode b_bf_passDay 2 = .ok (.iload_n 1, 1) := by decide +kernel
theorem d_bf_passDay_3 : decode b_bf_passDay 3 = .ok (.iconst 5, 1) := by decide +kernel
theorem d_bf_passDay_4 : decode b_bf_passDay 4 = .ok (.if_icmp .ge 22, 3) := by decide +kernel
theorem d_bf_passDay_7 : decode b_bf_passDay 7 = .ok (.aload_n 0, 1) := by decide +kernel
theorem d_bf_passDay_8 : decode b_bf_passDay 8 = .ok (.getfield 24, 3) := by decide +kernel
theorem d_bf_passDay_11 : decode b_bf_passDay 11 = .ok (.iload_n 1, 1) := by decide +kernel
theorem d_bf_passDay_12 : decode b_bf_passDay 12 = .ok (.aaload, 1) := by decide +kernel
theorem d_bf_passDay_13 : decode b_bf_passDay 13 = .ok (.aload_n 0, 1) := by decide +kernel
theorem d_bf_passDay_14 : decode b_bf_passDay 14 = .ok (.getfield 60, 3) := by decide +kernel
theorem d_bf_passDay_17 : decode b_bf_passDay 17 = .ok (.invokevirtual 253, 3) := by decide +kernel
theorem d_bf_passDay_20 : decode b_bf_passDay 20 = .ok (.iinc 1 1, 3) := by decide +kernel
theorem d_bf_passDay_23 : decode b_bf_passDay 23 = .ok (.goto (-21), 3) := by decide +kernel
theorem d_bf_passDay_26 : decode b_bf_passDay 26 = .ok (.aload_n 0, 1) := by decide +kernel
theorem d_bf_passDay_27 : decode b_bf_passDay 27 = .ok (.dup, 1) := by decide +kernel
theorem d_bf_passDay_28 : decode b_bf_passDay 28 = .ok (.getfield 60, 3) := by decide +kernel
theorem d_bf_passDay_31 : decode b_bf_passDay 31 = .ok (.iconst 1, 1) := by decide +kernel
theorem d_bf_passDay_32 : decode b_bf_passDay 32 = .ok (.iadd, 1) := by decide +kernel
theorem d_bf_passDay_33 : decode b_bf_passDay 33 = .ok (.putfield 60, 3) := by decide +kernel
theorem d_bf_passDay_36 : decode b_bf_passDay 36 = .ok (.iconst 0, 1) := by decide +kernel
theorem d_bf_passDay_37 : decode b_bf_passDay 37 = .ok (.istore_n 1, 1) := by decide +kernel
theorem d_bf_passDay_38 : decode b_bf_passDay 38 = .ok (.iload_n 1, 1) := by decide +kernel
theorem d_bf_passDay_39 : decode b_bf_passDay 39 = .ok (.iconst 5, 1) := by decide +kernel
theorem d_bf_passDay_40 : decode b_bf_passDay 40 = .ok (.if_icmp .ge 14, 3) := by decide +kernel
theorem d_bf_passDay_43 : decode b_bf_passDay 43 = .ok (.aload_n 0, 1) := by decide +kernel
theorem d_bf_passDay_44 : decode b_bf_passDay 44 = .ok (.iload_n 1, 1) := by decide +kernel
theorem d_bf_passDay_45 : decode b_bf_passDay 45 = .ok (.invokevirtual 256, 3) := by decide +kernel
theorem d_bf_passDay_48 : decode b_bf_passDay 48 = .ok (.iinc 1 1, 3) := by decide +kernel
theorem d_bf_passDay_51 : decode b_bf_passDay 51 = .ok (.goto (-13), 3) := by decide +kernel
theorem d_bf_passDay_54 : decode b_bf_passDay 54 = .ok (.return_, 1) := by decide +kernel
theorem d_bf_lookAtStage_0 : decode b_bf_lookAtStage 0 = .ok (.aload_n 0, 1) := by decide +kernel
theorem d_bf_lookAtStage_1 : decode b_bf_lookAtStage 1 = .ok (.getfield 24, 3) := by decide +kernel
theorem d_bf_lookAtStage_4 : decode b_bf_lookAtStage 4 = .ok (.iload_n 1, 1) := by decide +kernel
theorem d_bf_lookAtStage_5 : decode b_bf_lookAtStage 5 = .ok (.aaload, 1) := by decide +kernel
theorem d_bf_lookAtStage_6 : decode b_bf_lookAtStage 6 = .ok (.aload_n 0, 1) := by decide +kernel
theorem d_bf_lookAtStage_7 : decode b_bf_lookAtStage 7 = .ok (.getfield 38, 3) := by decide +kernel
theorem d_bf_lookAtStage_10 : decode b_bf_lookAtStage 10 = .ok (.iload_n 1, 1) := by decide +kernel
theorem d_bf_lookAtStage_11 : decode b_bf_lookAtStage 11 = .ok (.aload_n 0, 1) := by decide +kernel
theorem d_bf_lookAtStage_12 : decode b_bf_lookAtStage 12 = .ok (.getfield 60, 3) := by decide +kernel
theorem d_bf_lookAtStage_15 : decode b_bf_lookAtStage 15 = .ok (.invokevirtual 259, 3) := by decide +kernel
theorem d_bf_lookAtStage_18 : decode b_bf_lookAtStage 18 = .ok (.invokevirtual 262, 3) := by decide +kernel
theorem d_bf_lookAtStage_21 : decode b_bf_lookAtStage 21 = .ok (.return_, 1) := by decide +kernel
theorem d_bf_invoiceDifference_0 : decode b_bf_invoiceDifference 0 = .ok (.aload_n 0, 1) := by decide +kernel
theorem d_bf_invoiceDifference_1 : decode b_bf_invoiceDifference 1 = .ok (.getfield 38, 3) := by decide +kernel
theorem d_bf_invoiceDifference_4 : decode b_bf_invoiceDifference 4 = .ok (.invokevirtual 263, 3) := by decide +kernel
theorem d_bf_invoiceDifference_7 : decode b_bf_invoiceDifference 7 = .ok (.ifCond .eq 4, 3) := by decide +kernel
theorem d_bf_invoiceDifference_10 : decode b_bf_invoiceDifference 10 = .ok (.return_, 1) := by decide +kernel
theorem d_bf_invoiceDifference_11 : decode b_bf_invoiceDifference 11 = .ok (.aload_n 0, 1) := by decide +kernel
theorem d_bf_invoiceDifference_12 : decode b_bf_invoiceDifference 12 = .ok (.iload_n 1, 1) := by decide +kernel
theorem d_bf_invoiceDifference_13 : decode b_bf_invoiceDifference 13 = .ok (.iload_n 2, 1) := by decide +kernel
theorem d_bf_invoiceDifference_14 : decode b_bf_invoiceDifference 14 = .ok (.invokevirtual 190, 3) := by decide +kernel
theorem d_bf_invoiceDifference_17 : decode b_bf_invoiceDifference 17 = .ok (.aload_n 0, 1) := by decide +kernel
theorem d_bf_invoiceDifference_18 : decode b_bf_invoiceDifference 18 = .ok (.getfield 38, 3) := by decide +kernel
theorem d_bf_invoiceDifference_21 : decode b_bf_invoiceDifference 21 = .ok (.iload_n 1, 1) := by decide +kernel
theorem d_bf_invoiceDifference_22 : decode b_bf_invoiceDifference 22 = .ok (.iload_n 2, 1) := by decide +kernel
theorem d_bf_invoiceDifference_23 : decode b_bf_invoiceDifference 23 = .ok (.invokevirtual 264, 3) := by decide +kernel
theorem d_bf_invoiceDifference_26 : decode b_bf_invoiceDifference 26 = .ok (.lsub, 1) := by decide +kernel
theorem d_bf_invoiceDifference_27 : decode b_bf_invoiceDifference 27 = .ok (.lstore_n 3, 1) := by decide +kernel
theorem d_bf_invoiceDifference_28 : decode b_bf_invoiceDifference 28 = .ok (.lload_n 3, 1) := by decide +kernel
theorem d_bf_invoiceDifference_29 : decode b_bf_invoiceDifference 29 = .ok (.lconst 0, 1) := by decide +kernel
theorem d_bf_invoiceDifference_30 : decode b_bf_invoiceDifference 30 = .ok (.lcmp, 1) := by decide +kernel
theorem d_bf_invoiceDifference_31 : decode b_bf_invoiceDifference 31 = .ok (.ifCond .ne 4, 3) := by decide +kernel
theorem d_bf_invoiceDifference_34 : decode b_bf_invoiceDifference 34 = .ok (.return_, 1) := by decide +kernel
theorem d_bf_invoiceDifference_35 : decode b_bf_invoiceDifference 35 = .ok (.aload_n 0, 1) := by decide +kernel
theorem d_bf_invoiceDifference_36 : decode b_bf_invoiceDifference 36 = .ok (.getfield 38, 3) := by decide +kernel
theorem d_bf_invoiceDifference_39 : decode b_bf_invoiceDifference 39 = .ok (.iload_n 1, 1) := by decide +kernel
theorem d_bf_invoiceDifference_40 : decode b_bf_invoiceDifference 40 = .ok (.iload_n 2, 1) := by decide +kernel
theorem d_bf_invoiceDifference_41 : decode b_bf_invoiceDifference 41 = .ok (.lload_n 3, 1) := by decide +kernel
theorem d_bf_invoiceDifference_42 : decode b_bf_invoiceDifference 42 = .ok (.aload_n 0, 1) := by decide +kernel
theorem d_bf_invoiceDifference_43 : decode b_bf_invoiceDifference 43 = .ok (.getfield 60, 3) := by decide +kernel
theorem d_bf_invoiceDifference_46 : decode b_bf_invoiceDifference 46 = .ok (.invokevirtual 266, 3) := by decide +kernel
theorem d_bf_invoiceDifference_49 : decode b_bf_invoiceDifference 49 = .ok (.lload_n 3, 1) := by decide +kernel
theorem d_bf_invoiceDifference_50 : decode b_bf_invoiceDifference 50 = .ok (.lconst 0, 1) := by decide +kernel
theorem d_bf_invoiceDifference_51 : decode b_bf_invoiceDifference 51 = .ok (.lcmp, 1) := by decide +kernel
theorem d_bf_invoiceDifference_52 : decode b_bf_invoiceDifference 52 = .ok (.ifCond .ge 14, 3) := by decide +kernel
theorem d_bf_invoiceDifference_55 : decode b_bf_invoiceDifference 55 = .ok (.aload_n 0, 1) := by decide +kernel
theorem d_bf_invoiceDifference_56 : decode b_bf_invoiceDifference 56 = .ok (.getfield 24, 3) := by decide +kernel
theorem d_bf_invoiceDifference_59 : decode b_bf_invoiceDifference 59 = .ok (.iload_n 1, 1) := by decide +kernel
theorem d_bf_invoiceDifference_60 : decode b_bf_invoiceDifference 60 = .ok (.aaload, 1) := by decide +kernel
theorem d_bf_invoiceDifference_61 : decode b_bf_invoiceDifference 61 = .ok (.lload_n 3, 1) := by decide +kernel
theorem d_bf_invoiceDifference_62 : decode b_bf_invoiceDifference 62 = .ok (.lneg, 1) := by decide +kernel
theorem d_bf_invoiceDifference_63 : decode b_bf_invoiceDifference 63 = .ok (.invokevirtual 179, 3) := by decide +kernel
theorem d_bf_invoiceDifference_66 : decode b_bf_invoiceDifference 66 = .ok (.aload_n 0, 1) := by decide +kernel
theorem d_bf_invoiceDifference_67 : decode b_bf_invoiceDifference 67 = .ok (.iload_n 1, 1) := by decide +kernel
theorem d_bf_invoiceDifference_68 : decode b_bf_invoiceDifference 68 = .ok (.invokevirtual 182, 3) := by decide +kernel
theorem d_bf_invoiceDifference_71 : decode b_bf_invoiceDifference 71 = .ok (.return_, 1) := by decide +kernel
theorem d_bf_spendCredit_0 : decode b_bf_spendCredit 0 = .ok (.aload_n 0, 1) := by decide +kernel
theorem d_bf_spendCredit_1 : decode b_bf_spendCredit 1 = .ok (.getfield 38, 3) := by decide +kernel
theorem d_bf_spendCredit_4 : decode b_bf_spendCredit 4 = .ok (.iload_n 1, 1) := by decide +kernel
theorem d_bf_spendCredit_5 : decode b_bf_spendCredit 5 = .ok (.aload_n 0, 1) := by decide +kernel
theorem d_bf_spendCredit_6 : decode b_bf_spendCredit 6 = .ok (.getfield 24, 3) := by decide +kernel
theorem d_bf_spendCredit_9 : decode b_bf_spendCredit 9 = .ok (.iload_n 1, 1) := by decide +kernel
theorem d_bf_spendCredit_10 : decode b_bf_spendCredit 10 = .ok (.aaload, 1) := by decide +kernel
theorem d_bf_spendCredit_11 : decode b_bf_spendCredit 11 = .ok (.invokevirtual 175, 3) := by decide +kernel
theorem d_bf_spendCredit_14 : decode b_bf_spendCredit 14 = .ok (.invokevirtual 269, 3) := by decide +kernel
theorem d_bf_spendCredit_17 : decode b_bf_spendCredit 17 = .ok (.lstore_n 2, 1) := by decide +kernel
theorem d_bf_spendCredit_18 : decode b_bf_spendCredit 18 = .ok (.lload_n 2, 1) := by decide +kernel
theorem d_bf_spendCredit_19 : decode b_bf_spendCredit 19 = .ok (.lconst 0, 1) := by decide +kernel
theorem d_bf_spendCredit_20 : decode b_bf_spendCredit 20 = .ok (.lcmp, 1) := by decide +kernel
theorem d_bf_spendCredit_21 : decode b_bf_spendCredit 21 = .ok (.ifCond .le 19, 3) := by decide +kernel
theorem d_bf_spendCredit_24 : decode b_bf_spendCredit 24 = .ok (.aload_n 0, 1) := by decide +kernel
theorem d_bf_spendCredit_25 : decode b_bf_spendCredit 25 = .ok (.getfield 24, 3) := by decide +kernel
theorem d_bf_spendCredit_28 : decode b_bf_spendCredit 28 = .ok (.iload_n 1, 1) := by decide +kernel
theorem d_bf_spendCredit_29 : decode b_bf_spendCredit 29 = .ok (.aaload, 1) := by decide +kernel
theorem d_bf_spendCredit_30 : decode b_bf_spendCredit 30 = .ok (.lload_n 2, 1) := by decide +kernel
theorem d_bf_spendCredit_31 : decode b_bf_spendCredit 31 = .ok (.lneg, 1) := by decide +kernel
theorem d_bf_spendCredit_32 : decode b_bf_spendCredit 32 = .ok (.invokevirtual 179, 3) := by decide +kernel
theorem d_bf_spendCredit_35 : decode b_bf_spendCredit 35 = .ok (.aload_n 0, 1) := by decide +kernel
theorem d_bf_spendCredit_36 : decode b_bf_spendCredit 36 = .ok (.iload_n 1, 1) := by decide +kernel
theorem d_bf_spendCredit_37 : decode b_bf_spendCredit 37 = .ok (.invokevirtual 256, 3) := by decide +kernel
theorem d_bf_spendCredit_40 : decode b_bf_spendCredit 40 = .ok (.return_, 1) := by decide +kernel
theorem d_bf_chargeOf_0 : decode b_bf_chargeOf 0 = .ok (.aload_n 0, 1) := by decide +kernel
theorem d_bf_chargeOf_1 : decode b_bf_chargeOf 1 = .ok (.iload_n 1, 1) := by decide +kernel
theorem d_bf_chargeOf_2 : decode b_bf_chargeOf 2 = .ok (.iload_n 2, 1) := by decide +kernel
theorem d_bf_chargeOf_3 : decode b_bf_chargeOf 3 = .ok (.invokevirtual 273, 3) := by decide +kernel
theorem d_bf_chargeOf_6 : decode b_bf_chargeOf 6 = .ok (.aload_n 0, 1) := by decide +kernel
theorem d_bf_chargeOf_7 : decode b_bf_chargeOf 7 = .ok (.iload_n 1, 1) := by decide +kernel
theorem d_bf_chargeOf_8 : decode b_bf_chargeOf 8 = .ok (.iload_n 2, 1) := by decide +kernel
theorem d_bf_chargeOf_9 : decode b_bf_chargeOf 9 = .ok (.invokevirtual 276, 3) := by decide +kernel
theorem d_bf_chargeOf_12 : decode b_bf_chargeOf 12 = .ok (.aload_n 0, 1) := by decide +kernel
theorem d_bf_chargeOf_13 : decode b_bf_chargeOf 13 = .ok (.getfield 49, 3) := by decide +kernel
theorem d_bf_chargeOf_16 : decode b_bf_chargeOf 16 = .ok (.iload_n 2, 1) := by decide +kernel
theorem d_bf_chargeOf_17 : decode b_bf_chargeOf 17 = .ok (.iconst 1, 1) := by decide +kernel
theorem d_bf_chargeOf_18 : decode b_bf_chargeOf 18 = .ok (.iadd, 1) := by decide +kernel
theorem d_bf_chargeOf_19 : decode b_bf_chargeOf 19 = .ok (.iaload, 1) := by decide +kernel
theorem d_bf_chargeOf_20 : decode b_bf_chargeOf 20 = .ok (.aload_n 0, 1) := by decide +kernel
theorem d_bf_chargeOf_21 : decode b_bf_chargeOf 21 = .ok (.getfield 49, 3) := by decide +kernel
theorem d_bf_chargeOf_24 : decode b_bf_chargeOf 24 = .ok (.iload_n 2, 1) := by decide +kernel
theorem d_bf_chargeOf_25 : decode b_bf_chargeOf 25 = .ok (.iaload, 1) := by decide +kernel
theorem d_bf_chargeOf_26 : decode b_bf_chargeOf 26 = .ok (.isub, 1) := by decide +kernel
theorem d_bf_chargeOf_27 : decode b_bf_chargeOf 27 = .ok (.istore_n 3, 1) := by decide +kernel
theorem d_bf_chargeOf_28 : decode b_bf_chargeOf 28 = .ok (.lconst 0, 1) := by decide +kernel
theorem d_bf_chargeOf_29 : decode b_bf_chargeOf 29 = .ok (.lstore 4, 2) := by decide +kernel
theorem d_bf_chargeOf_31 : decode b_bf_chargeOf 31 = .ok (.iconst 0, 1) := by decide +kernel
theorem d_bf_chargeOf_32 : decode b_bf_chargeOf 32 = .ok (.istore 6, 2) := by decide +kernel
theorem d_bf_chargeOf_34 : decode b_bf_chargeOf 34 = .ok (.iload 6, 2) := by decide +kernel
theorem d_bf_chargeOf_36 : decode b_bf_chargeOf 36 = .ok (.iconst 3, 1) := by decide +kernel
theorem d_bf_chargeOf_37 : decode b_bf_chargeOf 37 = .ok (.if_icmp .ge 72, 3) := by decide +kernel
theorem d_bf_chargeOf_40 : decode b_bf_chargeOf 40 = .ok (.aload_n 0, 1) := by decide +kernel
theorem d_bf_chargeOf_41 : decode b_bf_chargeOf 41 = .ok (.getfield 53, 3) := by decide +kernel
theorem d_bf_chargeOf_44 : decode b_bf_chargeOf 44 = .ok (.iload 6, 2) := by decide +kernel
theorem d_bf_chargeOf_46 : decode b_bf_chargeOf 46 = .ok (.iaload, 1) := by decide +kernel
theorem d_bf_chargeOf_47 : decode b_bf_chargeOf 47 = .ok (.ifCond .le 56, 3) := by decide +kernel
theorem d_bf_chargeOf_50 : decode b_bf_chargeOf 50 = .ok (.lload 4, 2) := by decide +kernel
theorem d_bf_chargeOf_52 : decode b_bf_chargeOf 52 = .ok (.aload_n 0, 1) := by decide +kernel
theorem d_bf_chargeOf_53 : decode b_bf_chargeOf 53 = .ok (.getfield 18, 3) := by decide +kernel
theorem d_bf_chargeOf_56 : decode b_bf_chargeOf 56 = .ok (.iload 6, 2) := by decide +kernel
theorem d_bf_chargeOf_58 : decode b_bf_chargeOf 58 = .ok (.aaload, 1) := by decide +kernel
theorem d_bf_chargeOf_59 : decode b_bf_chargeOf 59 = .ok (.aload_n 0, 1) := by decide +kernel
theorem d_bf_chargeOf_60 : decode b_bf_chargeOf 60 = .ok (.getfield 53, 3) := by decide +kernel
theorem d_bf_chargeOf_63 : decode b_bf_chargeOf 63 = .ok (.iload 6, 2) := by decide +kernel
theorem d_bf_chargeOf_65 : decode b_bf_chargeOf 65 = .ok (.iaload, 1) := by decide +kernel
theorem d_bf_chargeOf_66 : decode b_bf_chargeOf 66 = .ok (.iload_n 3, 1) := by decide +kernel
theorem d_bf_chargeOf_67 : decode b_bf_chargeOf 67 = .ok (.invokevirtual 279, 3) := by decide +kernel
theorem d_bf_chargeOf_70 : decode b_bf_chargeOf 70 = .ok (.ladd, 1) := by decide +kernel
theorem d_bf_chargeOf_71 : decode b_bf_chargeOf 71 = .ok (.lstore 4, 2) := by decide +kernel
theorem d_bf_chargeOf_73 : decode b_bf_chargeOf 73 = .ok (.lload 4, 2) := by decide +kernel
theorem d_bf_chargeOf_75 : decode b_bf_chargeOf 75 = .ok (.aload_n 0, 1) := by decide +kernel
theorem d_bf_chargeOf_76 : decode b_bf_chargeOf 76 = .ok (.getfield 18, 3) := by decide +kernel
theorem d_bf_chargeOf_79 : decode b_bf_chargeOf 79 = .ok (.iload 6, 2) := by decide +kernel
theorem d_bf_chargeOf_81 : decode b_bf_chargeOf 81 = .ok (.aaload, 1) := by decide +kernel
theorem d_bf_chargeOf_82 : decode b_bf_chargeOf 82 = .ok (.aload_n 0, 1) := by decide +kernel
theorem d_bf_chargeOf_83 : decode b_bf_chargeOf 83 = .ok (.getfield 56, 3) := by decide +kernel
theorem d_bf_chargeOf_86 : decode b_bf_chargeOf 86 = .ok (.iload 6, 2) := by decide +kernel
theorem d_bf_chargeOf_88 : decode b_bf_chargeOf 88 = .ok (.laload, 1) := by decide +kernel
theorem d_bf_chargeOf_89 : decode b_bf_chargeOf 89 = .ok (.aload_n 0, 1) := by decide +kernel
theorem d_bf_chargeOf_90 : decode b_bf_chargeOf 90 = .ok (.getfield 53, 3) := by decide +kernel
theorem d_bf_chargeOf_93 : decode b_bf_chargeOf 93 = .ok (.iload 6, 2) := by decide +kernel
theorem d_bf_chargeOf_95 : decode b_bf_chargeOf 95 = .ok (.iaload, 1) := by decide +kernel
theorem d_bf_chargeOf_96 : decode b_bf_chargeOf 96 = .ok (.iload_n 3, 1) := by decide +kernel
theorem d_bf_chargeOf_97 : decode b_bf_chargeOf 97 = .ok (.invokevirtual 123, 3) := by decide +kernel
theorem d_bf_chargeOf_100 : decode b_bf_chargeOf 100 = .ok (.ladd, 1) := by decide +kernel
theorem d_bf_chargeOf_101 : decode b_bf_chargeOf 101 = .ok (.lstore 4, 2) := by decide +kernel
theorem d_bf_chargeOf_103 : decode b_bf_chargeOf 103 = .ok (.iinc 6 1, 3) := by decide +kernel
theorem d_bf_chargeOf_106 : decode b_bf_chargeOf 106 = .ok (.goto (-72), 3) := by decide +kernel
theorem d_bf_chargeOf_109 : decode b_bf_chargeOf 109 = .ok (.lload 4, 2) := by decide +kernel
theorem d_bf_chargeOf_111 : decode b_bf_chargeOf 111 = .ok (.lreturn, 1) := by decide +kernel
theorem d_bf_countLiveDays_0 : decode b_bf_countLiveDays 0 = .ok (.iconst 0, 1) := by decide +kernel
theorem d_bf_countLiveDays_1 : decode b_bf_countLiveDays 1 = .ok (.istore_n 3, 1) := by decide +kernel
theorem d_bf_countLiveDays_2 : decode b_bf_countLiveDays 2 = .ok (.iload_n 3, 1) := by decide +kernel
theorem d_bf_countLiveDays_3 : decode b_bf_countLiveDays 3 = .ok (.iconst 3, 1) := by decide +kernel
theorem d_bf_countLiveDays_4 : decode b_bf_countLiveDays 4 = .ok (.if_icmp .ge 16, 3) := by decide +kernel
theorem d_bf_countLiveDays_7 : decode b_bf_countLiveDays 7 = .ok (.aload_n 0, 1) := by decide +kernel
theorem d_bf_countLiveDays_8 : decode b_bf_countLiveDays 8 = .ok (.getfield 53, 3) := by decide +kernel
theorem d_bf_countLiveDays_11 : decode b_bf_countLiveDays 11 = .ok (.iload_n 3, 1) := by decide +kernel
theorem d_bf_countLiveDays_12 : decode b_bf_countLiveDays 12 = .ok (.iconst 0, 1) := by decide +kernel
theorem d_bf_countLiveDays_13 : decode b_bf_countLiveDays 13 = .ok (.iastore, 1) := by decide +kernel
theorem d_bf_countLiveDays_14 : decode b_bf_countLiveDays 14 = .ok (.iinc 3 1, 3) := by decide +kernel
theorem d_bf_countLiveDays_17 : decode b_bf_countLiveDays 17 = .ok (.goto (-15), 3) := by decide +kernel
theorem d_bf_countLiveDays_20 : decode b_bf_countLiveDays 20 = .ok (.aload_n 0, 1) := by decide +kernel
theorem d_bf_countLiveDays_21 : decode b_bf_countLiveDays 21 = .ok (.getfield 49, 3) := by decide +kernel
theorem d_bf_countLiveDays_24 : decode b_bf_countLiveDays 24 = .ok (.iload_n 2, 1) := by decide +kernel
theorem d_bf_countLiveDays_25 : decode b_bf_countLiveDays 25 = .ok (.iaload, 1) := by decide +kernel
theorem d_bf_countLiveDays_26 : decode b_bf_countLiveDays 26 = .ok (.istore_n 3, 1) := by decide +kernel
theorem d_bf_countLiveDays_27 : decode b_bf_countLiveDays 27 = .ok (.iload_n 3, 1) := by decide +kernel
theorem d_bf_countLiveDays_28 : decode b_bf_countLiveDays 28 = .ok (.aload_n 0, 1) := by decide +kernel
theorem d_bf_countLiveDays_29 : decode b_bf_countLiveDays 29 = .ok (.getfield 49, 3) := by decide +kernel
theorem d_bf_countLiveDays_32 : decode b_bf_countLiveDays 32 = .ok (.iload_n 2, 1) := by decide +kernel
theorem d_bf_countLiveDays_33 : decode b_bf_countLiveDays 33 = .ok (.iconst 1, 1) := by decide +kernel
theorem d_bf_countLiveDays_34 : decode b_bf_countLiveDays 34 = .ok (.iadd, 1) := by decide +kernel
theorem d_bf_countLiveDays_35 : decode b_bf_countLiveDays 35 = .ok (.iaload, 1) := by decide +kernel
theorem d_bf_countLiveDays_36 : decode b_bf_countLiveDays 36 = .ok (.if_icmp .ge 52, 3) := by decide +kernel
theorem d_bf_countLiveDays_39 : decode b_bf_countLiveDays 39 = .ok (.iload_n 3, 1) := by decide +kernel
theorem d_bf_countLiveDays_40 : decode b_bf_countLiveDays 40 = .ok (.aload_n 0, 1) := by decide +kernel
theorem d_bf_countLiveDays_41 : decode b_bf_countLiveDays 41 = .ok (.getfield 60, 3) := by decide +kernel
theorem d_bf_countLiveDays_44 : decode b_bf_countLiveDays 44 = .ok (.if_icmp .gt 44, 3) := by decide +kernel
theorem d_bf_countLiveDays_47 : decode b_bf_countLiveDays 47 = .ok (.aload_n 0, 1) := by decide +kernel
theorem d_bf_countLiveDays_48 : decode b_bf_countLiveDays 48 = .ok (.getfield 24, 3) := by decide +kernel
theorem d_bf_countLiveDays_51 : decode b_bf_countLiveDays 51 = .ok (.iload_n 1, 1) := by decide +kernel
theorem d_bf_countLiveDays_52 : decode b_bf_countLiveDays 52 = .ok (.aaload, 1) := by decide +kernel
theorem d_bf_countLiveDays_53 : decode b_bf_countLiveDays 53 = .ok (.iload_n 3, 1) := by decide +kernel
theorem d_bf_countLiveDays_54 : decode b_bf_countLiveDays 54 = .ok (.aload_n 0, 1) := by decide +kernel
theorem d_bf_countLiveDays_55 : decode b_bf_countLiveDays 55 = .ok (.getfield 60, 3) := by decide +kernel
theorem d_bf_countLiveDays_58 : decode b_bf_countLiveDays 58 = .ok (.invokevirtual 282, 3) := by decide +kernel
theorem d_bf_countLiveDays_61 : decode b_bf_countLiveDays 61 = .ok (.istore 4, 2) := by decide +kernel
theorem d_bf_countLiveDays_63 : decode b_bf_countLiveDays 63 = .ok (.iload 4, 2) := by decide +kernel
theorem d_bf_countLiveDays_65 : decode b_bf_countLiveDays 65 = .ok (.invokestatic 94, 3) := by decide +kernel
theorem d_bf_countLiveDays_68 : decode b_bf_countLiveDays 68 = .ok (.ifCond .eq 14, 3) := by decide +kernel
theorem d_bf_countLiveDays_71 : decode b_bf_countLiveDays 71 = .ok (.aload_n 0, 1) := by decide +kernel
theorem d_bf_countLiveDays_72 : decode b_bf_countLiveDays 72 = .ok (.getfield 53, 3) := by decide +kernel
theorem d_bf_countLiveDays_75 : decode b_bf_countLiveDays 75 = .ok (.iload 4, 2) := by decide +kernel
theorem d_bf_countLiveDays_77 : decode b_bf_countLiveDays 77 = .ok (.dup2, 1) := by decide +kernel
theorem d_bf_countLiveDays_78 : decode b_bf_countLiveDays 78 = .ok (.iaload, 1) := by decide +kernel
theorem d_bf_countLiveDays_79 : decode b_bf_countLiveDays 79 = .ok (.iconst 1, 1) := by decide +kernel
theorem d_bf_countLiveDays_80 : decode b_bf_countLiveDays 80 = .ok (.iadd, 1) := by decide +kernel
theorem d_bf_countLiveDays_81 : decode b_bf_countLiveDays 81 = .ok (.iastore, 1) := by decide +kernel
theorem d_bf_countLiveDays_82 : decode b_bf_countLiveDays 82 = .ok (.iinc 3 1, 3) := by decide +kernel
theorem d_bf_countLiveDays_85 : decode b_bf_countLiveDays 85 = .ok (.goto (-58), 3) := by decide +kernel
theorem d_bf_countLiveDays_88 : decode b_bf_countLiveDays 88 = .ok (.return_, 1) := by decide +kernel
theorem d_bf_countLiveUnits_0 : decode b_bf_countLiveUnits 0 = .ok (.iconst 0, 1) := by decide +kernel
theorem d_bf_countLiveUnits_1 : decode b_bf_countLiveUnits 1 = .ok (.istore_n 3, 1) := by decide +kernel
theorem d_bf_countLiveUnits_2 : decode b_bf_countLiveUnits 2 = .ok (.iload_n 3, 1) := by decide +kernel
theorem d_bf_countLiveUnits_3 : decode b_bf_countLiveUnits 3 = .ok (.iconst 3, 1) := by decide +kernel
theorem d_bf_countLiveUnits_4 : decode b_bf_countLiveUnits 4 = .ok (.if_icmp .ge 16, 3) := by decide +kernel
theorem d_bf_countLiveUnits_7 : decode b_bf_countLiveUnits 7 = .ok (.aload_n 0, 1) := by decide +kernel
theorem d_bf_countLiveUnits_8 : decode b_bf_countLiveUnits 8 = .ok (.getfield 56, 3) := by decide +kernel
theorem d_bf_countLiveUnits_11 : decode b_bf_countLiveUnits 11 = .ok (.iload_n 3, 1) := by decide +kernel
theorem d_bf_countLiveUnits_12 : decode b_bf_countLiveUnits 12 = .ok (.lconst 0, 1) := by decide +kernel
theorem d_bf_countLiveUnits_13 : decode b_bf_countLiveUnits 13 = .ok (.lastore, 1) := by decide +kernel
theorem d_bf_countLiveUnits_14 : decode b_bf_countLiveUnits 14 = .ok (.iinc 3 1, 3) := by decide +kernel
theorem d_bf_countLiveUnits_17 : decode b_bf_countLiveUnits 17 = .ok (.goto (-15), 3) := by decide +kernel
theorem d_bf_countLiveUnits_20 : decode b_bf_countLiveUnits 20 = .ok (.iconst 0, 1) := by decide +kernel
theorem d_bf_countLiveUnits_21 : decode b_bf_countLiveUnits 21 = .ok (.istore_n 3, 1) := by decide +kernel
theorem d_bf_countLiveUnits_22 : decode b_bf_countLiveUnits 22 = .ok (.iload_n 3, 1) := by decide +kernel
theorem d_bf_countLiveUnits_23 : decode b_bf_countLiveUnits 23 = .ok (.aload_n 0, 1) := by decide +kernel
theorem d_bf_countLiveUnits_24 : decode b_bf_countLiveUnits 24 = .ok (.getfield 31, 3) := by decide +kernel
theorem d_bf_countLiveUnits_27 : decode b_bf_countLiveUnits 27 = .ok (.invokevirtual 160, 3) := by decide +kernel
theorem d_bf_countLiveUnits_30 : decode b_bf_countLiveUnits 30 = .ok (.if_icmp .ge 99, 3) := by decide +kernel
theorem d_bf_countLiveUnits_33 : decode b_bf_countLiveUnits 33 = .ok (.aload_n 0, 1) := by decide +kernel
theorem d_bf_countLiveUnits_34 : decode b_bf_countLiveUnits 34 = .ok (.getfield 31, 3) := by decide +kernel
theorem d_bf_countLiveUnits_37 : decode b_bf_countLiveUnits 37 = .ok (.iload_n 3, 1) := by decide +kernel
theorem d_bf_countLiveUnits_38 : decode b_bf_countLiveUnits 38 = .ok (.invokevirtual 285, 3) := by decide +kernel
theorem d_bf_countLiveUnits_41 : decode b_bf_countLiveUnits 41 = .ok (.istore 4, 2) := by decide +kernel
theorem d_bf_countLiveUnits_43 : decode b_bf_countLiveUnits 43 = .ok (.aload_n 0, 1) := by decide +kernel
theorem d_bf_countLiveUnits_44 : decode b_bf_countLiveUnits 44 = .ok (.getfield 31, 3) := by decide +kernel
theorem d_bf_countLiveUnits_47 : decode b_bf_countLiveUnits 47 = .ok (.iload_n 3, 1) := by decide +kernel
theorem d_bf_countLiveUnits_48 : decode b_bf_countLiveUnits 48 = .ok (.invokevirtual 286, 3) := by decide +kernel
theorem d_bf_countLiveUnits_51 : decode b_bf_countLiveUnits 51 = .ok (.iload_n 1, 1) := by decide +kernel
theorem d_bf_countLiveUnits_52 : decode b_bf_countLiveUnits 52 = .ok (.if_icmp .ne 71, 3) := by decide +kernel
theorem d_bf_countLiveUnits_55 : decode b_bf_countLiveUnits 55 = .ok (.iload 4, 2) := by decide +kernel
theorem d_bf_countLiveUnits_57 : decode b_bf_countLiveUnits 57 = .ok (.aload_n 0, 1) := by decide +kernel
theorem d_bf_countLiveUnits_58 : decode b_bf_countLiveUnits 58 = .ok (.getfield 49, 3) := by decide +kernel
theorem d_bf_countLiveUnits_61 : decode b_bf_countLiveUnits 61 = .ok (.iload_n 2, 1) := by decide +kernel
theorem d_bf_countLiveUnits_62 : decode b_bf_countLiveUnits 62 = .ok (.iaload, 1) := by decide +kernel
theorem d_bf_countLiveUnits_63 : decode b_bf_countLiveUnits 63 = .ok (.if_icmp .lt 60, 3) := by decide +kernel
theorem d_bf_countLiveUnits_66 : decode b_bf_countLiveUnits 66 = .ok (.iload 4, 2) := by decide +kernel
theorem d_bf_countLiveUnits_68 : decode b_bf_countLiveUnits 68 = .ok (.aload_n 0, 1) := by decide +kernel
theorem d_bf_countLiveUnits_69 : decode b_bf_countLiveUnits 69 = .ok (.getfield 49, 3) := by decide +kernel
theorem d_bf_countLiveUnits_72 : decode b_bf_countLiveUnits 72 = .ok (.iload_n 2, 1) := by decide +kernel
theorem d_bf_countLiveUnits_73 : decode b_bf_countLiveUnits 73 = .ok (.iconst 1, 1) := by decide +kernel
theorem d_bf_countLiveUnits_74 : decode b_bf_countLiveUnits 74 = .ok (.iadd, 1) := by decide +kernel
theorem d_bf_countLiveUnits_75 : decode b_bf_countLiveUnits 75 = .ok (.iaload, 1) := by decide +kernel
theorem d_bf_countLiveUnits_76 : decode b_bf_countLiveUnits 76 = .ok (.if_icmp .ge 47, 3) := by decide +kernel
theorem d_bf_countLiveUnits_79 : decode b_bf_countLiveUnits 79 = .ok (.aload_n 0, 1) := by decide +kernel
theorem d_bf_countLiveUnits_80 : decode b_bf_countLiveUnits 80 = .ok (.getfield 24, 3) := by decide +kernel
theorem d_bf_countLiveUnits_83 : decode b_bf_countLiveUnits 83 = .ok (.iload_n 1, 1) := by decide +kernel
theorem d_bf_countLiveUnits_84 : decode b_bf_countLiveUnits 84 = .ok (.aaload, 1) := by decide +kernel
theorem d_bf_countLiveUnits_85 : decode b_bf_countLiveUnits 85 = .ok (.iload 4, 2) := by decide +kernel
theorem d_bf_countLiveUnits_87 : decode b_bf_countLiveUnits 87 = .ok (.aload_n 0, 1) := by decide +kernel
theorem d_bf_countLiveUnits_88 : decode b_bf_countLiveUnits 88 = .ok (.getfield 60, 3) := by decide +kernel
theorem d_bf_countLiveUnits_91 : decode b_bf_countLiveUnits 91 = .ok (.invokevirtual 282, 3) := by decide +kernel
theorem d_bf_countLiveUnits_94 : decode b_bf_countLiveUnits 94 = .ok (.istore 5, 2) := by decide +kernel
theorem d_bf_countLiveUnits_96 : decode b_bf_countLiveUnits 96 = .ok (.iload 5, 2) := by decide +kernel
theorem d_bf_countLiveUnits_98 : decode b_bf_countLiveUnits 98 = .ok (.invokestatic 94, 3) := by decide +kernel
theorem d_bf_countLiveUnits_101 : decode b_bf_countLiveUnits 101 = .ok (.ifCond .eq 22, 3) := by decide +kernel
theorem d_bf_countLiveUnits_104 : decode b_bf_countLiveUnits 104 = .ok (.aload_n 0, 1) := by decide +kernel
theorem d_bf_countLiveUnits_105 : decode b_bf_countLiveUnits 105 = .ok (.getfield 56, 3) := by decide +kernel
theorem d_bf_countLiveUnits_108 : decode b_bf_countLiveUnits 108 = .ok (.iload 5, 2) := by decide +kernel
theorem d_bf_countLiveUnits_110 : decode b_bf_countLiveUnits 110 = .ok (.dup2, 1) := by decide +kernel
theorem d_bf_countLiveUnits_111 : decode b_bf_countLiveUnits 111 = .ok (.laload, 1) := by decide +kernel
theorem d_bf_countLiveUnits_112 : decode b_bf_countLiveUnits 112 = .ok (.aload_n 0, 1) := by decide +kernel
theorem d_bf_countLiveUnits_113 : decode b_bf_countLiveUnits 113 = .ok (.getfield 31, 3) := by decide +kernel
theorem d_bf_countLiveUnits_116 : decode b_bf_countLiveUnits 116 = .ok (.iload_n 3, 1) := by decide +kernel
theorem d_bf_countLiveUnits_117 : decode b_bf_countLiveUnits 117 = .ok (.invokevirtual 287, 3) := by decide +kernel
theorem d_bf_countLiveUnits_120 : decode b_bf_countLiveUnits 120 = .ok (.i2l, 1) := by decide +kernel
theorem d_bf_countLiveUnits_121 : decode b_bf_countLiveUnits 121 = .ok (.ladd, 1) := by decide +kernel
theorem d_bf_countLiveUnits_122 : decode b_bf_countLiveUnits 122 = .ok (.lastore, 1) := by decide +kernel
theorem d_bf_countLiveUnits_123 : decode b_bf_countLiveUnits 123 = .ok (.iinc 3 1, 3) := by decide +kernel
theorem d_bf_countLiveUnits_126 : decode b_bf_countLiveUnits 126 = .ok (.goto (-104), 3) := by decide +kernel
theorem d_bf_countLiveUnits_129 : decode b_bf_countLiveUnits 129 = .ok (.return_, 1) := by decide +kernel
theorem d_bf_allOpen_0 : decode b_bf_allOpen 0 = .ok (.lconst 0, 1) := by decide +kernel
theorem d_bf_allOpen_1 : decode b_bf_allOpen 1 = .ok (.lstore_n 1, 1) := by decide +kernel
theorem d_bf_allOpen_2 : decode b_bf_allOpen 2 = .ok (.iconst 0, 1) := by decide +kernel
theorem d_bf_allOpen_3 : decode b_bf_allOpen 3 = .ok (.istore_n 3, 1) := by decide +kernel
theorem d_bf_allOpen_4 : decode b_bf_allOpen 4 = .ok (.iload_n 3, 1) := by decide +kernel
theorem d_bf_allOpen_5 : decode b_bf_allOpen 5 = .ok (.iconst 5, 1) := by decide +kernel
theorem d_bf_allOpen_6 : decode b_bf_allOpen 6 = .ok (.if_icmp .ge 20, 3) := by decide +kernel
theorem d_bf_allOpen_9 : decode b_bf_allOpen 9 = .ok (.lload_n 1, 1) := by decide +kernel
theorem d_bf_allOpen_10 : decode b_bf_allOpen 10 = .ok (.aload_n 0, 1) := by decide +kernel
theorem d_bf_allOpen_11 : decode b_bf_allOpen 11 = .ok (.getfield 38, 3) := by decide +kernel
theorem d_bf_allOpen_14 : decode b_bf_allOpen 14 = .ok (.iload_n 3, 1) := by decide +kernel
theorem d_bf_allOpen_15 : decode b_bf_allOpen 15 = .ok (.invokevirtual 221, 3) := by decide +kernel
theorem d_bf_allOpen_18 : decode b_bf_allOpen 18 = .ok (.ladd, 1) := by decide +kernel
theorem d_bf_allOpen_19 : decode b_bf_allOpen 19 = .ok (.lstore_n 1, 1) := by decide +kernel
theorem d_bf_allOpen_20 : decode b_bf_allOpen 20 = .ok (.iinc 3 1, 3) := by decide +kernel
theorem d_bf_allOpen_23 : decode b_bf_allOpen 23 = .ok (.goto (-19), 3) := by decide +kernel
theorem d_bf_allOpen_26 : decode b_bf_allOpen 26 = .ok (.lload_n 1, 1) := by decide +kernel
theorem d_bf_allOpen_27 : decode b_bf_allOpen 27 = .ok (.lreturn, 1) := by decide +kernel
theorem d_bf_allCredit_0 : decode b_bf_allCredit 0 = .ok (.lconst 0, 1) := by decide +kernel
theorem d_bf_allCredit_1 : decode b_bf_allCredit 1 = .ok (.lstore_n 1, 1) := by decide +kernel
theorem d_bf_allCredit_2 : decode b_bf_allCredit 2 = .ok (.iconst 0, 1) := by decide +kernel
theorem d_bf_allCredit_3 : decode b_bf_allCredit 3 = .ok (.istore_n 3, 1) := by decide +kernel
theorem d_bf_allCredit_4 : decode b_bf_allCredit 4 = .ok (.iload_n 3, 1) := by decide +kernel
theorem d_bf_allCredit_5 : decode b_bf_allCredit 5 = .ok (.iconst 5, 1) := by decide +kernel
theorem d_bf_allCredit_6 : decode b_bf_allCredit 6 = .ok (.if_icmp .ge 21, 3) := by decide +kernel
theorem d_bf_allCredit_9 : decode b_bf_allCredit 9 = .ok (.lload_n 1, 1) := by decide +kernel
theorem d_bf_allCredit_10 : decode b_bf_allCredit 10 = .ok (.aload_n 0, 1) := by decide +kernel
theorem d_bf_allCredit_11 : decode b_bf_allCredit 11 = .ok (.getfield 24, 3) := by decide +kernel
theorem d_bf_allCredit_14 : decode b_bf_allCredit 14 = .ok (.iload_n 3, 1) := by decide +kernel
theorem d_bf_allCredit_15 : decode b_bf_allCredit 15 = .ok (.aaload, 1) := by decide +kernel
theorem d_bf_allCredit_16 : decode b_bf_allCredit 16 = .ok (.invokevirtual 175, 3) := by decide +kernel
theorem d_bf_allCredit_19 : decode b_bf_allCredit 19 = .ok (.ladd, 1) := by decide +kernel
theorem d_bf_allCredit_20 : decode b_bf_allCredit 20 = .ok (.lstore_n 1, 1) := by decide +kernel
theorem d_bf_allCredit_21 : decode b_bf_allCredit 21 = .ok (.iinc 3 1, 3) := by decide +kernel
theorem d_bf_allCredit_24 : decode b_bf_allCredit 24 = .ok (.goto (-20), 3) := by decide +kernel
theorem d_bf_allCredit_27 : decode b_bf_allCredit 27 = .ok (.lload_n 1, 1) := by decide +kernel
theorem d_bf_allCredit_28 : decode b_bf_allCredit 28 = .ok (.lreturn, 1) := by decide +kernel
theorem d_bf_allEarned_0 : decode b_bf_allEarned 0 = .ok (.lconst 0, 1) := by decide +kernel
theorem d_bf_allEarned_1 : decode b_bf_allEarned 1 = .ok (.lstore_n 1, 1) := by decide +kernel
theorem d_bf_allEarned_2 : decode b_bf_allEarned 2 = .ok (.iconst 0, 1) := by decide +kernel
theorem d_bf_allEarned_3 : decode b_bf_allEarned 3 = .ok (.istore_n 3, 1) := by decide +kernel
theorem d_bf_allEarned_4 : decode b_bf_allEarned 4 = .ok (.iload_n 3, 1) := by decide +kernel
theorem d_bf_allEarned_5 : decode b_bf_allEarned 5 = .ok (.iconst 5, 1) := by decide +kernel
theorem d_bf_allEarned_6 : decode b_bf_allEarned 6 = .ok (.if_icmp .ge 24, 3) := by decide +kernel
theorem d_bf_allEarned_9 : decode b_bf_allEarned 9 = .ok (.lload_n 1, 1) := by decide +kernel
theorem d_bf_allEarned_10 : decode b_bf_allEarned 10 = .ok (.aload_n 0, 1) := by decide +kernel
theorem d_bf_allEarned_11 : decode b_bf_allEarned 11 = .ok (.getfield 45, 3) := by decide +kernel
theorem d_bf_allEarned_14 : decode b_bf_allEarned 14 = .ok (.iload_n 3, 1) := by decide +kernel
theorem d_bf_allEarned_15 : decode b_bf_allEarned 15 = .ok (.aload_n 0, 1) := by decide +kernel
theorem d_bf_allEarned_16 : decode b_bf_allEarned 16 = .ok (.getfield 60, 3) := by decide +kernel
theorem d_bf_allEarned_19 : decode b_bf_allEarned 19 = .ok (.invokevirtual 227, 3) := by decide +kernel
theorem d_bf_allEarned_22 : decode b_bf_allEarned 22 = .ok (.ladd, 1) := by decide +kernel
theorem d_bf_allEarned_23 : decode b_bf_allEarned 23 = .ok (.lstore_n 1, 1) := by decide +kernel
theorem d_bf_allEarned_24 : decode b_bf_allEarned 24 = .ok (.iinc 3 1, 3) := by decide +kernel
theorem d_bf_allEarned_27 : decode b_bf_allEarned 27 = .ok (.goto (-23), 3) := by decide +kernel
theorem d_bf_allEarned_30 : decode b_bf_allEarned 30 = .ok (.lload_n 1, 1) := by decide +kernel
theorem d_bf_allEarned_31 : decode b_bf_allEarned 31 = .ok (.lreturn, 1) := by decide +kernel
theorem d_tr_init_0 : decode b_tr_init 0 = .ok (.aload_n 0, 1) := by decide +kernel
theorem d_tr_init_1 : decode b_tr_init 1 = .ok (.invokespecial 3, 3) := by decide +kernel
theorem d_tr_init_4 : decode b_tr_init 4 = .ok (.aload_n 0, 1) := by decide +kernel
theorem d_tr_init_5 : decode b_tr_init 5 = .ok (.bipush 60, 2) := by decide +kernel
theorem d_tr_init_7 : decode b_tr_init 7 = .ok (.newarray .char, 2) := by decide +kernel
theorem d_tr_init_9 : decode b_tr_init 9 = .ok (.putfield 11, 3) := by decide +kernel
theorem d_tr_init_12 : decode b_tr_init 12 = .ok (.aload_n 0, 1) := by decide +kernel
theorem d_tr_init_13 : decode b_tr_init 13 = .ok (.bipush 6, 2) := by decide +kernel
theorem d_tr_init_15 : decode b_tr_init 15 = .ok (.newarray .boolean, 2) := by decide +kernel
theorem d_tr_init_17 : decode b_tr_init 17 = .ok (.putfield 15, 3) := by decide +kernel
theorem d_tr_init_20 : decode b_tr_init 20 = .ok (.aload_n 0, 1) := by decide +kernel
theorem d_tr_init_21 : decode b_tr_init 21 = .ok (.new 19, 3) := by decide +kernel
theorem d_tr_init_24 : decode b_tr_init 24 = .ok (.dup, 1) := by decide +kernel
theorem d_tr_init_25 : decode b_tr_init 25 = .ok (.invokespecial 21, 3) := by decide +kernel
theorem d_tr_init_28 : decode b_tr_init 28 = .ok (.putfield 22, 3) := by decide +kernel
theorem d_tr_init_31 : decode b_tr_init 31 = .ok (.aload_n 0, 1) := by decide +kernel
theorem d_tr_init_32 : decode b_tr_init 32 = .ok (.iconst 0, 1) := by decide +kernel
theorem d_tr_init_33 : decode b_tr_init 33 = .ok (.putfield 26, 3) := by decide +kernel
theorem d_tr_init_36 : decode b_tr_init 36 = .ok (.aload_n 0, 1) := by decide +kernel
theorem d_tr_init_37 : decode b_tr_init 37 = .ok (.iconst 0, 1) := by decide +kernel
theorem d_tr_init_38 : decode b_tr_init 38 = .ok (.putfield 30, 3) := by decide +kernel
theorem d_tr_init_41 : decode b_tr_init 41 = .ok (.aload_n 0, 1) := by decide +kernel
theorem d_tr_init_42 : decode b_tr_init 42 = .ok (.iconst 0, 1) := by decide +kernel
theorem d_tr_init_43 : decode b_tr_init 43 = .ok (.putfield 33, 3) := by decide +kernel
theorem d_tr_init_46 : decode b_tr_init 46 = .ok (.aload_n 0, 1) := by decide +kernel
theorem d_tr_init_47 : decode b_tr_init 47 = .ok (.bipush (-2), 2) := by decide +kernel
theorem d_tr_init_49 : decode b_tr_init 49 = .ok (.putfield 36, 3) := by decide +kernel
theorem d_tr_init_52 : decode b_tr_init 52 = .ok (.return_, 1) := by decide +kernel
theorem d_tr_charactersIn_0 : decode b_tr_charactersIn 0 = .ok (.iconst 0, 1) := by decide +kernel
theorem d_tr_charactersIn_1 : decode b_tr_charactersIn 1 = .ok (.istore_n 2, 1) := by decide +kernel
theorem d_tr_charactersIn_2 : decode b_tr_charactersIn 2 = .ok (.bipush 56, 2) := by decide +kernel
theorem d_tr_charactersIn_4 : decode b_tr_charactersIn 4 = .ok (.istore_n 3, 1) := by decide +kernel
theorem d_tr_charactersIn_5 : decode b_tr_charactersIn 5 = .ok (.iload_n 3, 1) := by decide +kernel
theorem d_tr_charactersIn_6 : decode b_tr_charactersIn 6 = .ok (.ifCond .lt 43, 3) := by decide +kernel
theorem d_tr_charactersIn_9 : decode b_tr_charactersIn 9 = .ok (.lload_n 0, 1) := by decide +kernel
theorem d_tr_charactersIn_10 : decode b_tr_charactersIn 10 = .ok (.iload_n 3, 1) := by decide +kernel
theorem d_tr_charactersIn_11 : decode b_tr_charactersIn 11 = .ok (.lushr, 1) := by decide +kernel
theorem d_tr_charactersIn_12 : decode b_tr_charactersIn 12 = .ok (.l2i, 1) := by decide +kernel
theorem d_tr_charactersIn_13 : decode b_tr_charactersIn 13 = .ok (.sipush 255, 3) := by decide +kernel
theorem d_tr_charactersIn_16 : decode b_tr_charactersIn 16 = .ok (.iand, 1) := by decide +kernel
theorem d_tr_charactersIn_17 : decode b_tr_charactersIn 17 = .ok (.istore 4, 2) := by decide +kernel
theorem d_tr_charactersIn_19 : decode b_tr_charactersIn 19 = .ok (.iload 4, 2) := by decide +kernel
theorem d_tr_charactersIn_21 : decode b_tr_charactersIn 21 = .ok (.ifCond .eq 22, 3) := by decide +kernel
theorem d_tr_charactersIn_24 : decode b_tr_charactersIn 24 = .ok (.iload 4, 2) := by decide +kernel
theorem d_tr_charactersIn_26 : decode b_tr_charactersIn 26 = .ok (.bipush 32, 2) := by decide +kernel
theorem d_tr_charactersIn_28 : decode b_tr_charactersIn 28 = .ok (.if_icmp .lt 10, 3) := by decide +kernel
theorem d_tr_charactersIn_31 : decode b_tr_charactersIn 31 = .ok (.iload 4, 2) := by decide +kernel
theorem d_tr_charactersIn_33 : decode b_tr_charactersIn 33 = .ok (.bipush 126, 2) := by decide +kernel
theorem d_tr_charactersIn_35 : decode b_tr_charactersIn 35 = .ok (.if_icmp .le 5, 3) := by decide +kernel
theorem d_tr_charactersIn_38 : decode b_tr_charactersIn 38 = .ok (.iconst (-1), 1) := by decide +kernel
theorem d_tr_charactersIn_39 : decode b_tr_charactersIn 39 = .ok (.ireturn, 1) := by decide +kernel
theorem d_tr_charactersIn_40 : decode b_tr_charactersIn 40 = .ok (.iinc 2 1, 3) := by decide +kernel
theorem d_tr_charactersIn_43 : decode b_tr_charactersIn 43 = .ok (.iinc 3 (-8), 3) := by decide +kernel
theorem d_tr_charactersIn_46 : decode b_tr_charactersIn 46 = .ok (.goto (-41), 3) := by decide +kernel
theorem d_tr_charactersIn_49 : decode b_tr_charactersIn 49 = .ok (.iload_n 2, 1) := by decide +kernel
theorem d_tr_charactersIn_50 : decode b_tr_charactersIn 50 = .ok (.ireturn, 1) := by decide +kernel
theorem d_tr_append_0 : decode b_tr_append 0 = .ok (.bipush 56, 2) := by decide +kernel
theorem d_tr_append_2 : decode b_tr_append 2 = .ok (.istore_n 3, 1) := by decide +kernel
theorem d_tr_append_3 : decode b_tr_append 3 = .ok (.iload_n 3, 1) := by decide +kernel
theorem d_tr_append_4 : decode b_tr_append 4 = .ok (.ifCond .lt 55, 3) := by decide +kernel
theorem d_tr_append_7 : decode b_tr_append 7 = .ok (.lload_n 1, 1) := by decide +kernel
theorem d_tr_append_8 : decode b_tr_append 8 = .ok (.iload_n 3, 1) := by decide +kernel
theorem d_tr_append_9 : decode b_tr_append 9 = .ok (.lushr, 1) := by decide +kernel
theorem d_tr_append_10 : decode b_tr_append 10 = .ok (.l2i, 1) := by decide +kernel
theorem d_tr_append_11 : decode b_tr_append 11 = .ok (.sipush 255, 3) := by decide +kernel
theorem d_tr_append_14 : decode b_tr_append 14 = .ok (.iand, 1) := by decide +kernel
theorem d_tr_append_15 : decode b_tr_append 15 = .ok (.istore 4, 2) := by decide +kernel
theorem d_tr_append_17 : decode b_tr_append 17 = .ok (.iload 4, 2) := by decide +kernel
theorem d_tr_append_19 : decode b_tr_append 19 = .ok (.ifCond .eq 34, 3) := by decide +kernel
theorem d_tr_append_22 : decode b_tr_append 22 = .ok (.aload_n 0, 1) := by decide +kernel
theorem d_tr_append_23 : decode b_tr_append 23 = .ok (.getfield 26, 3) := by decide +kernel
theorem d_tr_append_26 : decode b_tr_append 26 = .ok (.bipush 60, 2) := by decide +kernel
theorem d_tr_append_28 : decode b_tr_append 28 = .ok (.if_icmp .ge 25, 3) := by decide +kernel
theorem d_tr_append_31 : decode b_tr_append 31 = .ok (.aload_n 0, 1) := by decide +kernel
theorem d_tr_append_32 : decode b_tr_append 32 = .ok (.getfield 11, 3) := by decide +kernel
theorem d_tr_append_35 : decode b_tr_append 35 = .ok (.aload_n 0, 1) := by decide +kernel
theorem d_tr_append_36 : decode b_tr_append 36 = .ok (.getfield 26, 3) := by decide +kernel
theorem d_tr_append_39 : decode b_tr_append 39 = .ok (.iload 4, 2) := by decide +kernel
theorem d_tr_append_41 : decode b_tr_append 41 = .ok (.i2c, 1) := by decide +kernel
theorem d_tr_append_42 : decode b_tr_append 42 = .ok (.castore, 1) := by decide +kernel
theorem d_tr_append_43 : decode b_tr_append 43 = .ok (.aload_n 0, 1) := by decide +kernel
theorem d_tr_append_44 : decode b_tr_append 44 = .ok (.dup, 1) := by decide +kernel
theorem d_tr_append_45 : decode b_tr_append 45 = .ok (.getfield 26, 3) := by decide +kernel
theorem d_tr_append_48 : decode b_tr_append 48 = .ok (.iconst 1, 1) := by decide +kernel
theorem d_tr_append_49 : decode b_tr_append 49 = .ok (.iadd, 1) := by decide +kernel
theorem d_tr_append_50 : decode b_tr_append 50 = .ok (.putfield 26, 3) := by decide +kernel
theorem d_tr_append_53 : decode b_tr_append 53 = .ok (.iinc 3 (-8), 3) := by decide +kernel
theorem d_tr_append_56 : decode b_tr_append 56 = .ok (.goto (-53), 3) := by decide +kernel
theorem d_tr_append_59 : decode b_tr_append 59 = .ok (.return_, 1) := by decide +kernel
theorem d_tr_empty_0 : decode b_tr_empty 0 = .ok (.aload_n 0, 1) := by decide +kernel
theorem d_tr_empty_1 : decode b_tr_empty 1 = .ok (.iconst 0, 1) := by decide +kernel
theorem d_tr_empty_2 : decode b_tr_empty 2 = .ok (.putfield 26, 3) := by decide +kernel
theorem d_tr_empty_5 : decode b_tr_empty 5 = .ok (.return_, 1) := by decide +kernel
theorem d_tr_forgetFault_0 : decode b_tr_forgetFault 0 = .ok (.aload_n 0, 1) := by decide +kernel
theorem d_tr_forgetFault_1 : decode b_tr_forgetFault 1 = .ok (.bipush (-2), 2) := by decide +kernel
theorem d_tr_forgetFault_3 : decode b_tr_forgetFault 3 = .ok (.putfield 36, 3) := by decide +kernel
theorem d_tr_forgetFault_6 : decode b_tr_forgetFault 6 = .ok (.return_, 1) := by decide +kernel
theorem d_tr_length_0 : decode b_tr_length 0 = .ok (.aload_n 0, 1) := by decide +kernel
theorem d_tr_length_1 : decode b_tr_length 1 = .ok (.getfield 26, 3) := by decide +kernel
theorem d_tr_length_4 : decode b_tr_length 4 = .ok (.ireturn, 1) := by decide +kernel
theorem d_tr_parts_0 : decode b_tr_parts 0 = .ok (.aload_n 0, 1) := by decide +kernel
theorem d_tr_parts_1 : decode b_tr_parts 1 = .ok (.getfield 33, 3) := by decide +kernel
theorem d_tr_parts_4 : decode b_tr_parts 4 = .ok (.ireturn, 1) := by decide +kernel
theorem d_tr_fault_0 : decode b_tr_fault 0 = .ok (.aload_n 0, 1) := by decide +kernel
theorem d_tr_fault_1 : decode b_tr_fault 1 = .ok (.getfield 36, 3) := by decide +kernel
theorem d_tr_fault_4 : decode b_tr_fault 4 = .ok (.ireturn, 1) := by decide +kernel
theorem d_tr_draft_0 : decode b_tr_draft 0 = .ok (.aload_n 0, 1) := by decide +kernel
theorem d_tr_draft_1 : decode b_tr_draft 1 = .ok (.getfield 22, 3) := by decide +kernel
theorem d_tr_draft_4 : decode b_tr_draft 4 = .ok (.areturn, 1) := by decide +kernel
theorem d_tr_readAll_0 : decode b_tr_readAll 0 = .ok (.aload_n 0, 1) := by decide +kernel
theorem d_tr_readAll_1 : decode b_tr_readAll 1 = .ok (.bipush (-2), 2) := by decide +kernel
theorem d_tr_readAll_3 : decode b_tr_readAll 3 = .ok (.putfield 36, 3) := by decide +kernel
theorem d_tr_readAll_6 : decode b_tr_readAll 6 = .ok (.aload_n 0, 1) := by decide +kernel
theorem d_tr_readAll_7 : decode b_tr_readAll 7 = .ok (.iconst 0, 1) := by decide +kernel
theorem d_tr_readAll_8 : decode b_tr_readAll 8 = .ok (.putfield 30, 3) := by decide +kernel
theorem d_tr_readAll_11 : decode b_tr_readAll 11 = .ok (.aload_n 0, 1) := by decide +kernel
theorem d_tr_readAll_12 : decode b_tr_readAll 12 = .ok (.iconst 0, 1) := by decide +kernel
theorem d_tr_readAll_13 : decode b_tr_readAll 13 = .ok (.putfield 33, 3) := by decide +kernel
theorem d_tr_readAll_16 : decode b_tr_readAll 16 = .ok (.aload_n 0, 1) := by decide +kernel
theorem d_tr_readAll_17 : decode b_tr_readAll 17 = .ok (.getfield 22, 3) := by decide +kernel
theorem d_tr_readAll_20 : decode b_tr_readAll 20 = .ok (.invokevirtual 39, 3) := by decide +kernel
theorem d_tr_readAll_23 : decode b_tr_readAll 23 = .ok (.iconst 0, 1) := by decide +kernel
theorem d_tr_readAll_24 : decode b_tr_readAll 24 = .ok (.istore_n 1, 1) := by decide +kernel
theorem d_tr_readAll_25 : decode b_tr_readAll 25 = .ok (.iload_n 1, 1) := by decide +kernel
theorem d_tr_readAll_26 : decode b_tr_readAll 26 = .ok (.bipush 6, 2) := by decide +kernel
theorem d_tr_readAll_28 : decode b_tr_readAll 28 = .ok (.if_icmp .ge 16, 3) := by decide +kernel
theorem d_tr_readAll_31 : decode b_tr_readAll 31 = .ok (.aload_n 0, 1) := by decide +kernel
theorem d_tr_readAll_32 : decode b_tr_readAll 32 = .ok (.getfield 15, 3) := by decide +kernel
theorem d_tr_readAll_35 : decode b_tr_readAll 35 = .ok (.iload_n 1, 1) := by decide +kernel
theorem d_tr_readAll_36 : decode b_tr_readAll 36 = .ok (.iconst 0, 1) := by decide +kernel
theorem d_tr_readAll_37 : decode b_tr_readAll 37 = .ok (.bastore, 1) := by decide +kernel
theorem d_tr_readAll_38 : decode b_tr_readAll 38 = .ok (.iinc 1 1, 3) := by decide +kernel
theorem d_tr_readAll_41 : decode b_tr_readAll 41 = .ok (.goto (-16), 3) := by decide +kernel
theorem d_tr_readAll_44 : decode b_tr_readAll 44 = .ok (.aload_n 0, 1) := by decide +kernel
theorem d_tr_readAll_45 : decode b_tr_readAll 45 = .ok (.getfield 36, 3) := by decide +kernel
theorem d_tr_readAll_48 : decode b_tr_readAll 48 = .ok (.bipush (-2), 2) := by decide +kernel
theorem d_tr_readAll_50 : decode b_tr_readAll 50 = .ok (.if_icmp .ne 38, 3) := by decide +kernel
theorem d_tr_readAll_53 : decode b_tr_readAll 53 = .ok (.aload_n 0, 1) := by decide +kernel
theorem d_tr_readAll_54 : decode b_tr_readAll 54 = .ok (.getfield 15, 3) := by decide +kernel
theorem d_tr_readAll_57 : decode b_tr_readAll 57 = .ok (.iconst 5, 1) := by decide +kernel
theorem d_tr_readAll_58 : decode b_tr_readAll 58 = .ok (.baload, 1) := by decide +kernel
theorem d_tr_readAll_59 : decode b_tr_readAll 59 = .ok (.ifCond .ne 29, 3) := by decide +kernel
theorem d_tr_readAll_62 : decode b_tr_readAll 62 = .ok (.aload_n 0, 1) := by decide +kernel
theorem d_tr_readAll_63 : decode b_tr_readAll 63 = .ok (.getfield 33, 3) := by decide +kernel
theorem d_tr_readAll_66 : decode b_tr_readAll 66 = .ok (.bipush 60, 2) := by decide +kernel
theorem d_tr_readAll_68 : decode b_tr_readAll 68 = .ok (.if_icmp .gt 20, 3) := by decide +kernel
theorem d_tr_readAll_71 : decode b_tr_readAll 71 = .ok (.aload_n 0, 1) := by decide +kernel
theorem d_tr_readAll_72 : decode b_tr_readAll 72 = .ok (.invokevirtual 42, 3) := by decide +kernel
theorem d_tr_readAll_75 : decode b_tr_readAll 75 = .ok (.aload_n 0, 1) := by decide +kernel
theorem d_tr_readAll_76 : decode b_tr_readAll 76 = .ok (.dup, 1) := by decide +kernel
theorem d_tr_readAll_77 : decode b_tr_readAll 77 = .ok (.getfield 33, 3) := by decide +kernel
theorem d_tr_readAll_80 : decode b_tr_readAll 80 = .ok (.iconst 1, 1) := by decide +kernel
theorem d_tr_readAll_81 : decode b_tr_readAll 81 = .ok (.iadd, 1) := by decide +kernel
theorem d_tr_readAll_82 : decode b_tr_readAll 82 = .ok (.putfield 33, 3) := by decide +kernel
theorem d_tr_readAll_85 : decode b_tr_readAll 85 = .ok (.goto (-41), 3) := by decide +kernel
theorem d_tr_readAll_88 : decode b_tr_readAll 88 = .ok (.aload_n 0, 1) := by decide +kernel
theorem d_tr_readAll_89 : decode b_tr_readAll 89 = .ok (.getfield 36, 3) := by decide +kernel
theorem d_tr_readAll_92 : decode b_tr_readAll 92 = .ok (.bipush (-2), 2) := by decide +kernel
theorem d_tr_readAll_94 : decode b_tr_readAll 94 = .ok (.if_icmp .ne 7, 3) := by decide +kernel
theorem d_tr_readAll_97 : decode b_tr_readAll 97 = .ok (.iconst 1, 1) := by decide +kernel
theorem d_tr_readAll_98 : decode b_tr_readAll 98 = .ok (.goto 4, 3) := by decide +kernel
theorem d_tr_readAll_101 : decode b_tr_readAll 101 = .ok (.iconst 0, 1) := by decide +kernel
theorem d_tr_readAll_102 : decode b_tr_readAll 102 = .ok (.ireturn, 1) := by decide +kernel
theorem d_tr_readPart_0 : decode b_tr_readPart 0 = .ok (.aload_n 0, 1) := by decide +kernel
theorem d_tr_readPart_1 : decode b_tr_readPart 1 = .ok (.invokevirtual 45, 3) := by decide +kernel
theorem d_tr_readPart_4 : decode b_tr_readPart 4 = .ok (.aload_n 0, 1) := by decide +kernel
theorem d_tr_readPart_5 : decode b_tr_readPart 5 = .ok (.getfield 30, 3) := by decide +kernel
theorem d_tr_readPart_8 : decode b_tr_readPart 8 = .ok (.istore_n 1, 1) := by decide +kernel
theorem d_tr_readPart_9 : decode b_tr_readPart 9 = .ok (.aload_n 0, 1) := by decide +kernel
theorem d_tr_readPart_10 : decode b_tr_readPart 10 = .ok (.invokevirtual 48, 3) := by decide +kernel
theorem d_tr_readPart_13 : decode b_tr_readPart 13 = .ok (.aload_n 0, 1) := by decide +kernel
theorem d_tr_readPart_14 : decode b_tr_readPart 14 = .ok (.getfield 30, 3) := by decide +kernel
theorem d_tr_readPart_17 : decode b_tr_readPart 17 = .ok (.iload_n 1, 1) := by decide +kernel
theorem d_tr_readPart_18 : decode b_tr_readPart 18 = .ok (.if_icmp .ne 12, 3) := by decide +kernel
theorem d_tr_readPart_21 : decode b_tr_readPart 21 = .ok (.aload_n 0, 1) := by decide +kernel
theorem d_tr_readPart_22 : decode b_tr_readPart 22 = .ok (.aload_n 0, 1) := by decide +kernel
theorem d_tr_readPart_23 : decode b_tr_readPart 23 = .ok (.getfield 30, 3) := by decide +kernel
theorem d_tr_readPart_26 : decode b_tr_readPart 26 = .ok (.putfield 36, 3) := by decide +kernel
theorem d_tr_readPart_29 : decode b_tr_readPart 29 = .ok (.return_, 1) := by decide +kernel
theorem d_tr_readPart_30 : decode b_tr_readPart 30 = .ok (.aload_n 0, 1) := by decide +kernel
theorem d_tr_readPart_31 : decode b_tr_readPart 31 = .ok (.iload_n 1, 1) := by decide +kernel
theorem d_tr_readPart_32 : decode b_tr_readPart 32 = .ok (.aload_n 0, 1) := by decide +kernel
theorem d_tr_readPart_33 : decode b_tr_readPart 33 = .ok (.getfield 30, 3) := by decide +kernel
theorem d_tr_readPart_36 : decode b_tr_readPart 36 = .ok (.invokevirtual 51, 3) := by decide +kernel
theorem d_tr_readPart_39 : decode b_tr_readPart 39 = .ok (.istore_n 2, 1) := by decide +kernel
theorem d_tr_readPart_40 : decode b_tr_readPart 40 = .ok (.aload_n 0, 1) := by decide +kernel
theorem d_tr_readPart_41 : decode b_tr_readPart 41 = .ok (.iload_n 2, 1) := by decide +kernel
theorem d_tr_readPart_42 : decode b_tr_readPart 42 = .ok (.invokevirtual 55, 3) := by decide +kernel
theorem d_tr_readPart_45 : decode b_tr_readPart 45 = .ok (.ifCond .ne 9, 3) := by decide +kernel
theorem d_tr_readPart_48 : decode b_tr_readPart 48 = .ok (.aload_n 0, 1) := by decide +kernel
theorem d_tr_readPart_49 : decode b_tr_readPart 49 = .ok (.iload_n 1, 1) := by decide +kernel
theorem d_tr_readPart_50 : decode b_tr_readPart 50 = .ok (.putfield 36, 3) := by decide +kernel
theorem d_tr_readPart_53 : decode b_tr_readPart 53 = .ok (.return_, 1) := by decide +kernel
theorem d_tr_readPart_54 : decode b_tr_readPart 54 = .ok (.aload_n 0, 1) := by decide +kernel
theorem d_tr_readPart_55 : decode b_tr_readPart 55 = .ok (.getfield 15, 3) := by decide +kernel
theorem d_tr_readPart_58 : decode b_tr_readPart 58 = .ok (.iload_n 2, 1) := by decide +kernel
theorem d_tr_readPart_59 : decode b_tr_readPart 59 = .ok (.iconst 1, 1) := by decide +kernel
theorem d_tr_readPart_60 : decode b_tr_readPart 60 = .ok (.bastore, 1) := by decide +kernel
theorem d_tr_readPart_61 : decode b_tr_readPart 61 = .ok (.aload_n 0, 1) := by decide +kernel
theorem d_tr_readPart_62 : decode b_tr_readPart 62 = .ok (.iload_n 2, 1) := by decide +kernel
theorem d_tr_readPart_63 : decode b_tr_readPart 63 = .ok (.invokevirtual 59, 3) := by decide +kernel
theorem d_tr_readPart_66 : decode b_tr_readPart 66 = .ok (.aload_n 0, 1) := by decide +kernel
theorem d_tr_readPart_67 : decode b_tr_readPart 67 = .ok (.getfield 36, 3) := by decide +kernel
theorem d_tr_readPart_70 : decode b_tr_readPart 70 = .ok (.bipush (-2), 2) := by decide +kernel
theorem d_tr_readPart_72 : decode b_tr_readPart 72 = .ok (.if_icmp .ne 8, 3) := by decide +kernel
theorem d_tr_readPart_75 : decode b_tr_readPart 75 = .ok (.aload_n 0, 1) := by decide +kernel
theorem d_tr_readPart_76 : decode b_tr_readPart 76 = .ok (.iload_n 2, 1) := by decide +kernel
theorem d_tr_readPart_77 : decode b_tr_readPart 77 = .ok (.invokevirtual 63, 3) := by decide +kernel
theorem d_tr_readPart_80 : decode b_tr_readPart 80 = .ok (.return_, 1) := by decide +kernel
theorem d_tr_readEndOfPart_0 : decode b_tr_readEndOfPart 0 = .ok (.aload_n 0, 1) := by decide +kernel
theorem d_tr_readEndOfPart_1 : decode b_tr_readEndOfPart 1 = .ok (.invokevirtual 45, 3) := by decide +kernel
theorem d_tr_readEndOfPart_4 : decode b_tr_readEndOfPart 4 = .ok (.iload_n 1, 1) := by decide +kernel
theorem d_tr_readEndOfPart_5 : decode b_tr_readEndOfPart 5 = .ok (.iconst 5, 1) := by decide +kernel
theorem d_tr_readEndOfPart_6 : decode b_tr_readEndOfPart 6 = .ok (.if_icmp .ne 25, 3) := by decide +kernel
theorem d_tr_readEndOfPart_9 : decode b_tr_readEndOfPart 9 = .ok (.aload_n 0, 1) := by decide +kernel
theorem d_tr_readEndOfPart_10 : decode b_tr_readEndOfPart 10 = .ok (.getfield 30, 3) := by decide +kernel
theorem d_tr_readEndOfPart_13 : decode b_tr_readEndOfPart 13 = .ok (.aload_n 0, 1) := by decide +kernel
theorem d_tr_readEndOfPart_14 : decode b_tr_readEndOfPart 14 = .ok (.getfield 26, 3) := by decide +kernel
theorem d_tr_readEndOfPart_17 : decode b_tr_readEndOfPart 17 = .ok (.if_icmp .ge 60, 3) := by decide +kernel
theorem d_tr_readEndOfPart_20 : decode b_tr_readEndOfPart 20 = .ok (.aload_n 0, 1) := by decide +kernel
theorem d_tr_readEndOfPart_21 : decode b_tr_readEndOfPart 21 = .ok (.aload_n 0, 1) := by decide +kernel
theorem d_tr_readEndOfPart_22 : decode b_tr_readEndOfPart 22 = .ok (.getfield 30, 3) := by decide +kernel
theorem d_tr_readEndOfPart_25 : decode b_tr_readEndOfPart 25 = .ok (.putfield 36, 3) := by decide +kernel
theorem d_tr_readEndOfPart_28 : decode b_tr_readEndOfPart 28 = .ok (.goto 49, 3) := by decide +kernel
theorem d_tr_readEndOfPart_31 : decode b_tr_readEndOfPart 31 = .ok (.aload_n 0, 1) := by decide +kernel
theorem d_tr_readEndOfPart_32 : decode b_tr_readEndOfPart 32 = .ok (.getfield 30, 3) := by decide +kernel
theorem d_tr_readEndOfPart_35 : decode b_tr_readEndOfPart 35 = .ok (.aload_n 0, 1) := by decide +kernel
theorem d_tr_readEndOfPart_36 : decode b_tr_readEndOfPart 36 = .ok (.getfield 26, 3) := by decide +kernel
theorem d_tr_readEndOfPart_39 : decode b_tr_readEndOfPart 39 = .ok (.if_icmp .ge 30, 3) := by decide +kernel
theorem d_tr_readEndOfPart_42 : decode b_tr_readEndOfPart 42 = .ok (.aload_n 0, 1) := by decide +kernel
theorem d_tr_readEndOfPart_43 : decode b_tr_readEndOfPart 43 = .ok (.getfield 11, 3) := by decide +kernel
theorem d_tr_readEndOfPart_46 : decode b_tr_readEndOfPart 46 = .ok (.aload_n 0, 1) := by decide +kernel
theorem d_tr_readEndOfPart_47 : decode b_tr_readEndOfPart 47 = .ok (.getfield 30, 3) := by decide +kernel
theorem d_tr_readEndOfPart_50 : decode b_tr_readEndOfPart 50 = .ok (.caload, 1) := by decide +kernel
theorem d_tr_readEndOfPart_51 : decode b_tr_readEndOfPart 51 = .ok (.bipush 59, 2) := by decide +kernel
theorem d_tr_readEndOfPart_53 : decode b_tr_readEndOfPart 53 = .ok (.if_icmp .ne 16, 3) := by decide +kernel
theorem d_tr_readEndOfPart_56 : decode b_tr_readEndOfPart 56 = .ok (.aload_n 0, 1) := by decide +kernel
theorem d_tr_readEndOfPart_57 : decode b_tr_readEndOfPart 57 = .ok (.dup, 1) := by decide +kernel
theorem d_tr_readEndOfPart_58 : decode b_tr_readEndOfPart 58 = .ok (.getfield 30, 3) := by decide +kernel
theorem d_tr_readEndOfPart_61 : decode b_tr_readEndOfPart 61 = .ok (.iconst 1, 1) := by decide +kernel
theorem d_tr_readEndOfPart_62 : decode b_tr_readEndOfPart 62 = .ok (.iadd, 1) := by decide +kernel
theorem d_tr_readEndOfPart_63 : decode b_tr_readEndOfPart 63 = .ok (.putfield 30, 3) := by decide +kernel
theorem d_tr_readEndOfPart_66 : decode b_tr_readEndOfPart 66 = .ok (.goto 11, 3) := by decide +kernel
theorem d_tr_readEndOfPart_69 : decode b_tr_readEndOfPart 69 = .ok (.aload_n 0, 1) := by decide +kernel
theorem d_tr_readEndOfPart_70 : decode b_tr_readEndOfPart 70 = .ok (.aload_n 0, 1) := by decide +kernel
theorem d_tr_readEndOfPart_71 : decode b_tr_readEndOfPart 71 = .ok (.getfield 30, 3) := by decide +kernel
theorem d_tr_readEndOfPart_74 : decode b_tr_readEndOfPart 74 = .ok (.putfield 36, 3) := by decide +kernel
theorem d_tr_readEndOfPart_77 : decode b_tr_readEndOfPart 77 = .ok (.return_, 1) := by decide +kernel
theorem d_tr_canStand_0 : decode b_tr_canStand 0 = .ok (.iload_n 1, 1) := by decide +kernel
theorem d_tr_canStand_1 : decode b_tr_canStand 1 = .ok (.ifCond .lt 9, 3) := by decide +kernel
theorem d_tr_canStand_4 : decode b_tr_canStand 4 = .ok (.iload_n 1, 1) := by decide +kernel
theorem d_tr_canStand_5 : decode b_tr_canStand 5 = .ok (.bipush 6, 2) := by decide +kernel
theorem d_tr_canStand_7 : decode b_tr_canStand 7 = .ok (.if_icmp .lt 5, 3) := by decide +kernel
theorem d_tr_canStand_10 : decode b_tr_canStand 10 = .ok (.iconst 0, 1) := by decide +kernel
theorem d_tr_canStand_11 : decode b_tr_canStand 11 = .ok (.ireturn, 1) := by decide +kernel
theorem d_tr_canStand_12 : decode b_tr_canStand 12 = .ok (.iload_n 1, 1) := by decide +kernel
theorem d_tr_canStand_13 : decode b_tr_canStand 13 = .ok (.iconst 4, 1) := by decide +kernel
theorem d_tr_canStand_14 : decode b_tr_canStand 14 = .ok (.if_icmp .ne 30, 3) := by decide +kernel
theorem d_tr_canStand_17 : decode b_tr_canStand 17 = .ok (.aload_n 0, 1) := by decide +kernel
theorem d_tr_canStand_18 : decode b_tr_canStand 18 = .ok (.getfield 22, 3) := by decide +kernel
theorem d_tr_canStand_21 : decode b_tr_canStand 21 = .ok (.invokevirtual 66, 3) := by decide +kernel
theorem d_tr_canStand_24 : decode b_tr_canStand 24 = .ok (.ifCond .ne 18, 3) := by decide +kernel
theorem d_tr_canStand_27 : decode b_tr_canStand 27 = .ok (.aload_n 0, 1) := by decide +kernel
theorem d_tr_canStand_28 : decode b_tr_canStand 28 = .ok (.getfield 22, 3) := by decide +kernel
theorem d_tr_canStand_31 : decode b_tr_canStand 31 = .ok (.invokevirtual 70, 3) := by decide +kernel
theorem d_tr_canStand_34 : decode b_tr_canStand 34 = .ok (.iconst 4, 1) := by decide +kernel
theorem d_tr_canStand_35 : decode b_tr_canStand 35 = .ok (.if_icmp .ge 7, 3) := by decide +kernel
theorem d_tr_canStand_38 : decode b_tr_canStand 38 = .ok (.iconst 1, 1) := by decide +kernel
theorem d_tr_canStand_39 : decode b_tr_canStand 39 = .ok (.goto 4, 3) := by decide +kernel
theorem d_tr_canStand_42 : decode b_tr_canStand 42 = .ok (.iconst 0, 1) := by decide +kernel
theorem d_tr_canStand_43 : decode b_tr_canStand 43 = .ok (.ireturn, 1) := by decide +kernel
theorem d_tr_canStand_44 : decode b_tr_canStand 44 = .ok (.iload_n 1, 1) := by decide +kernel
theorem d_tr_canStand_45 : decode b_tr_canStand 45 = .ok (.iconst 3, 1) := by decide +kernel
theorem d_tr_canStand_46 : decode b_tr_canStand 46 = .ok (.if_icmp .ne 15, 3) := by decide +kernel
theorem d_tr_canStand_49 : decode b_tr_canStand 49 = .ok (.aload_n 0, 1) := by decide +kernel
theorem d_tr_canStand_50 : decode b_tr_canStand 50 = .ok (.getfield 22, 3) := by decide +kernel
theorem d_tr_canStand_53 : decode b_tr_canStand 53 = .ok (.invokevirtual 70, 3) := by decide +kernel
theorem d_tr_canStand_56 : decode b_tr_canStand 56 = .ok (.ifCond .le 5, 3) := by decide +kernel
theorem d_tr_canStand_59 : decode b_tr_canStand 59 = .ok (.iconst 0, 1) := by decide +kernel
theorem d_tr_canStand_60 : decode b_tr_canStand 60 = .ok (.ireturn, 1) := by decide +kernel
theorem d_tr_canStand_61 : decode b_tr_canStand 61 = .ok (.aload_n 0, 1) := by decide +kernel
theorem d_tr_canStand_62 : decode b_tr_canStand 62 = .ok (.getfield 15, 3) := by decide +kernel
theorem d_tr_canStand_65 : decode b_tr_canStand 65 = .ok (.iload_n 1, 1) := by decide +kernel
theorem d_tr_canStand_66 : decode b_tr_canStand 66 = .ok (.baload, 1) := by decide +kernel
theorem d_tr_canStand_67 : decode b_tr_canStand 67 = .ok (.ifCond .ne 7, 3) := by decide +kernel
theorem d_tr_canStand_70 : decode b_tr_canStand 70 = .ok (.iconst 1, 1) := by decide +kernel
theorem d_tr_canStand_71 : decode b_tr_canStand 71 = .ok (.goto 4, 3) := by decide +kernel
theorem d_tr_canStand_74 : decode b_tr_canStand 74 = .ok (.iconst 0, 1) := by decide +kernel
theorem d_tr_canStand_75 : decode b_tr_canStand 75 = .ok (.ireturn, 1) := by decide +kernel
theorem d_tr_readNumbers_0 : decode b_tr_readNumbers 0 = .ok (.iload_n 1, 1) := by decide +kernel
theorem d_tr_readNumbers_1 : decode b_tr_readNumbers 1 = .ok (.iconst 3, 1) := by decide +kernel
theorem d_tr_readNumbers_2 : decode b_tr_readNumbers 2 = .ok (.if_icmp .eq 8, 3) := by decide +kernel
theorem d_tr_readNumbers_5 : decode b_tr_readNumbers 5 = .ok (.iload_n 1, 1) := by decide +kernel
theorem d_tr_readNumbers_6 : decode b_tr_readNumbers 6 = .ok (.iconst 4, 1) := by decide +kernel
theorem d_tr_readNumbers_7 : decode b_tr_readNumbers 7 = .ok (.if_icmp .ne 9, 3) := by decide +kernel
theorem d_tr_readNumbers_10 : decode b_tr_readNumbers 10 = .ok (.aload_n 0, 1) := by decide +kernel
theorem d_tr_readNumbers_11 : decode b_tr_readNumbers 11 = .ok (.iload_n 1, 1) := by decide +kernel
theorem d_tr_readNumbers_12 : decode b_tr_readNumbers 12 = .ok (.invokevirtual 74, 3) := by decide +kernel
theorem d_tr_readNumbers_15 : decode b_tr_readNumbers 15 = .ok (.return_, 1) := by decide +kernel
theorem d_tr_readNumbers_16 : decode b_tr_readNumbers 16 = .ok (.aload_n 0, 1) := by decide +kernel
theorem d_tr_readNumbers_17 : decode b_tr_readNumbers 17 = .ok (.iconst 0, 1) := by decide +kernel
theorem d_tr_readNumbers_18 : decode b_tr_readNumbers 18 = .ok (.invokevirtual 77, 3) := by decide +kernel
theorem d_tr_readNumbers_21 : decode b_tr_readNumbers 21 = .ok (.istore_n 2, 1) := by decide +kernel
theorem d_tr_readNumbers_22 : decode b_tr_readNumbers 22 = .ok (.aload_n 0, 1) := by decide +kernel
theorem d_tr_readNumbers_23 : decode b_tr_readNumbers 23 = .ok (.getfield 36, 3) := by decide +kernel
theorem d_tr_readNumbers_26 : decode b_tr_readNumbers 26 = .ok (.bipush (-2), 2) := by decide +kernel
theorem d_tr_readNumbers_28 : decode b_tr_readNumbers 28 = .ok (.if_icmp .eq 4, 3) := by decide +kernel
theorem d_tr_readNumbers_31 : decode b_tr_readNumbers 31 = .ok (.return_, 1) := by decide +kernel
theorem d_tr_readNumbers_32 : decode b_tr_readNumbers 32 = .ok (.iload_n 1, 1) := by decide +kernel
theorem d_tr_readNumbers_33 : decode b_tr_readNumbers 33 = .ok (.ifCond .ne 14, 3) := by decide +kernel
theorem d_tr_readNumbers_36 : decode b_tr_readNumbers 36 = .ok (.aload_n 0, 1) := by decide +kernel
theorem d_tr_readNumbers_37 : decode b_tr_readNumbers 37 = .ok (.getfield 22, 3) := by decide +kernel
theorem d_tr_readNumbers_40 : decode b_tr_readNumbers 40 = .ok (.iload_n 2, 1) := by decide +kernel
theorem d_tr_readNumbers_41 : decode b_tr_readNumbers 41 = .ok (.invokevirtual 81, 3) := by decide +kernel
theorem d_tr_readNumbers_44 : decode b_tr_readNumbers 44 = .ok (.goto 43, 3) := by decide +kernel
theorem d_tr_readNumbers_47 : decode b_tr_readNumbers 47 = .ok (.iload_n 1, 1) := by decide +kernel
theorem d_tr_readNumbers_48 : decode b_tr_readNumbers 48 = .ok (.iconst 1, 1) := by decide +kernel
theorem d_tr_readNumbers_49 : decode b_tr_readNumbers 49 = .ok (.if_icmp .ne 14, 3) := by decide +kernel
theorem d_tr_readNumbers_52 : decode b_tr_readNumbers 52 = .ok (.aload_n 0, 1) := by decide +kernel
theorem d_tr_readNumbers_53 : decode b_tr_readNumbers 53 = .ok (.getfield 22, 3) := by decide +kernel
theorem d_tr_readNumbers_56 : decode b_tr_readNumbers 56 = .ok (.iload_n 2, 1) := by decide +kernel
theorem d_tr_readNumbers_57 : decode b_tr_readNumbers 57 = .ok (.invokevirtual 84, 3) := by decide +kernel
theorem d_tr_readNumbers_60 : decode b_tr_readNumbers 60 = .ok (.goto 27, 3) := by decide +kernel
theorem d_tr_readNumbers_63 : decode b_tr_readNumbers 63 = .ok (.iload_n 1, 1) := by decide +kernel
theorem d_tr_readNumbers_64 : decode b_tr_readNumbers 64 = .ok (.iconst 2, 1) := by decide +kernel
theorem d_tr_readNumbers_65 : decode b_tr_readNumbers 65 = .ok (.if_icmp .ne 14, 3) := by decide +kernel
theorem d_tr_readNumbers_68 : decode b_tr_readNumbers 68 = .ok (.aload_n 0, 1) := by decide +kernel
theorem d_tr_readNumbers_69 : decode b_tr_readNumbers 69 = .ok (.getfield 22, 3) := by decide +kernel
theorem d_tr_readNumbers_72 : decode b_tr_readNumbers 72 = .ok (.iload_n 2, 1) := by decide +kernel
theorem d_tr_readNumbers_73 : decode b_tr_readNumbers 73 = .ok (.invokevirtual 87, 3) := by decide +kernel
theorem d_tr_readNumbers_76 : decode b_tr_readNumbers 76 = .ok (.goto 11, 3) := by decide +kernel
theorem d_tr_readNumbers_79 : decode b_tr_readNumbers 79 = .ok (.aload_n 0, 1) := by decide +kernel
theorem d_tr_readNumbers_80 : decode b_tr_readNumbers 80 = .ok (.getfield 22, 3) := by decide +kernel
theorem d_tr_readNumbers_83 : decode b_tr_readNumbers 83 = .ok (.iload_n 2, 1) := by decide +kernel
theorem d_tr_readNumbers_84 : decode b_tr_readNumbers 84 = .ok (.invokevirtual 90, 3) := by decide +kernel
theorem d_tr_readNumbers_87 : decode b_tr_readNumbers 87 = .ok (.return_, 1) := by decide +kernel
theorem d_tr_readTwoNumbers_0 : decode b_tr_readTwoNumbers 0 = .ok (.aload_n 0, 1) := by decide +kernel
theorem d_tr_readTwoNumbers_1 : decode b_tr_readTwoNumbers 1 = .ok (.iload_n 1, 1) := by decide +kernel
theorem d_tr_readTwoNumbers_2 : decode b_tr_readTwoNumbers 2 = .ok (.iconst 4, 1) := by decide +kernel
theorem d_tr_readTwoNumbers_3 : decode b_tr_readTwoNumbers 3 = .ok (.if_icmp .ne 15, 3) := by decide +kernel
theorem d_tr_readTwoNumbers_6 : decode b_tr_readTwoNumbers 6 = .ok (.aload_n 0, 1) := by decide +kernel
theorem d_tr_readTwoNumbers_7 : decode b_tr_readTwoNumbers 7 = .ok (.getfield 22, 3) := by decide +kernel
theorem d_tr_readTwoNumbers_10 : decode b_tr_readTwoNumbers 10 = .ok (.invokevirtual 93, 3) := by decide +kernel
theorem d_tr_readTwoNumbers_13 : decode b_tr_readTwoNumbers 13 = .ok (.iconst 1, 1) := by decide +kernel
theorem d_tr_readTwoNumbers_14 : decode b_tr_readTwoNumbers 14 = .ok (.iadd, 1) := by decide +kernel
theorem d_tr_readTwoNumbers_15 : decode b_tr_readTwoNumbers 15 = .ok (.goto 4, 3) := by decide +kernel
theorem d_tr_readTwoNumbers_18 : decode b_tr_readTwoNumbers 18 = .ok (.iconst 1, 1) := by decide +kernel
theorem d_tr_readTwoNumbers_19 : decode b_tr_readTwoNumbers 19 = .ok (.invokevirtual 77, 3) := by decide +kernel
theorem d_tr_readTwoNumbers_22 : decode b_tr_readTwoNumbers 22 = .ok (.istore_n 2, 1) := by decide +kernel
theorem d_tr_readTwoNumbers_23 : decode b_tr_readTwoNumbers 23 = .ok (.aload_n 0, 1) := by decide +kernel
theorem d_tr_readTwoNumbers_24 : decode b_tr_readTwoNumbers 24 = .ok (.getfield 36, 3) := by decide +kernel
theorem d_tr_readTwoNumbers_27 : decode b_tr_readTwoNumbers 27 = .ok (.bipush (-2), 2) := by decide +kernel
theorem d_tr_readTwoNumbers_29 : decode b_tr_readTwoNumbers 29 = .ok (.if_icmp .eq 4, 3) := by decide +kernel
theorem d_tr_readTwoNumbers_32 : decode b_tr_readTwoNumbers 32 = .ok (.return_, 1) := by decide +kernel
theorem d_tr_readTwoNumbers_33 : decode b_tr_readTwoNumbers 33 = .ok (.aload_n 0, 1) := by decide +kernel
theorem d_tr_readTwoNumbers_34 : decode b_tr_readTwoNumbers 34 = .ok (.iconst 0, 1) := by decide +kernel
theorem d_tr_readTwoNumbers_35 : decode b_tr_readTwoNumbers 35 = .ok (.invokevirtual 77, 3) := by decide +kernel
theorem d_tr_readTwoNumbers_38 : decode b_tr_readTwoNumbers 38 = .ok (.istore_n 3, 1) := by decide +kernel
theorem d_tr_readTwoNumbers_39 : decode b_tr_readTwoNumbers 39 = .ok (.aload_n 0, 1) := by decide +kernel
theorem d_tr_readTwoNumbers_40 : decode b_tr_readTwoNumbers 40 = .ok (.getfield 36, 3) := by decide +kernel
theorem d_tr_readTwoNumbers_43 : decode b_tr_readTwoNumbers 43 = .ok (.bipush (-2), 2) := by decide +kernel
theorem d_tr_readTwoNumbers_45 : decode b_tr_readTwoNumbers 45 = .ok (.if_icmp .eq 4, 3) := by decide +kernel
theorem d_tr_readTwoNumbers_48 : decode b_tr_readTwoNumbers 48 = .ok (.return_, 1) := by decide +kernel
theorem d_tr_readTwoNumbers_49 : decode b_tr_readTwoNumbers 49 = .ok (.iload_n 1, 1) := by decide +kernel
theorem d_tr_readTwoNumbers_50 : decode b_tr_readTwoNumbers 50 = .ok (.iconst 4, 1) := by decide +kernel
theorem d_tr_readTwoNumbers_51 : decode b_tr_readTwoNumbers 51 = .ok (.if_icmp .ne 15, 3) := by decide +kernel
theorem d_tr_readTwoNumbers_54 : decode b_tr_readTwoNumbers 54 = .ok (.aload_n 0, 1) := by decide +kernel
theorem d_tr_readTwoNumbers_55 : decode b_tr_readTwoNumbers 55 = .ok (.getfield 22, 3) := by decide +kernel
theorem d_tr_readTwoNumbers_58 : decode b_tr_readTwoNumbers 58 = .ok (.iload_n 2, 1) := by decide +kernel
theorem d_tr_readTwoNumbers_59 : decode b_tr_readTwoNumbers 59 = .ok (.iload_n 3, 1) := by decide +kernel
theorem d_tr_readTwoNumbers_60 : decode b_tr_readTwoNumbers 60 = .ok (.invokevirtual 96, 3) := by decide +kernel
theorem d_tr_readTwoNumbers_63 : decode b_tr_readTwoNumbers 63 = .ok (.goto 12, 3) := by decide +kernel
theorem d_tr_readTwoNumbers_66 : decode b_tr_readTwoNumbers 66 = .ok (.aload_n 0, 1) := by decide +kernel
theorem d_tr_readTwoNumbers_67 : decode b_tr_readTwoNumbers 67 = .ok (.getfield 22, 3) := by decide +kernel
theorem d_tr_readTwoNumbers_70 : decode b_tr_readTwoNumbers 70 = .ok (.iload_n 2, 1) := by decide +kernel
theorem d_tr_readTwoNumbers_71 : decode b_tr_readTwoNumbers 71 = .ok (.iload_n 3, 1) := by decide +kernel
theorem d_tr_readTwoNumbers_72 : decode b_tr_readTwoNumbers 72 = .ok (.invokevirtual 100, 3) := by decide +kernel
theorem d_tr_readTwoNumbers_75 : decode b_tr_readTwoNumbers 75 = .ok (.return_, 1) := by decide +kernel
theorem d_tr_readNumber_0 : decode b_tr_readNumber 0 = .ok (.aload_n 0, 1) := by decide +kernel
theorem d_tr_readNumber_1 : decode b_tr_readNumber 1 = .ok (.invokevirtual 45, 3) := by decide +kernel
theorem d_tr_readNumber_4 : decode b_tr_readNumber 4 = .ok (.aload_n 0, 1) := by decide +kernel
theorem d_tr_readNumber_5 : decode b_tr_readNumber 5 = .ok (.getfield 30, 3) := by decide +kernel
theorem d_tr_readNumber_8 : decode b_tr_readNumber 8 = .ok (.istore_n 2, 1) := by decide +kernel
theorem d_tr_readNumber_9 : decode b_tr_readNumber 9 = .ok (.iconst 0, 1) := by decide +kernel
theorem d_tr_readNumber_10 : decode b_tr_readNumber 10 = .ok (.istore_n 3, 1) := by decide +kernel
theorem d_tr_readNumber_11 : decode b_tr_readNumber 11 = .ok (.aload_n 0, 1) := by decide +kernel
theorem d_tr_readNumber_12 : decode b_tr_readNumber 12 = .ok (.getfield 30, 3) := by decide +kernel
theorem d_tr_readNumber_15 : decode b_tr_readNumber 15 = .ok (.aload_n 0, 1) := by decide +kernel
theorem d_tr_readNumber_16 : decode b_tr_readNumber 16 = .ok (.getfield 26, 3) := by decide +kernel
theorem d_tr_readNumber_19 : decode b_tr_readNumber 19 = .ok (.if_icmp .ge 82, 3) := by decide +kernel
theorem d_tr_readNumber_22 : decode b_tr_readNumber 22 = .ok (.aload_n 0, 1) := by decide +kernel
theorem d_tr_readNumber_23 : decode b_tr_readNumber 23 = .ok (.getfield 11, 3) := by decide +kernel
theorem d_tr_readNumber_26 : decode b_tr_readNumber 26 = .ok (.aload_n 0, 1) := by decide +kernel
theorem d_tr_readNumber_27 : decode b_tr_readNumber 27 = .ok (.getfield 30, 3) := by decide +kernel
theorem d_tr_readNumber_30 : decode b_tr_readNumber 30 = .ok (.caload, 1) := by decide +kernel
theorem d_tr_readNumber_31 : decode b_tr_readNumber 31 = .ok (.bipush 48, 2) := by decide +kernel
theorem d_tr_readNumber_33 : decode b_tr_readNumber 33 = .ok (.if_icmp .lt 68, 3) := by decide +kernel
theorem d_tr_readNumber_36 : decode b_tr_readNumber 36 = .ok (.aload_n 0, 1) := by decide +kernel
theorem d_tr_readNumber_37 : decode b_tr_readNumber 37 = .ok (.getfield 11, 3) := by decide +kernel
theorem d_tr_readNumber_40 : decode b_tr_readNumber 40 = .ok (.aload_n 0, 1) := by decide +kernel
theorem d_tr_readNumber_41 : decode b_tr_readNumber 41 = .ok (.getfield 30, 3) := by decide +kernel
theorem d_tr_readNumber_44 : decode b_tr_readNumber 44 = .ok (.caload, 1) := by decide +kernel
theorem d_tr_readNumber_45 : decode b_tr_readNumber 45 = .ok (.bipush 57, 2) := by decide +kernel
theorem d_tr_readNumber_47 : decode b_tr_readNumber 47 = .ok (.if_icmp .gt 54, 3) := by decide +kernel
theorem d_tr_readNumber_50 : decode b_tr_readNumber 50 = .ok (.aload_n 0, 1) := by decide +kernel
theorem d_tr_readNumber_51 : decode b_tr_readNumber 51 = .ok (.getfield 30, 3) := by decide +kernel
theorem d_tr_readNumber_54 : decode b_tr_readNumber 54 = .ok (.iload_n 2, 1) := by decide +kernel
theorem d_tr_readNumber_55 : decode b_tr_readNumber 55 = .ok (.isub, 1) := by decide +kernel
theorem d_tr_readNumber_56 : decode b_tr_readNumber 56 = .ok (.iconst 5, 1) := by decide +kernel
theorem d_tr_readNumber_57 : decode b_tr_readNumber 57 = .ok (.if_icmp .ne 13, 3) := by decide +kernel
theorem d_tr_readNumber_60 : decode b_tr_readNumber 60 = .ok (.aload_n 0, 1) := by decide +kernel
theorem d_tr_readNumber_61 : decode b_tr_readNumber 61 = .ok (.aload_n 0, 1) := by decide +kernel
theorem d_tr_readNumber_62 : decode b_tr_readNumber 62 = .ok (.getfield 30, 3) := by decide +kernel
theorem d_tr_readNumber_65 : decode b_tr_readNumber 65 = .ok (.putfield 36, 3) := by decide +kernel
theorem d_tr_readNumber_68 : decode b_tr_readNumber 68 = .ok (.iconst 0, 1) := by decide +kernel
theorem d_tr_readNumber_69 : decode b_tr_readNumber 69 = .ok (.ireturn, 1) := by decide +kernel
theorem d_tr_readNumber_70 : decode b_tr_readNumber 70 = .ok (.iload_n 3, 1) := by decide +kernel
theorem d_tr_readNumber_71 : decode b_tr_readNumber 71 = .ok (.bipush 10, 2) := by decide +kernel
theorem d_tr_readNumber_73 : decode b_tr_readNumber 73 = .ok (.imul, 1) := by decide +kernel
theorem d_tr_readNumber_74 : decode b_tr_readNumber 74 = .ok (.aload_n 0, 1) := by decide +kernel
theorem d_tr_readNumber_75 : decode b_tr_readNumber 75 = .ok (.getfield 11, 3) := by decide +kernel
theorem d_tr_readNumber_78 : decode b_tr_readNumber 78 = .ok (.aload_n 0, 1) := by decide +kernel
theorem d_tr_readNumber_79 : decode b_tr_readNumber 79 = .ok (.getfield 30, 3) := by decide +kernel
theorem d_tr_readNumber_82 : decode b_tr_readNumber 82 = .ok (.caload, 1) := by decide +kernel
theorem d_tr_readNumber_83 : decode b_tr_readNumber 83 = .ok (.bipush 48, 2) := by decide +kernel
theorem d_tr_readNumber_85 : decode b_tr_readNumber 85 = .ok (.isub, 1) := by decide +kernel
theorem d_tr_readNumber_86 : decode b_tr_readNumber 86 = .ok (.iadd, 1) := by decide +kernel
theorem d_tr_readNumber_87 : decode b_tr_readNumber 87 = .ok (.istore_n 3, 1) := by decide +kernel
theorem d_tr_readNumber_88 : decode b_tr_readNumber 88 = .ok (.aload_n 0, 1) := by decide +kernel
theorem d_tr_readNumber_89 : decode b_tr_readNumber 89 = .ok (.dup, 1) := by decide +kernel
theorem d_tr_readNumber_90 : decode b_tr_readNumber 90 = .ok (.getfield 30, 3) := by decide +kernel
theorem d_tr_readNumber_93 : decode b_tr_readNumber 93 = .ok (.iconst 1, 1) := by decide +kernel
theorem d_tr_readNumber_94 : decode b_tr_readNumber 94 = .ok (.iadd, 1) := by decide +kernel
theorem d_tr_readNumber_95 : decode b_tr_readNumber 95 = .ok (.putfield 30, 3) := by decide +kernel
theorem d_tr_readNumber_98 : decode b_tr_readNumber 98 = .ok (.goto (-87), 3) := by decide +kernel
theorem d_tr_readNumber_101 : decode b_tr_readNumber 101 = .ok (.aload_n 0, 1) := by decide +kernel
theorem d_tr_readNumber_102 : decode b_tr_readNumber 102 = .ok (.getfield 30, 3) := by decide +kernel
theorem d_tr_readNumber_105 : decode b_tr_readNumber 105 = .ok (.iload_n 2, 1) := by decide +kernel
theorem d_tr_readNumber_106 : decode b_tr_readNumber 106 = .ok (.if_icmp .eq 8, 3) := by decide +kernel
theorem d_tr_readNumber_109 : decode b_tr_readNumber 109 = .ok (.iload_n 3, 1) := by decide +kernel
theorem d_tr_readNumber_110 : decode b_tr_readNumber 110 = .ok (.iload_n 1, 1) := by decide +kernel
theorem d_tr_readNumber_111 : decode b_tr_readNumber 111 = .ok (.if_icmp .ge 10, 3) := by decide +kernel
theorem d_tr_readNumber_114 : decode b_tr_readNumber 114 = .ok (.aload_n 0, 1) := by decide +kernel
theorem d_tr_readNumber_115 : decode b_tr_readNumber 115 = .ok (.iload_n 2, 1) := by decide +kernel
theorem d_tr_readNumber_116 : decode b_tr_readNumber 116 = .ok (.putfield 36, 3) := by decide +kernel
theorem d_tr_readNumber_119 : decode b_tr_readNumber 119 = .ok (.iconst 0, 1) := by decide +kernel
theorem d_tr_readNumber_120 : decode b_tr_readNumber 120 = .ok (.ireturn, 1) := by decide +kernel
theorem d_tr_readNumber_121 : decode b_tr_readNumber 121 = .ok (.iload_n 3, 1) := by decide +kernel
theorem d_tr_readNumber_122 : decode b_tr_readNumber 122 = .ok (.ireturn, 1) := by decide +kernel
theorem d_tr_skipBlanks_0 : decode b_tr_skipBlanks 0 = .ok (.aload_n 0, 1) := by decide +kernel
theorem d_tr_skipBlanks_1 : decode b_tr_skipBlanks 1 = .ok (.getfield 30, 3) := by decide +kernel
theorem d_tr_skipBlanks_4 : decode b_tr_skipBlanks 4 = .ok (.aload_n 0, 1) := by decide +kernel
theorem d_tr_skipBlanks_5 : decode b_tr_skipBlanks 5 = .ok (.getfield 26, 3) := by decide +kernel
theorem d_tr_skipBlanks_8 : decode b_tr_skipBlanks 8 = .ok (.if_icmp .ge 30, 3) := by decide +kernel
theorem d_tr_skipBlanks_11 : decode b_tr_skipBlanks 11 = .ok (.aload_n 0, 1) := by decide +kernel
theorem d_tr_skipBlanks_12 : decode b_tr_skipBlanks 12 = .ok (.getfield 11, 3) := by decide +kernel
theorem d_tr_skipBlanks_15 : decode b_tr_skipBlanks 15 = .ok (.aload_n 0, 1) := by decide +kernel
theorem d_tr_skipBlanks_16 : decode b_tr_skipBlanks 16 = .ok (.getfield 30, 3) := by decide +kernel
theorem d_tr_skipBlanks_19 : decode b_tr_skipBlanks 19 = .ok (.caload, 1) := by decide +kernel
theorem d_tr_skipBlanks_20 : decode b_tr_skipBlanks 20 = .ok (.bipush 32, 2) := by decide +kernel
theorem d_tr_skipBlanks_22 : decode b_tr_skipBlanks 22 = .ok (.if_icmp .ne 16, 3) := by decide +kernel
theorem d_tr_skipBlanks_25 : decode b_tr_skipBlanks 25 = .ok (.aload_n 0, 1) := by decide +kernel
theorem d_tr_skipBlanks_26 : decode b_tr_skipBlanks 26 = .ok (.dup, 1) := by decide +kernel
theorem d_tr_skipBlanks_27 : decode b_tr_skipBlanks 27 = .ok (.getfield 30, 3) := by decide +kernel
theorem d_tr_skipBlanks_30 : decode b_tr_skipBlanks 30 = .ok (.iconst 1, 1) := by decide +kernel
theorem d_tr_skipBlanks_31 : decode b_tr_skipBlanks 31 = .ok (.iadd, 1) := by decide +kernel
theorem d_tr_skipBlanks_32 : decode b_tr_skipBlanks 32 = .ok (.putfield 30, 3) := by decide +kernel
theorem d_tr_skipBlanks_35 : decode b_tr_skipBlanks 35 = .ok (.goto (-35), 3) := by decide +kernel
theorem d_tr_skipBlanks_38 : decode b_tr_skipBlanks 38 = .ok (.return_, 1) := by decide +kernel
theorem d_tr_skipLetters_0 : decode b_tr_skipLetters 0 = .ok (.aload_n 0, 1) := by decide +kernel
theorem d_tr_skipLetters_1 : decode b_tr_skipLetters 1 = .ok (.getfield 30, 3) := by decide +kernel
theorem d_tr_skipLetters_4 : decode b_tr_skipLetters 4 = .ok (.aload_n 0, 1) := by decide +kernel
theorem d_tr_skipLetters_5 : decode b_tr_skipLetters 5 = .ok (.getfield 26, 3) := by decide +kernel
theorem d_tr_skipLetters_8 : decode b_tr_skipLetters 8 = .ok (.if_icmp .ge 31, 3) := by decide +kernel
theorem d_tr_skipLetters_11 : decode b_tr_skipLetters 11 = .ok (.aload_n 0, 1) := by decide +kernel
theorem d_tr_skipLetters_12 : decode b_tr_skipLetters 12 = .ok (.getfield 11, 3) := by decide +kernel
theorem d_tr_skipLetters_15 : decode b_tr_skipLetters 15 = .ok (.aload_n 0, 1) := by decide +kernel
theorem d_tr_skipLetters_16 : decode b_tr_skipLetters 16 = .ok (.getfield 30, 3) := by decide +kernel
theorem d_tr_skipLetters_19 : decode b_tr_skipLetters 19 = .ok (.caload, 1) := by decide +kernel
theorem d_tr_skipLetters_20 : decode b_tr_skipLetters 20 = .ok (.invokestatic 103, 3) := by decide +kernel
theorem d_tr_skipLetters_23 : decode b_tr_skipLetters 23 = .ok (.ifCond .eq 16, 3) := by decide +kernel
theorem d_tr_skipLetters_26 : decode b_tr_skipLetters 26 = .ok (.aload_n 0, 1) := by decide +kernel
theorem d_tr_skipLetters_27 : decode b_tr_skipLetters 27 = .ok (.dup, 1) := by decide +kernel
theorem d_tr_skipLetters_28 : decode b_tr_skipLetters 28 = .ok (.getfield 30, 3) := by decide +kernel
theorem d_tr_skipLetters_31 : decode b_tr_skipLetters 31 = .ok (.iconst 1, 1) := by decide +kernel
theorem d_tr_skipLetters_32 : decode b_tr_skipLetters 32 = .ok (.iadd, 1) := by decide +kernel
theorem d_tr_skipLetters_33 : decode b_tr_skipLetters 33 = .ok (.putfield 30, 3) := by decide +kernel
theorem d_tr_skipLetters_36 : decode b_tr_skipLetters 36 = .ok (.goto (-36), 3) := by decide +kernel
theorem d_tr_skipLetters_39 : decode b_tr_skipLetters 39 = .ok (.return_, 1) := by decide +kernel
theorem d_tr_isLetter_0 : decode b_tr_isLetter 0 = .ok (.iload_n 0, 1) := by decide +kernel
theorem d_tr_isLetter_1 : decode b_tr_isLetter 1 = .ok (.bipush 97, 2) := by decide +kernel
theorem d_tr_isLetter_3 : decode b_tr_isLetter 3 = .ok (.if_icmp .lt 9, 3) := by decide +kernel
theorem d_tr_isLetter_6 : decode b_tr_isLetter 6 = .ok (.iload_n 0, 1) := by decide +kernel
theorem d_tr_isLetter_7 : decode b_tr_isLetter 7 = .ok (.bipush 122, 2) := by decide +kernel
theorem d_tr_isLetter_9 : decode b_tr_isLetter 9 = .ok (.if_icmp .le 15, 3) := by decide +kernel
theorem d_tr_isLetter_12 : decode b_tr_isLetter 12 = .ok (.iload_n 0, 1) := by decide +kernel
theorem d_tr_isLetter_13 : decode b_tr_isLetter 13 = .ok (.bipush 65, 2) := by decide +kernel
theorem d_tr_isLetter_15 : decode b_tr_isLetter 15 = .ok (.if_icmp .lt 13, 3) := by decide +kernel
theorem d_tr_isLetter_18 : decode b_tr_isLetter 18 = .ok (.iload_n 0, 1) := by decide +kernel
theorem d_tr_isLetter_19 : decode b_tr_isLetter 19 = .ok (.bipush 90, 2) := by decide +kernel
theorem d_tr_isLetter_21 : decode b_tr_isLetter 21 = .ok (.if_icmp .gt 7, 3) := by decide +kernel
theorem d_tr_isLetter_24 : decode b_tr_isLetter 24 = .ok (.iconst 1, 1) := by decide +kernel
theorem d_tr_isLetter_25 : decode b_tr_isLetter 25 = .ok (.goto 4, 3) := by decide +kernel
theorem d_tr_isLetter_28 : decode b_tr_isLetter 28 = .ok (.iconst 0, 1) := by decide +kernel
theorem d_tr_isLetter_29 : decode b_tr_isLetter 29 = .ok (.ireturn, 1) := by decide +kernel
theorem d_tr_wordBetween_0 : decode b_tr_wordBetween 0 = .ok (.iconst 0, 1) := by decide +kernel
theorem d_tr_wordBetween_1 : decode b_tr_wordBetween 1 = .ok (.istore_n 3, 1) := by decide +kernel
theorem d_tr_wordBetween_2 : decode b_tr_wordBetween 2 = .ok (.iload_n 3, 1) := by decide +kernel
theorem d_tr_wordBetween_3 : decode b_tr_wordBetween 3 = .ok (.bipush 6, 2) := by decide +kernel
theorem d_tr_wordBetween_5 : decode b_tr_wordBetween 5 = .ok (.if_icmp .ge 24, 3) := by decide +kernel
theorem d_tr_wordBetween_8 : decode b_tr_wordBetween 8 = .ok (.aload_n 0, 1) := by decide +kernel
theorem d_tr_wordBetween_9 : decode b_tr_wordBetween 9 = .ok (.iload_n 3, 1) := by decide +kernel
theorem d_tr_wordBetween_10 : decode b_tr_wordBetween 10 = .ok (.invokestatic 107, 3) := by decide +kernel
theorem d_tr_wordBetween_13 : decode b_tr_wordBetween 13 = .ok (.iload_n 1, 1) := by decide +kernel
theorem d_tr_wordBetween_14 : decode b_tr_wordBetween 14 = .ok (.iload_n 2, 1) := by decide +kernel
theorem d_tr_wordBetween_15 : decode b_tr_wordBetween 15 = .ok (.invokevirtual 111, 3) := by decide +kernel
theorem d_tr_wordBetween_18 : decode b_tr_wordBetween 18 = .ok (.ifCond .eq 5, 3) := by decide +kernel
theorem d_tr_wordBetween_21 : decode b_tr_wordBetween 21 = .ok (.iload_n 3, 1) := by decide +kernel
theorem d_tr_wordBetween_22 : decode b_tr_wordBetween 22 = .ok (.ireturn, 1) := by decide +kernel
theorem d_tr_wordBetween_23 : decode b_tr_wordBetween 23 = .ok (.iinc 3 1, 3) := by decide +kernel
theorem d_tr_wordBetween_26 : decode b_tr_wordBetween 26 = .ok (.goto (-24), 3) := by decide +kernel
theorem d_tr_wordBetween_29 : decode b_tr_wordBetween 29 = .ok (.iconst (-1), 1) := by decide +kernel
theorem d_tr_wordBetween_30 : decode b_tr_wordBetween 30 = .ok (.ireturn, 1) := by decide +kernel
theorem d_tr_isSpelled_0 : decode b_tr_isSpelled 0 = .ok (.iload_n 3, 1) := by decide +kernel
theorem d_tr_isSpelled_1 : decode b_tr_isSpelled 1 = .ok (.iload_n 2, 1) := by decide +kernel
theorem d_tr_isSpelled_2 : decode b_tr_isSpelled 2 = .ok (.isub, 1) := by decide +kernel
theorem d_tr_isSpelled_3 : decode b_tr_isSpelled 3 = .ok (.aload_n 1, 1) := by decide +kernel
theorem d_tr_isSpelled_4 : decode b_tr_isSpelled 4 = .ok (.invokevirtual 115, 3) := by decide +kernel
theorem d_tr_isSpelled_7 : decode b_tr_isSpelled 7 = .ok (.if_icmp .eq 5, 3) := by decide +kernel
theorem d_tr_isSpelled_10 : decode b_tr_isSpelled 10 = .ok (.iconst 0, 1) := by decide +kernel
theorem d_tr_isSpelled_11 : decode b_tr_isSpelled 11 = .ok (.ireturn, 1) := by decide +kernel
theorem d_tr_isSpelled_12 : decode b_tr_isSpelled 12 = .ok (.iconst 0, 1) := by decide +kernel
theorem d_tr_isSpelled_13 : decode b_tr_isSpelled 13 = .ok (.istore 4, 2) := by decide +kernel
theorem d_tr_isSpelled_15 : decode b_tr_isSpelled 15 = .ok (.iload 4, 2) := by decide +kernel
theorem d_tr_isSpelled_17 : decode b_tr_isSpelled 17 = .ok (.aload_n 1, 1) := by decide +kernel
theorem d_tr_isSpelled_18 : decode b_tr_isSpelled 18 = .ok (.invokevirtual 115, 3) := by decide +kernel
theorem d_tr_isSpelled_21 : decode b_tr_isSpelled 21 = .ok (.if_icmp .ge 29, 3) := by decide +kernel
theorem d_tr_isSpelled_24 : decode b_tr_isSpelled 24 = .ok (.aload_n 0, 1) := by decide +kernel
theorem d_tr_isSpelled_25 : decode b_tr_isSpelled 25 = .ok (.getfield 11, 3) := by decide +kernel
theorem d_tr_isSpelled_28 : decode b_tr_isSpelled 28 = .ok (.iload_n 2, 1) := by decide +kernel
theorem d_tr_isSpelled_29 : decode b_tr_isSpelled 29 = .ok (.iload 4, 2) := by decide +kernel
theorem d_tr_isSpelled_31 : decode b_tr_isSpelled 31 = .ok (.iadd, 1) := by decide +kernel
theorem d_tr_isSpelled_32 : decode b_tr_isSpelled 32 = .ok (.caload, 1) := by decide +kernel
theorem d_tr_isSpelled_33 : decode b_tr_isSpelled 33 = .ok (.aload_n 1, 1) := by decide +kernel
theorem d_tr_isSpelled_34 : decode b_tr_isSpelled 34 = .ok (.iload 4, 2) := by decide +kernel
theorem d_tr_isSpelled_36 : decode b_tr_isSpelled 36 = .ok (.invokevirtual 119, 3) := by decide +kernel
theorem d_tr_isSpelled_39 : decode b_tr_isSpelled 39 = .ok (.if_icmp .eq 5, 3) := by decide +kernel
theorem d_tr_isSpelled_42 : decode b_tr_isSpelled 42 = .ok (.iconst 0, 1) := by decide +kernel
theorem d_tr_isSpelled_43 : decode b_tr_isSpelled 43 = .ok (.ireturn, 1) := by decide +kernel
theorem d_tr_isSpelled_44 : decode b_tr_isSpelled 44 = .ok (.iinc 4 1, 3) := by decide +kernel
theorem d_tr_isSpelled_47 : decode b_tr_isSpelled 47 = .ok (.goto (-32), 3) := by decide +kernel
theorem d_tr_isSpelled_50 : decode b_tr_isSpelled 50 = .ok (.iconst 1, 1) := by decide +kernel
theorem d_tr_isSpelled_51 : decode b_tr_isSpelled 51 = .ok (.ireturn, 1) := by decide +kernel
theorem d_tr_spellingOf_0 : decode b_tr_spellingOf 0 = .ok (.iload_n 0, 1) := by decide +kernel
theorem d_tr_spellingOf_1 : decode b_tr_spellingOf 1 = .ok (.tableswitch 50 0 4 #[35, 38, 41, 44, 47], 35) := by decide +kernel
theorem d_tr_spellingOf_36 : decode b_tr_spellingOf 36 = .ok (.ldc 123, 2) := by decide +kernel
theorem d_tr_spellingOf_38 : decode b_tr_spellingOf 38 = .ok (.areturn, 1) := by decide +kernel
theorem d_tr_spellingOf_39 : decode b_tr_spellingOf 39 = .ok (.ldc 125, 2) := by decide +kernel
theorem d_tr_spellingOf_41 : decode b_tr_spellingOf 41 = .ok (.areturn, 1) := by decide +kernel
theorem d_tr_spellingOf_42 : decode b_tr_spellingOf 42 = .ok (.ldc 127, 2) := by decide +kernel
theorem d_tr_spellingOf_44 : decode b_tr_spellingOf 44 = .ok (.areturn, 1) := by decide +kernel
theorem d_tr_spellingOf_45 : decode b_tr_spellingOf 45 = .ok (.ldc 129, 2) := by decide +kernel
theorem d_tr_spellingOf_47 : decode b_tr_spellingOf 47 = .ok (.areturn, 1) := by decide +kernel
theorem d_tr_spellingOf_48 : decode b_tr_spellingOf 48 = .ok (.ldc 131, 2) := by decide +kernel
theorem d_tr_spellingOf_50 : decode b_tr_spellingOf 50 = .ok (.areturn, 1) := by decide +kernel
theorem d_tr_spellingOf_51 : decode b_tr_spellingOf 51 = .ok (.ldc 133, 2) := by decide +kernel
theorem d_tr_spellingOf_53 : decode b_tr_spellingOf 53 = .ok (.areturn, 1) := by decide +kernel
end
section
/-! the cells of the run by their logical numbers: I k j, L k j are the j-th int, long of cell k -/
def cellL (g : Nat → Int32) (h : Nat → Int64) : List va_E := [
  .inr (6, [.ref 1, .ref 7, .ref 8, .ref 9, .ref 14, .ref 20, .ref 25, .ref 26, .ref 27, .int (g 9), .long (h 10)]),
  .inr (5, [.ref 2, .ref 3, .ref 4, .int (g 3), .int (g 4), .int (g 5), .int (g 6)]),
  .inl (2, 60, .inl g),
  .inl (3, 6, .inl g),
  .inr (4, [.int (g 0), .int (g 1), .int (g 2), .int (g 3), .int (g 4), .int (g 5), .ref 5, .ref 6, .int (g 8)]),
  .inl (0, 4, .inl g),
  .inl (0, 4, .inl g),
  .inl (5, 3, .inr (.inr (.inr (.inr (fun j => if j < 3 then some (28 + 3 * j) else none))))),
  .inl (6, 5, .inr (.inr (.inr (.inr (fun j => if j < 5 then some (37 + 2 * j) else none))))),
  .inr (1, [.ref 10, .ref 11, .ref 12, .ref 13, .int (g 4)]),
  .inl (0, 80, .inl g),
  .inl (0, 80, .inl g),
  .inl (0, 80, .inl g),
  .inl (0, 80, .inl g),
  .inr (2, [.ref 15, .ref 16, .ref 17, .ref 18, .ref 19, .int (g 5)]),
  .inl (0, 50, .inl g),
  .inl (0, 50, .inl g),
  .inl (1, 50, .inr (.inl h)),
  .inl (0, 50, .inl g),
  .inl (1, 50, .inr (.inl h)),
  .inr (3, [.ref 21, .ref 22, .ref 23, .ref 24, .int (g 4)]),
  .inl (0, 10, .inl g),
  .inl (1, 10, .inr (.inl h)),
  .inl (0, 10, .inl g),
  .inl (0, 10, .inl g),
  .inl (0, 15, .inl g),
  .inl (0, 3, .inl g),
  .inl (1, 3, .inr (.inl h)),
  .inr (4, [.int (g 0), .int (g 1), .int (g 2), .int (g 3), .int (g 4), .int (g 5), .ref 29, .ref 30, .int (g 8)]),
  .inl (0, 4, .inl g),
  .inl (0, 4, .inl g),
  .inr (4, [.int (g 0), .int (g 1), .int (g 2), .int (g 3), .int (g 4), .int (g 5), .ref 32, .ref 33, .int (g 8)]),
  .inl (0, 4, .inl g),
  .inl (0, 4, .inl g),
  .inr (4, [.int (g 0), .int (g 1), .int (g 2), .int (g 3), .int (g 4), .int (g 5), .ref 35, .ref 36, .int (g 8)]),
  .inl (0, 4, .inl g),
  .inl (0, 4, .inl g),
  .inr (0, [.ref 38, .int (g 1), .int (g 2), .int (g 3), .long (h 4)]),
  .inl (4, 401, .inl g),
  .inr (0, [.ref 40, .int (g 1), .int (g 2), .int (g 3), .long (h 4)]),
  .inl (4, 401, .inl g),
  .inr (0, [.ref 42, .int (g 1), .int (g 2), .int (g 3), .long (h 4)]),
  .inl (4, 401, .inl g),
  .inr (0, [.ref 44, .int (g 1), .int (g 2), .int (g 3), .long (h 4)]),
  .inl (4, 401, .inl g),
  .inr (0, [.ref 46, .int (g 1), .int (g 2), .int (g 3), .long (h 4)]),
  .inl (4, 401, .inl g),
  .inr (7, [.int (g 0), .int (g 1), .int (g 2), .ref 48, .int (g 4), .ref 49, .ref 50, .ref 51, .ref 52, .ref 53, .ref 54, .ref 55, .ref 56, .ref 57, .ref 58, .ref 59, .ref 60, .ref 61, .ref 62, .ref 63, .ref 64, .ref 65, .ref 66, .int (g 23), .ref 67, .ref 68, .ref 69, .ref 70, .ref 71, .int (g 29), .ref 72, .ref 73, .ref 74, .ref 75, .int (g 34), .long (h 35), .int (g 36), .int (g 37), .int (g 38)]),
  .inl (0, 60, .inl g),
  .inl (0, 4, .inl g),
  .inl (0, 4, .inl g),
  .inl (0, 4, .inl g),
  .inl (0, 4, .inl g),
  .inl (0, 4, .inl g),
  .inl (0, 4, .inl g),
  .inl (0, 4, .inl g),
  .inl (0, 16, .inl g),
  .inl (0, 16, .inl g),
  .inl (0, 5, .inl g),
  .inl (0, 5, .inl g),
  .inl (0, 5, .inl g),
  .inl (1, 5, .inr (.inl h)),
  .inl (0, 2005, .inl g),
  .inl (0, 80, .inl g),
  .inl (0, 80, .inl g),
  .inl (0, 80, .inl g),
  .inl (0, 80, .inl g),
  .inl (0, 50, .inl g),
  .inl (0, 50, .inl g),
  .inl (0, 50, .inl g),
  .inl (1, 50, .inr (.inl h)),
  .inl (1, 50, .inr (.inl h)),
  .inl (0, 10, .inl g),
  .inl (0, 10, .inl g),
  .inl (0, 10, .inl g),
  .inl (1, 10, .inr (.inl h)),
  .inl (1, 1, .inr (.inl h))]
def cellOf (k : Nat) (g : Nat → Int32) (h : Nat → Int64) : va_E := (cellL g h).getD k (.inr (0, []))
theorem c_0 (g : Nat → Int32) (h : Nat → Int64) : cellOf 0 g h = .inr (6, [.ref 1, .ref 7, .ref 8, .ref 9, .ref 14, .ref 20, .ref 25, .ref 26, .ref 27, .int (g 9), .long (h 10)]) := rfl
theorem c_1 (g : Nat → Int32) (h : Nat → Int64) : cellOf 1 g h = .inr (5, [.ref 2, .ref 3, .ref 4, .int (g 3), .int (g 4), .int (g 5), .int (g 6)]) := rfl
theorem c_2 (g : Nat → Int32) (h : Nat → Int64) : cellOf 2 g h = .inl (2, 60, .inl g) := rfl
theorem c_3 (g : Nat → Int32) (h : Nat → Int64) : cellOf 3 g h = .inl (3, 6, .inl g) := rfl
theorem c_4 (g : Nat → Int32) (h : Nat → Int64) : cellOf 4 g h = .inr (4, [.int (g 0), .int (g 1), .int (g 2), .int (g 3), .int (g 4), .int (g 5), .ref 5, .ref 6, .int (g 8)]) := rfl
theorem c_5 (g : Nat → Int32) (h : Nat → Int64) : cellOf 5 g h = .inl (0, 4, .inl g) := rfl
theorem c_6 (g : Nat → Int32) (h : Nat → Int64) : cellOf 6 g h = .inl (0, 4, .inl g) := rfl
theorem c_7 (g : Nat → Int32) (h : Nat → Int64) : cellOf 7 g h = .inl (5, 3, .inr (.inr (.inr (.inr (fun j => if j < 3 then some (28 + 3 * j) else none))))) := rfl
theorem c_8 (g : Nat → Int32) (h : Nat → Int64) : cellOf 8 g h = .inl (6, 5, .inr (.inr (.inr (.inr (fun j => if j < 5 then some (37 + 2 * j) else none))))) := rfl
theorem c_9 (g : Nat → Int32) (h : Nat → Int64) : cellOf 9 g h = .inr (1, [.ref 10, .ref 11, .ref 12, .ref 13, .int (g 4)]) := rfl
theorem c_10 (g : Nat → Int32) (h : Nat → Int64) : cellOf 10 g h = .inl (0, 80, .inl g) := rfl
theorem c_11 (g : Nat → Int32) (h : Nat → Int64) : cellOf 11 g h = .inl (0, 80, .inl g) := rfl
theorem c_12 (g : Nat → Int32) (h : Nat → Int64) : cellOf 12 g h = .inl (0, 80, .inl g) := rfl
theorem c_13 (g : Nat → Int32) (h : Nat → Int64) : cellOf 13 g h = .inl (0, 80, .inl g) := rfl
theorem c_14 (g : Nat → Int32) (h : Nat → Int64) : cellOf 14 g h = .inr (2, [.ref 15, .ref 16, .ref 17, .ref 18, .ref 19, .int (g 5)]) := rfl
theorem c_15 (g : Nat → Int32) (h : Nat → Int64) : cellOf 15 g h = .inl (0, 50, .inl g) := rfl
theorem c_16 (g : Nat → Int32) (h : Nat → Int64) : cellOf 16 g h = .inl (0, 50, .inl g) := rfl
theorem c_17 (g : Nat → Int32) (h : Nat → Int64) : cellOf 17 g h = .inl (1, 50, .inr (.inl h)) := rfl
theorem c_18 (g : Nat → Int32) (h : Nat → Int64) : cellOf 18 g h = .inl (0, 50, .inl g) := rfl
theorem c_19 (g : Nat → Int32) (h : Nat → Int64) : cellOf 19 g h = .inl (1, 50, .inr (.inl h)) := rfl
theorem c_20 (g : Nat → Int32) (h : Nat → Int64) : cellOf 20 g h = .inr (3, [.ref 21, .ref 22, .ref 23, .ref 24, .int (g 4)]) := rfl
theorem c_21 (g : Nat → Int32) (h : Nat → Int64) : cellOf 21 g h = .inl (0, 10, .inl g) := rfl
theorem c_22 (g : Nat → Int32) (h : Nat → Int64) : cellOf 22 g h = .inl (1, 10, .inr (.inl h)) := rfl
theorem c_23 (g : Nat → Int32) (h : Nat → Int64) : cellOf 23 g h = .inl (0, 10, .inl g) := rfl
theorem c_24 (g : Nat → Int32) (h : Nat → Int64) : cellOf 24 g h = .inl (0, 10, .inl g) := rfl
theorem c_25 (g : Nat → Int32) (h : Nat → Int64) : cellOf 25 g h = .inl (0, 15, .inl g) := rfl
theorem c_26 (g : Nat → Int32) (h : Nat → Int64) : cellOf 26 g h = .inl (0, 3, .inl g) := rfl
theorem c_27 (g : Nat → Int32) (h : Nat → Int64) : cellOf 27 g h = .inl (1, 3, .inr (.inl h)) := rfl
theorem c_28 (g : Nat → Int32) (h : Nat → Int64) : cellOf 28 g h = .inr (4, [.int (g 0), .int (g 1), .int (g 2), .int (g 3), .int (g 4), .int (g 5), .ref 29, .ref 30, .int (g 8)]) := rfl
theorem c_29 (g : Nat → Int32) (h : Nat → Int64) : cellOf 29 g h = .inl (0, 4, .inl g) := rfl
theorem c_30 (g : Nat → Int32) (h : Nat → Int64) : cellOf 30 g h = .inl (0, 4, .inl g) := rfl
theorem c_31 (g : Nat → Int32) (h : Nat → Int64) : cellOf 31 g h = .inr (4, [.int (g 0), .int (g 1), .int (g 2), .int (g 3), .int (g 4), .int (g 5), .ref 32, .ref 33, .int (g 8)]) := rfl
theorem c_32 (g : Nat → Int32) (h : Nat → Int64) : cellOf 32 g h = .inl (0, 4, .inl g) := rfl
theorem c_33 (g : Nat → Int32) (h : Nat → Int64) : cellOf 33 g h = .inl (0, 4, .inl g) := rfl
theorem c_34 (g : Nat → Int32) (h : Nat → Int64) : cellOf 34 g h = .inr (4, [.int (g 0), .int (g 1), .int (g 2), .int (g 3), .int (g 4), .int (g 5), .ref 35, .ref 36, .int (g 8)]) := rfl
theorem c_35 (g : Nat → Int32) (h : Nat → Int64) : cellOf 35 g h = .inl (0, 4, .inl g) := rfl
theorem c_36 (g : Nat → Int32) (h : Nat → Int64) : cellOf 36 g h = .inl (0, 4, .inl g) := rfl
theorem c_37 (g : Nat → Int32) (h : Nat → Int64) : cellOf 37 g h = .inr (0, [.ref 38, .int (g 1), .int (g 2), .int (g 3), .long (h 4)]) := rfl
theorem c_38 (g : Nat → Int32) (h : Nat → Int64) : cellOf 38 g h = .inl (4, 401, .inl g) := rfl
theorem c_39 (g : Nat → Int32) (h : Nat → Int64) : cellOf 39 g h = .inr (0, [.ref 40, .int (g 1), .int (g 2), .int (g 3), .long (h 4)]) := rfl
theorem c_40 (g : Nat → Int32) (h : Nat → Int64) : cellOf 40 g h = .inl (4, 401, .inl g) := rfl
theorem c_41 (g : Nat → Int32) (h : Nat → Int64) : cellOf 41 g h = .inr (0, [.ref 42, .int (g 1), .int (g 2), .int (g 3), .long (h 4)]) := rfl
theorem c_42 (g : Nat → Int32) (h : Nat → Int64) : cellOf 42 g h = .inl (4, 401, .inl g) := rfl
theorem c_43 (g : Nat → Int32) (h : Nat → Int64) : cellOf 43 g h = .inr (0, [.ref 44, .int (g 1), .int (g 2), .int (g 3), .long (h 4)]) := rfl
theorem c_44 (g : Nat → Int32) (h : Nat → Int64) : cellOf 44 g h = .inl (4, 401, .inl g) := rfl
theorem c_45 (g : Nat → Int32) (h : Nat → Int64) : cellOf 45 g h = .inr (0, [.ref 46, .int (g 1), .int (g 2), .int (g 3), .long (h 4)]) := rfl
theorem c_46 (g : Nat → Int32) (h : Nat → Int64) : cellOf 46 g h = .inl (4, 401, .inl g) := rfl
theorem c_47 (g : Nat → Int32) (h : Nat → Int64) : cellOf 47 g h = .inr (7, [.int (g 0), .int (g 1), .int (g 2), .ref 48, .int (g 4), .ref 49, .ref 50, .ref 51, .ref 52, .ref 53, .ref 54, .ref 55, .ref 56, .ref 57, .ref 58, .ref 59, .ref 60, .ref 61, .ref 62, .ref 63, .ref 64, .ref 65, .ref 66, .int (g 23), .ref 67, .ref 68, .ref 69, .ref 70, .ref 71, .int (g 29), .ref 72, .ref 73, .ref 74, .ref 75, .int (g 34), .long (h 35), .int (g 36), .int (g 37), .int (g 38)]) := rfl
theorem c_48 (g : Nat → Int32) (h : Nat → Int64) : cellOf 48 g h = .inl (0, 60, .inl g) := rfl
theorem c_49 (g : Nat → Int32) (h : Nat → Int64) : cellOf 49 g h = .inl (0, 4, .inl g) := rfl
theorem c_50 (g : Nat → Int32) (h : Nat → Int64) : cellOf 50 g h = .inl (0, 4, .inl g) := rfl
theorem c_51 (g : Nat → Int32) (h : Nat → Int64) : cellOf 51 g h = .inl (0, 4, .inl g) := rfl
theorem c_52 (g : Nat → Int32) (h : Nat → Int64) : cellOf 52 g h = .inl (0, 4, .inl g) := rfl
theorem c_53 (g : Nat → Int32) (h : Nat → Int64) : cellOf 53 g h = .inl (0, 4, .inl g) := rfl
theorem c_54 (g : Nat → Int32) (h : Nat → Int64) : cellOf 54 g h = .inl (0, 4, .inl g) := rfl
theorem c_55 (g : Nat → Int32) (h : Nat → Int64) : cellOf 55 g h = .inl (0, 4, .inl g) := rfl
theorem c_56 (g : Nat → Int32) (h : Nat → Int64) : cellOf 56 g h = .inl (0, 16, .inl g) := rfl
theorem c_57 (g : Nat → Int32) (h : Nat → Int64) : cellOf 57 g h = .inl (0, 16, .inl g) := rfl
theorem c_58 (g : Nat → Int32) (h : Nat → Int64) : cellOf 58 g h = .inl (0, 5, .inl g) := rfl
theorem c_59 (g : Nat → Int32) (h : Nat → Int64) : cellOf 59 g h = .inl (0, 5, .inl g) := rfl
theorem c_60 (g : Nat → Int32) (h : Nat → Int64) : cellOf 60 g h = .inl (0, 5, .inl g) := rfl
theorem c_61 (g : Nat → Int32) (h : Nat → Int64) : cellOf 61 g h = .inl (1, 5, .inr (.inl h)) := rfl
theorem c_62 (g : Nat → Int32) (h : Nat → Int64) : cellOf 62 g h = .inl (0, 2005, .inl g) := rfl
theorem c_63 (g : Nat → Int32) (h : Nat → Int64) : cellOf 63 g h = .inl (0, 80, .inl g) := rfl
theorem c_64 (g : Nat → Int32) (h : Nat → Int64) : cellOf 64 g h = .inl (0, 80, .inl g) := rfl
theorem c_65 (g : Nat → Int32) (h : Nat → Int64) : cellOf 65 g h = .inl (0, 80, .inl g) := rfl
theorem c_66 (g : Nat → Int32) (h : Nat → Int64) : cellOf 66 g h = .inl (0, 80, .inl g) := rfl
theorem c_67 (g : Nat → Int32) (h : Nat → Int64) : cellOf 67 g h = .inl (0, 50, .inl g) := rfl
theorem c_68 (g : Nat → Int32) (h : Nat → Int64) : cellOf 68 g h = .inl (0, 50, .inl g) := rfl
theorem c_69 (g : Nat → Int32) (h : Nat → Int64) : cellOf 69 g h = .inl (0, 50, .inl g) := rfl
theorem c_70 (g : Nat → Int32) (h : Nat → Int64) : cellOf 70 g h = .inl (1, 50, .inr (.inl h)) := rfl
theorem c_71 (g : Nat → Int32) (h : Nat → Int64) : cellOf 71 g h = .inl (1, 50, .inr (.inl h)) := rfl
theorem c_72 (g : Nat → Int32) (h : Nat → Int64) : cellOf 72 g h = .inl (0, 10, .inl g) := rfl
theorem c_73 (g : Nat → Int32) (h : Nat → Int64) : cellOf 73 g h = .inl (0, 10, .inl g) := rfl
theorem c_74 (g : Nat → Int32) (h : Nat → Int64) : cellOf 74 g h = .inl (0, 10, .inl g) := rfl
theorem c_75 (g : Nat → Int32) (h : Nat → Int64) : cellOf 75 g h = .inl (1, 10, .inr (.inl h)) := rfl
theorem c_76 (g : Nat → Int32) (h : Nat → Int64) : cellOf 76 g h = .inl (1, 1, .inr (.inl h)) := rfl
def fm (I : Nat → Nat → Int32) (L : Nat → Nat → Int64) : Nat → va_E := fun k => cellOf k (I k) (L k)
/-- an int, a long is laid -/
def wI (I : Nat → Nat → Int32) (k j : Nat) (v : Int32) : Nat → Nat → Int32 := va_up I k (upd (I k) j v)
def wL (L : Nat → Nat → Int64) (k j : Nat) (v : Int64) : Nat → Nat → Int64 := va_up L k (vp_updL (L k) j v)
theorem fm_I {I : Nat → Nat → Int32} {L : Nat → Nat → Int64} {k j : Nat} {v : Int32} {e : va_E} (h : e = cellOf k (upd (I k) j v) (L k)) : va_up (fm I L) k e = fm (wI I k j v) L := by
  funext a
  by_cases ha : a = k
  · subst ha
    simp [va_up, fm, wI, h]
  · simp [va_up, fm, wI, ha]
theorem fm_L {I : Nat → Nat → Int32} {L : Nat → Nat → Int64} {k j : Nat} {v : Int64} {e : va_E} (h : e = cellOf k (I k) (vp_updL (L k) j v)) : va_up (fm I L) k e = fm I (wL L k j v) := by
  funext a
  by_cases ha : a = k
  · subst ha
    simp [va_up, fm, wL, h]
  · simp [va_up, fm, wL, ha]
theorem wI_at (I : Nat → Nat → Int32) (k j : Nat) (v : Int32) : wI I k j v k j = v := by simp [wI, va_up, upd]
theorem wI_ne {I : Nat → Nat → Int32} {k j a b : Nat} {v : Int32} (h : a ≠ k ∨ b ≠ j) : wI I k j v a b = I a b := by
  by_cases ha : a = k
  · subst ha
    have hb : b ≠ j := h.resolve_left (fun q => q rfl)
    simp [wI, va_up, upd, hb]
  · simp [wI, va_up, ha]
theorem wL_at (L : Nat → Nat → Int64) (k j : Nat) (v : Int64) : wL L k j v k j = v := by simp [wL, va_up, vp_updL]
theorem wL_ne {L : Nat → Nat → Int64} {k j a b : Nat} {v : Int64} (h : a ≠ k ∨ b ≠ j) : wL L k j v a b = L a b := by
  by_cases ha : a = k
  · subst ha
    have hb : b ≠ j := h.resolve_left (fun q => q rfl)
    simp [wL, va_up, vp_updL, hb]
  · simp [wL, va_up, ha]
/-- an answer and a world, just these -/
def qD (v : Option Value) (n : Nat) (f : Nat → va_E) : qE := fun v' n' f' => v = v' ∧ n = n' ∧ f = f'
theorem qR_sub {K : qK} {E : qE} {X : qXC} {pc : Nat} {lv lv' : List (Nat × Value)} {st : List Value} {n kc ks : Nat} {f : Nat → va_E} (is : List Nat) (h1 : lv_pick lv is = lv') (k : qR K E X pc lv' st n kc ks f) : qR K E X pc lv st n kc ks f := by
  intro p e R s m args below meth c H locs ls Q z ex D D3 C hP hS hl hE
  refine k p e R s m args below meth c H locs ls Q z ex D D3 C hP hS ?_ hE
  refine lv_sub hl is ?_
  rw [← h1]
  unfold lv_pick
  rw [List.map_filterMap]
  congr 1
  funext i
  rw [List.getElem?_map]
theorem qR_st {K : qK} {E : qE} {X : qXC} {pc : Nat} {lv lv' : List (Nat × Value)} {st st' : List Value} {n kc ks : Nat} {f f' : Nat → va_E} (h1 : lv = lv') (h2 : st = st') (h3 : f = f') (k : qR K E X pc lv' st' n kc ks f') : qR K E X pc lv st n kc ks f := by
  subst h1; subst h2; subst h3
  exact k

theorem lgc_cases (x y : Int64) : (x.toInt < y.toInt ∧ lg_cmp x y = -1) ∨ (x.toInt = y.toInt ∧ lg_cmp x y = 0) ∨ (y.toInt < x.toInt ∧ lg_cmp x y = 1) := by
  unfold lg_cmp
  by_cases h1 : x > y
  · exact Or.inr (Or.inr ⟨Int64.lt_iff_toInt_lt.mp h1, if_pos h1⟩)
  · have g1 : ¬ y.toInt < x.toInt := fun q => h1 (Int64.lt_iff_toInt_lt.mpr q)
    by_cases h2 : x = y
    · exact Or.inr (Or.inl ⟨by rw [h2], by rw [if_neg h1, if_pos h2]⟩)
    · have g2 : ¬ x.toInt = y.toInt := fun q => h2 (Int64.toInt_inj.mp q)
      exact Or.inl ⟨by omega, by rw [if_neg h1, if_neg h2]⟩
theorem lgc_eq (x y : Int64) : (lg_cmp x y = 0) ↔ x = y := by
  simp only [Int64.lt_iff_toInt_lt, Int64.le_iff_toInt_le, ← Int64.toInt_inj]
  rcases lgc_cases x y with ⟨h, e⟩ | ⟨h, e⟩ | ⟨h, e⟩ <;> rw [e]
  · exact ⟨fun q => absurd q (by decide), fun q => by omega⟩
  · exact ⟨fun _ => by omega, fun _ => by decide⟩
  · exact ⟨fun q => absurd q (by decide), fun q => by omega⟩
theorem lgc_lt (x y : Int64) : (lg_cmp x y < 0) ↔ x < y := by
  simp only [Int64.lt_iff_toInt_lt, Int64.le_iff_toInt_le, ← Int64.toInt_inj]
  rcases lgc_cases x y with ⟨h, e⟩ | ⟨h, e⟩ | ⟨h, e⟩ <;> rw [e]
  · exact ⟨fun _ => by omega, fun _ => by decide⟩
  · exact ⟨fun q => absurd q (by decide), fun q => by omega⟩
  · exact ⟨fun q => absurd q (by decide), fun q => by omega⟩
theorem lgc_ge (x y : Int64) : (0 ≤ lg_cmp x y) ↔ y ≤ x := by
  simp only [Int64.lt_iff_toInt_lt, Int64.le_iff_toInt_le, ← Int64.toInt_inj]
  rcases lgc_cases x y with ⟨h, e⟩ | ⟨h, e⟩ | ⟨h, e⟩ <;> rw [e]
  · exact ⟨fun q => absurd q (by decide), fun q => by omega⟩
  · exact ⟨fun _ => by omega, fun _ => by decide⟩
  · exact ⟨fun _ => by omega, fun _ => by decide⟩
theorem lgc_gt (x y : Int64) : (0 < lg_cmp x y) ↔ y < x := by
  simp only [Int64.lt_iff_toInt_lt, Int64.le_iff_toInt_le, ← Int64.toInt_inj]
  rcases lgc_cases x y with ⟨h, e⟩ | ⟨h, e⟩ | ⟨h, e⟩ <;> rw [e]
  · exact ⟨fun q => absurd q (by decide), fun q => by omega⟩
  · exact ⟨fun q => absurd q (by decide), fun q => by omega⟩
  · exact ⟨fun _ => by omega, fun _ => by decide⟩
theorem lgc_le (x y : Int64) : (lg_cmp x y ≤ 0) ↔ x ≤ y := by
  simp only [Int64.lt_iff_toInt_lt, Int64.le_iff_toInt_le, ← Int64.toInt_inj]
  rcases lgc_cases x y with ⟨h, e⟩ | ⟨h, e⟩ | ⟨h, e⟩ <;> rw [e]
  · exact ⟨fun _ => by omega, fun _ => by decide⟩
  · exact ⟨fun _ => by omega, fun _ => by decide⟩
  · exact ⟨fun q => absurd q (by decide), fun q => by omega⟩
theorem b01 (c : Prop) [Decidable c] : ((if c then (1 : Int32) else 0) = 0) ↔ ¬ c := by by_cases h : c <;> simp [h]
theorem qFit_i (v : Int32) : qFit .int (.int v) := fun _ _ => ⟨rfl, rfl⟩
theorem qFit_l (v : Int64) : qFit .long (.long v) := fun _ _ => ⟨rfl, rfl⟩
section QM
variable {K : qK} {E : qE} {X : qXC} {pc : Nat} {lv : List (Nat × Value)} {st : List Value} {n kc ks : Nat} {I : Nat → Nat → Int32} {L : Nat → Nat → Int64}
theorem qr_putI {idx ci j q : Nat} {ty : FieldType} {fs : List Value} {v : Int32} (hd : decode (kcc K) pc = .ok (.putfield idx, 3)) (hF : qFl (kown K) idx ci j ty false) (hq : q < n) (hq5 : q < 77) (hf : fm I L q = .inr (ci, fs)) (hl2 : j < fs.length) (hv : qFit ty (.int v)) (hs : ∀ w : Int32, (Sum.inr (ci, fs.set j (.int w)) : va_E) = cellOf q (upd (I q) j w) (L q)) (k : qR K E X (pc + 3) lv st n kc ks (fm (wI I q j v) L)) : qR K E X pc lv (.int v :: .ref q :: st) n kc ks (fm I L) :=
  qr_put hd hF hq hq5 hf hl2 hv (fm_I (hs v)) k
theorem qr_putL {idx ci j q : Nat} {ty : FieldType} {fs : List Value} {v : Int64} (hd : decode (kcc K) pc = .ok (.putfield idx, 3)) (hF : qFl (kown K) idx ci j ty false) (hq : q < n) (hq5 : q < 77) (hf : fm I L q = .inr (ci, fs)) (hl2 : j < fs.length) (hv : qFit ty (.long v)) (hs : ∀ w : Int64, (Sum.inr (ci, fs.set j (.long w)) : va_E) = cellOf q (I q) (vp_updL (L q) j w)) (k : qR K E X (pc + 3) lv st n kc ks (fm I (wL L q j v))) : qR K E X pc lv (.long v :: .ref q :: st) n kc ks (fm I L) :=
  qr_put hd hF hq hq5 hf hl2 hv (fm_L (hs v)) k
theorem qr_iastM {q len j : Nat} {i : Int32} {x : Int32} (hd : decode (kcc K) pc = .ok (.iastore, 1)) (hq : q < n) (hq5 : q < 77) (hf : fm I L q = .inl (0, len, .inl (I q))) (hi : vp_in i len) (hj : i.toNatClampNeg = j) (hs : ∀ w : Int32, (Sum.inl (0, len, .inl (upd (I q) j w)) : va_E) = cellOf q (upd (I q) j w) (L q)) (k : qR K E X (pc + 1) lv st n kc ks (fm (wI I q j x) L)) : qR K E X pc lv (.int x :: .int i :: .ref q :: st) n kc ks (fm I L) := by
  subst hj
  exact qr_iast hd hq hq5 hf hi (fm_I (hs _)) k
theorem qr_iastMN {q len j : Nat} {x : Int32} (hd : decode (kcc K) pc = .ok (.iastore, 1)) (hq : q < n) (hq5 : q < 77) (hf : fm I L q = .inl (0, len, .inl (I q))) (hj : j < len) (hlen : len < 2 ^ 31) (hs : ∀ w : Int32, (Sum.inl (0, len, .inl (upd (I q) j w)) : va_E) = cellOf q (upd (I q) j w) (L q)) (k : qR K E X (pc + 1) lv st n kc ks (fm (wI I q j x) L)) : qR K E X pc lv (.int x :: .int (nI j) :: .ref q :: st) n kc ks (fm I L) :=
  qr_iastM hd hq hq5 hf (vp_in_nI hj hlen) (nI_clamp (Nat.lt_trans hj hlen)) hs k
theorem qr_lastM {q len j : Nat} {i : Int32} {x : Int64} (hd : decode (kcc K) pc = .ok (.lastore, 1)) (hq : q < n) (hq5 : q < 77) (hf : fm I L q = .inl (1, len, .inr (.inl (L q)))) (hi : vp_in i len) (hj : i.toNatClampNeg = j) (hs : ∀ w : Int64, (Sum.inl (1, len, .inr (.inl (vp_updL (L q) j w))) : va_E) = cellOf q (I q) (vp_updL (L q) j w)) (k : qR K E X (pc + 1) lv st n kc ks (fm I (wL L q j x))) : qR K E X pc lv (.long x :: .int i :: .ref q :: st) n kc ks (fm I L) := by
  subst hj
  exact qr_last hd hq hq5 hf hi (fm_L (hs _)) k
theorem qr_lastMN {q len j : Nat} {x : Int64} (hd : decode (kcc K) pc = .ok (.lastore, 1)) (hq : q < n) (hq5 : q < 77) (hf : fm I L q = .inl (1, len, .inr (.inl (L q)))) (hj : j < len) (hlen : len < 2 ^ 31) (hs : ∀ w : Int64, (Sum.inl (1, len, .inr (.inl (vp_updL (L q) j w))) : va_E) = cellOf q (I q) (vp_updL (L q) j w)) (k : qR K E X (pc + 1) lv st n kc ks (fm I (wL L q j x))) : qR K E X pc lv (.long x :: .int (nI j) :: .ref q :: st) n kc ks (fm I L) :=
  qr_lastM hd hq hq5 hf (vp_in_nI hj hlen) (nI_clamp (Nat.lt_trans hj hlen)) hs k
theorem qr_castM {q len j : Nat} {i : Int32} {x : Int32} (hd : decode (kcc K) pc = .ok (.castore, 1)) (hq : q < n) (hq5 : q < 77) (hf : fm I L q = .inl (2, len, .inl (I q))) (hi : vp_in i len) (hj : i.toNatClampNeg = j) (hs : ∀ w : Int32, (Sum.inl (2, len, .inl (upd (I q) j w)) : va_E) = cellOf q (upd (I q) j w) (L q)) (k : qR K E X (pc + 1) lv st n kc ks (fm (wI I q j (vp_nar .char x)) L)) : qR K E X pc lv (.int x :: .int i :: .ref q :: st) n kc ks (fm I L) := by
  subst hj
  exact qr_cast hd hq hq5 hf hi (fm_I (hs _)) k
theorem qr_castMN {q len j : Nat} {x : Int32} (hd : decode (kcc K) pc = .ok (.castore, 1)) (hq : q < n) (hq5 : q < 77) (hf : fm I L q = .inl (2, len, .inl (I q))) (hj : j < len) (hlen : len < 2 ^ 31) (hs : ∀ w : Int32, (Sum.inl (2, len, .inl (upd (I q) j w)) : va_E) = cellOf q (upd (I q) j w) (L q)) (k : qR K E X (pc + 1) lv st n kc ks (fm (wI I q j (vp_nar .char x)) L)) : qR K E X pc lv (.int x :: .int (nI j) :: .ref q :: st) n kc ks (fm I L) :=
  qr_castM hd hq hq5 hf (vp_in_nI hj hlen) (nI_clamp (Nat.lt_trans hj hlen)) hs k
theorem qr_zastM {q len j : Nat} {i : Int32} {x : Int32} (hd : decode (kcc K) pc = .ok (.bastore, 1)) (hq : q < n) (hq5 : q < 77) (hf : fm I L q = .inl (3, len, .inl (I q))) (hi : vp_in i len) (hj : i.toNatClampNeg = j) (hs : ∀ w : Int32, (Sum.inl (3, len, .inl (upd (I q) j w)) : va_E) = cellOf q (upd (I q) j w) (L q)) (k : qR K E X (pc + 1) lv st n kc ks (fm (wI I q j (vp_nar .boolean x)) L)) : qR K E X pc lv (.int x :: .int i :: .ref q :: st) n kc ks (fm I L) := by
  subst hj
  exact qr_zast hd hq hq5 hf hi (fm_I (hs _)) k
theorem qr_zastMN {q len j : Nat} {x : Int32} (hd : decode (kcc K) pc = .ok (.bastore, 1)) (hq : q < n) (hq5 : q < 77) (hf : fm I L q = .inl (3, len, .inl (I q))) (hj : j < len) (hlen : len < 2 ^ 31) (hs : ∀ w : Int32, (Sum.inl (3, len, .inl (upd (I q) j w)) : va_E) = cellOf q (upd (I q) j w) (L q)) (k : qR K E X (pc + 1) lv st n kc ks (fm (wI I q j (vp_nar .boolean x)) L)) : qR K E X pc lv (.int x :: .int (nI j) :: .ref q :: st) n kc ks (fm I L) :=
  qr_zastM hd hq hq5 hf (vp_in_nI hj hlen) (nI_clamp (Nat.lt_trans hj hlen)) hs k
theorem qr_bastM {q len j : Nat} {i : Int32} {x : Int32} (hd : decode (kcc K) pc = .ok (.bastore, 1)) (hq : q < n) (hq5 : q < 77) (hf : fm I L q = .inl (4, len, .inl (I q))) (hi : vp_in i len) (hj : i.toNatClampNeg = j) (hs : ∀ w : Int32, (Sum.inl (4, len, .inl (upd (I q) j w)) : va_E) = cellOf q (upd (I q) j w) (L q)) (k : qR K E X (pc + 1) lv st n kc ks (fm (wI I q j (vp_nar .byte x)) L)) : qR K E X pc lv (.int x :: .int i :: .ref q :: st) n kc ks (fm I L) := by
  subst hj
  exact qr_bast hd hq hq5 hf hi (fm_I (hs _)) k
theorem qr_bastMN {q len j : Nat} {x : Int32} (hd : decode (kcc K) pc = .ok (.bastore, 1)) (hq : q < n) (hq5 : q < 77) (hf : fm I L q = .inl (4, len, .inl (I q))) (hj : j < len) (hlen : len < 2 ^ 31) (hs : ∀ w : Int32, (Sum.inl (4, len, .inl (upd (I q) j w)) : va_E) = cellOf q (upd (I q) j w) (L q)) (k : qR K E X (pc + 1) lv st n kc ks (fm (wI I q j (vp_nar .byte x)) L)) : qR K E X pc lv (.int x :: .int (nI j) :: .ref q :: st) n kc ks (fm I L) :=
  qr_bastM hd hq hq5 hf (vp_in_nI hj hlen) (nI_clamp (Nat.lt_trans hj hlen)) hs k
end QM
end
section
/-! the words that a throw asks -/
theorem th_common : ∀ w ∈ Jvm.Bundle.throwableAtoms, w ∈ qg ∨ w ∈ qSpec ∨ w ∈ qFw :=
  (List.forall_mem_cons.mpr ⟨Or.inl (q_t1 10 rfl rfl),
  (List.forall_mem_cons.mpr ⟨Or.inl (q_t2 175 rfl rfl),
  (List.forall_mem_cons.mpr ⟨Or.inl (q_t2 184 rfl rfl),
  (List.forall_mem_cons.mpr ⟨Or.inl (q_t2 189 rfl rfl),
  (List.forall_mem_cons.mpr ⟨Or.inl (q_t2 192 rfl rfl),
  (List.forall_mem_cons.mpr ⟨Or.inl (q_t2 194 rfl rfl),
  (List.forall_mem_cons.mpr ⟨Or.inl (q_t2 176 rfl rfl),
  (List.forall_mem_cons.mpr ⟨Or.inl (q_t2 177 rfl rfl),
  (List.forall_mem_cons.mpr ⟨Or.inl (q_t1 28 rfl rfl),
  (List.forall_mem_cons.mpr ⟨Or.inl (q_t1 29 rfl rfl),
  (List.forall_mem_cons.mpr ⟨Or.inl (q_t2 178 rfl rfl),
  (List.forall_mem_cons.mpr ⟨Or.inl (q_t2 183 rfl rfl),
  (List.forall_mem_cons.mpr ⟨Or.inl (q_t2 190 rfl rfl),
  (List.forall_mem_cons.mpr ⟨Or.inl (q_t2 206 rfl rfl),
  (List.forall_mem_cons.mpr ⟨Or.inl (q_t2 165 rfl rfl),
  (List.forall_mem_cons.mpr ⟨Or.inl (q_t2 207 rfl rfl),
  (List.forall_mem_cons.mpr ⟨Or.inl (q_t2 167 rfl rfl),
  (List.forall_mem_cons.mpr ⟨Or.inl (q_t2 208 rfl rfl),
  (List.forall_mem_cons.mpr ⟨Or.inl (q_t2 169 rfl rfl),
  (List.forall_mem_cons.mpr ⟨Or.inl (q_t2 179 rfl rfl),
  (List.forall_mem_cons.mpr ⟨Or.inr (Or.inl (List.mem_of_getElem? (i := 0) rfl)),
  (List.forall_mem_cons.mpr ⟨Or.inl (q_t2 181 rfl rfl),
  (List.forall_mem_cons.mpr ⟨Or.inr (Or.inl (List.mem_of_getElem? (i := 1) rfl)),
  (List.forall_mem_cons.mpr ⟨Or.inl (q_t2 171 rfl rfl),
  (fun _ h => absurd h List.not_mem_nil)⟩)⟩)⟩)⟩)⟩)⟩)⟩)⟩)⟩)⟩)⟩)⟩)⟩)⟩)⟩)⟩)⟩)⟩)⟩)⟩)⟩)⟩)⟩)⟩)
theorem th_re : ∀ w ∈ Jvm.Bundle.passAtoms "java/lang/RuntimeException" "java/lang/Exception" 1 Jvm.Bundle.five, w ∈ qg ∨ w ∈ qSpec ∨ w ∈ qFw :=
  (List.forall_mem_cons.mpr ⟨Or.inl (q_t2 199 rfl rfl),
  (List.forall_mem_cons.mpr ⟨Or.inl (q_t2 200 rfl rfl),
  (List.forall_mem_cons.mpr ⟨Or.inl (q_t2 201 rfl rfl),
  (List.forall_mem_cons.mpr ⟨Or.inl (q_t2 202 rfl rfl),
  (List.forall_mem_cons.mpr ⟨Or.inr (Or.inr (List.mem_of_getElem? (i := 1) rfl)),
  (fun _ h => absurd h List.not_mem_nil)⟩)⟩)⟩)⟩)⟩)
theorem th_et : ∀ w ∈ Jvm.Bundle.passAtoms "java/lang/Exception" "java/lang/Throwable" 1 Jvm.Bundle.five, w ∈ qg ∨ w ∈ qSpec ∨ w ∈ qFw :=
  (List.forall_mem_cons.mpr ⟨Or.inl (q_t2 202 rfl rfl),
  (List.forall_mem_cons.mpr ⟨Or.inl (q_t2 203 rfl rfl),
  (List.forall_mem_cons.mpr ⟨Or.inl (q_t2 204 rfl rfl),
  (List.forall_mem_cons.mpr ⟨Or.inl (q_t2 176 rfl rfl),
  (List.forall_mem_cons.mpr ⟨Or.inr (Or.inr (List.mem_of_getElem? (i := 2) rfl)),
  (fun _ h => absurd h List.not_mem_nil)⟩)⟩)⟩)⟩)⟩)
theorem th_IllegalArgumentException_1 : ∀ w ∈ Jvm.Bundle.passAtoms "java/lang/IllegalArgumentException" "java/lang/RuntimeException" 1 Jvm.Bundle.five, w ∈ qg ∨ w ∈ qSpec ∨ w ∈ qFw :=
  (List.forall_mem_cons.mpr ⟨Or.inl (q_t2 196 rfl rfl),
  (List.forall_mem_cons.mpr ⟨Or.inl (q_t2 197 rfl rfl),
  (List.forall_mem_cons.mpr ⟨Or.inl (q_t2 198 rfl rfl),
  (List.forall_mem_cons.mpr ⟨Or.inl (q_t2 199 rfl rfl),
  (List.forall_mem_cons.mpr ⟨Or.inr (Or.inr (List.mem_of_getElem? (i := 0) rfl)),
  (fun _ h => absurd h List.not_mem_nil)⟩)⟩)⟩)⟩)⟩)
theorem th_IllegalArgumentException : ∀ w ∈ Jvm.Bundle.ownAtoms0 "BillForge" 82 "java/lang/IllegalArgumentException" ["java/lang/RuntimeException", "java/lang/Exception"], w ∈ qg ∨ w ∈ qSpec ∨ w ∈ qFw := by
  refine List.forall_mem_append.mpr ⟨List.forall_mem_append.mpr ⟨th_common, ?_⟩, ?_⟩
  · show ∀ w ∈ Jvm.Bundle.passAtoms "java/lang/IllegalArgumentException" "java/lang/RuntimeException" 1 Jvm.Bundle.five ++ (Jvm.Bundle.passAtoms "java/lang/RuntimeException" "java/lang/Exception" 1 Jvm.Bundle.five ++ Jvm.Bundle.passAtoms "java/lang/Exception" "java/lang/Throwable" 1 Jvm.Bundle.five), w ∈ qg ∨ w ∈ qSpec ∨ w ∈ qFw
    exact List.forall_mem_append.mpr ⟨th_IllegalArgumentException_1, List.forall_mem_append.mpr ⟨th_re, th_et⟩⟩
  · exact (List.forall_mem_cons.mpr ⟨Or.inl (q_t2 195 rfl rfl),
  (List.forall_mem_cons.mpr ⟨Or.inl (q_t2 154 rfl rfl),
  (List.forall_mem_cons.mpr ⟨Or.inr (Or.inr (List.mem_of_getElem? (i := 3) rfl)),
  (List.forall_mem_cons.mpr ⟨Or.inl (q_t2 162 rfl rfl),
  (List.forall_mem_cons.mpr ⟨Or.inl (q_t2 163 rfl rfl),
  (List.forall_mem_cons.mpr ⟨Or.inl (q_t2 164 rfl rfl),
  (List.forall_mem_cons.mpr ⟨Or.inl (q_t2 166 rfl rfl),
  (List.forall_mem_cons.mpr ⟨Or.inl (q_t2 168 rfl rfl),
  (List.forall_mem_cons.mpr ⟨Or.inl (q_t2 170 rfl rfl),
  (List.forall_mem_cons.mpr ⟨Or.inr (Or.inl (List.mem_of_getElem? (i := 2) rfl)),
  (List.forall_mem_cons.mpr ⟨Or.inr (Or.inl (List.mem_of_getElem? (i := 3) rfl)),
  (List.forall_mem_cons.mpr ⟨Or.inl (q_t2 174 rfl rfl),
  (List.forall_mem_cons.mpr ⟨Or.inl (q_t2 173 rfl rfl),
  (List.forall_mem_cons.mpr ⟨Or.inl (q_t2 172 rfl rfl),
  (fun _ h => absurd h List.not_mem_nil)⟩)⟩)⟩)⟩)⟩)⟩)⟩)⟩)⟩)⟩)⟩)⟩)⟩)⟩)
theorem th_IllegalStateException_1 : ∀ w ∈ Jvm.Bundle.passAtoms "java/lang/IllegalStateException" "java/lang/RuntimeException" 1 Jvm.Bundle.five, w ∈ qg ∨ w ∈ qSpec ∨ w ∈ qFw :=
  (List.forall_mem_cons.mpr ⟨Or.inl (q_t2 231 rfl rfl),
  (List.forall_mem_cons.mpr ⟨Or.inl (q_t2 232 rfl rfl),
  (List.forall_mem_cons.mpr ⟨Or.inl (q_t2 233 rfl rfl),
  (List.forall_mem_cons.mpr ⟨Or.inl (q_t2 199 rfl rfl),
  (List.forall_mem_cons.mpr ⟨Or.inr (Or.inr (List.mem_of_getElem? (i := 0) rfl)),
  (fun _ h => absurd h List.not_mem_nil)⟩)⟩)⟩)⟩)⟩)
theorem th_IllegalStateException : ∀ w ∈ Jvm.Bundle.ownAtoms0 "BillForge" 89 "java/lang/IllegalStateException" ["java/lang/RuntimeException", "java/lang/Exception"], w ∈ qg ∨ w ∈ qSpec ∨ w ∈ qFw := by
  refine List.forall_mem_append.mpr ⟨List.forall_mem_append.mpr ⟨th_common, ?_⟩, ?_⟩
  · show ∀ w ∈ Jvm.Bundle.passAtoms "java/lang/IllegalStateException" "java/lang/RuntimeException" 1 Jvm.Bundle.five ++ (Jvm.Bundle.passAtoms "java/lang/RuntimeException" "java/lang/Exception" 1 Jvm.Bundle.five ++ Jvm.Bundle.passAtoms "java/lang/Exception" "java/lang/Throwable" 1 Jvm.Bundle.five), w ∈ qg ∨ w ∈ qSpec ∨ w ∈ qFw
    exact List.forall_mem_append.mpr ⟨th_IllegalStateException_1, List.forall_mem_append.mpr ⟨th_re, th_et⟩⟩
  · exact (List.forall_mem_cons.mpr ⟨Or.inl (q_t2 230 rfl rfl),
  (List.forall_mem_cons.mpr ⟨Or.inl (q_t2 222 rfl rfl),
  (List.forall_mem_cons.mpr ⟨Or.inr (Or.inr (List.mem_of_getElem? (i := 4) rfl)),
  (List.forall_mem_cons.mpr ⟨Or.inl (q_t2 224 rfl rfl),
  (List.forall_mem_cons.mpr ⟨Or.inl (q_t2 186 rfl rfl),
  (List.forall_mem_cons.mpr ⟨Or.inl (q_t2 225 rfl rfl),
  (List.forall_mem_cons.mpr ⟨Or.inl (q_t2 226 rfl rfl),
  (List.forall_mem_cons.mpr ⟨Or.inl (q_t2 227 rfl rfl),
  (List.forall_mem_cons.mpr ⟨Or.inl (q_t2 228 rfl rfl),
  (List.forall_mem_cons.mpr ⟨Or.inr (Or.inl (List.mem_of_getElem? (i := 2) rfl)),
  (List.forall_mem_cons.mpr ⟨Or.inr (Or.inl (List.mem_of_getElem? (i := 3) rfl)),
  (List.forall_mem_cons.mpr ⟨Or.inl (q_t2 174 rfl rfl),
  (List.forall_mem_cons.mpr ⟨Or.inl (q_t2 173 rfl rfl),
  (List.forall_mem_cons.mpr ⟨Or.inl (q_t2 229 rfl rfl),
  (fun _ h => absurd h List.not_mem_nil)⟩)⟩)⟩)⟩)⟩)⟩)⟩)⟩)⟩)⟩)⟩)⟩)⟩)⟩)
theorem th_IndexOutOfBoundsException_1 : ∀ w ∈ Jvm.Bundle.passAtoms "java/lang/IndexOutOfBoundsException" "java/lang/RuntimeException" 1 Jvm.Bundle.five, w ∈ qg ∨ w ∈ qSpec ∨ w ∈ qFw :=
  (List.forall_mem_cons.mpr ⟨Or.inl (q_t3 235 rfl rfl),
  (List.forall_mem_cons.mpr ⟨Or.inl (q_t3 236 rfl rfl),
  (List.forall_mem_cons.mpr ⟨Or.inl (q_t3 237 rfl rfl),
  (List.forall_mem_cons.mpr ⟨Or.inl (q_t2 199 rfl rfl),
  (List.forall_mem_cons.mpr ⟨Or.inr (Or.inr (List.mem_of_getElem? (i := 0) rfl)),
  (fun _ h => absurd h List.not_mem_nil)⟩)⟩)⟩)⟩)⟩)
theorem th_IndexOutOfBoundsException : ∀ w ∈ Jvm.Bundle.ownAtoms0 "BillForge" 149 "java/lang/IndexOutOfBoundsException" ["java/lang/RuntimeException", "java/lang/Exception"], w ∈ qg ∨ w ∈ qSpec ∨ w ∈ qFw := by
  refine List.forall_mem_append.mpr ⟨List.forall_mem_append.mpr ⟨th_common, ?_⟩, ?_⟩
  · show ∀ w ∈ Jvm.Bundle.passAtoms "java/lang/IndexOutOfBoundsException" "java/lang/RuntimeException" 1 Jvm.Bundle.five ++ (Jvm.Bundle.passAtoms "java/lang/RuntimeException" "java/lang/Exception" 1 Jvm.Bundle.five ++ Jvm.Bundle.passAtoms "java/lang/Exception" "java/lang/Throwable" 1 Jvm.Bundle.five), w ∈ qg ∨ w ∈ qSpec ∨ w ∈ qFw
    exact List.forall_mem_append.mpr ⟨th_IndexOutOfBoundsException_1, List.forall_mem_append.mpr ⟨th_re, th_et⟩⟩
  · exact (List.forall_mem_cons.mpr ⟨Or.inl (q_t3 234 rfl rfl),
  (List.forall_mem_cons.mpr ⟨Or.inl (q_t3 226 rfl rfl),
  (List.forall_mem_cons.mpr ⟨Or.inr (Or.inr (List.mem_of_getElem? (i := 5) rfl)),
  (List.forall_mem_cons.mpr ⟨Or.inl (q_t3 228 rfl rfl),
  (List.forall_mem_cons.mpr ⟨Or.inl (q_t2 187 rfl rfl),
  (List.forall_mem_cons.mpr ⟨Or.inl (q_t3 229 rfl rfl),
  (List.forall_mem_cons.mpr ⟨Or.inl (q_t3 230 rfl rfl),
  (List.forall_mem_cons.mpr ⟨Or.inl (q_t3 231 rfl rfl),
  (List.forall_mem_cons.mpr ⟨Or.inl (q_t3 232 rfl rfl),
  (List.forall_mem_cons.mpr ⟨Or.inr (Or.inl (List.mem_of_getElem? (i := 2) rfl)),
  (List.forall_mem_cons.mpr ⟨Or.inr (Or.inl (List.mem_of_getElem? (i := 3) rfl)),
  (List.forall_mem_cons.mpr ⟨Or.inl (q_t2 174 rfl rfl),
  (List.forall_mem_cons.mpr ⟨Or.inl (q_t2 173 rfl rfl),
  (List.forall_mem_cons.mpr ⟨Or.inl (q_t3 233 rfl rfl),
  (fun _ h => absurd h List.not_mem_nil)⟩)⟩)⟩)⟩)⟩)⟩)⟩)⟩)⟩)⟩)⟩)⟩)⟩)⟩)
theorem th_NoSuchElementException_1 : ∀ w ∈ Jvm.Bundle.passAtoms "java/util/NoSuchElementException" "java/lang/RuntimeException" 1 Jvm.Bundle.five, w ∈ qg ∨ w ∈ qSpec ∨ w ∈ qFw :=
  (List.forall_mem_cons.mpr ⟨Or.inl (q_t4 88 rfl rfl),
  (List.forall_mem_cons.mpr ⟨Or.inl (q_t4 89 rfl rfl),
  (List.forall_mem_cons.mpr ⟨Or.inl (q_t4 90 rfl rfl),
  (List.forall_mem_cons.mpr ⟨Or.inl (q_t2 199 rfl rfl),
  (List.forall_mem_cons.mpr ⟨Or.inr (Or.inr (List.mem_of_getElem? (i := 0) rfl)),
  (fun _ h => absurd h List.not_mem_nil)⟩)⟩)⟩)⟩)⟩)
theorem th_NoSuchElementException : ∀ w ∈ Jvm.Bundle.ownAtoms0 "BillForge" 197 "java/util/NoSuchElementException" ["java/lang/RuntimeException", "java/lang/Exception"], w ∈ qg ∨ w ∈ qSpec ∨ w ∈ qFw := by
  refine List.forall_mem_append.mpr ⟨List.forall_mem_append.mpr ⟨th_common, ?_⟩, ?_⟩
  · show ∀ w ∈ Jvm.Bundle.passAtoms "java/util/NoSuchElementException" "java/lang/RuntimeException" 1 Jvm.Bundle.five ++ (Jvm.Bundle.passAtoms "java/lang/RuntimeException" "java/lang/Exception" 1 Jvm.Bundle.five ++ Jvm.Bundle.passAtoms "java/lang/Exception" "java/lang/Throwable" 1 Jvm.Bundle.five), w ∈ qg ∨ w ∈ qSpec ∨ w ∈ qFw
    exact List.forall_mem_append.mpr ⟨th_NoSuchElementException_1, List.forall_mem_append.mpr ⟨th_re, th_et⟩⟩
  · exact (List.forall_mem_cons.mpr ⟨Or.inl (q_t4 87 rfl rfl),
  (List.forall_mem_cons.mpr ⟨Or.inl (q_t4 79 rfl rfl),
  (List.forall_mem_cons.mpr ⟨Or.inr (Or.inr (List.mem_of_getElem? (i := 6) rfl)),
  (List.forall_mem_cons.mpr ⟨Or.inl (q_t4 81 rfl rfl),
  (List.forall_mem_cons.mpr ⟨Or.inl (q_t2 188 rfl rfl),
  (List.forall_mem_cons.mpr ⟨Or.inl (q_t4 82 rfl rfl),
  (List.forall_mem_cons.mpr ⟨Or.inl (q_t4 83 rfl rfl),
  (List.forall_mem_cons.mpr ⟨Or.inl (q_t4 84 rfl rfl),
  (List.forall_mem_cons.mpr ⟨Or.inl (q_t4 85 rfl rfl),
  (List.forall_mem_cons.mpr ⟨Or.inr (Or.inl (List.mem_of_getElem? (i := 2) rfl)),
  (List.forall_mem_cons.mpr ⟨Or.inr (Or.inl (List.mem_of_getElem? (i := 3) rfl)),
  (List.forall_mem_cons.mpr ⟨Or.inl (q_t2 174 rfl rfl),
  (List.forall_mem_cons.mpr ⟨Or.inl (q_t2 173 rfl rfl),
  (List.forall_mem_cons.mpr ⟨Or.inl (q_t4 86 rfl rfl),
  (fun _ h => absurd h List.not_mem_nil)⟩)⟩)⟩)⟩)⟩)⟩)⟩)⟩)⟩)⟩)⟩)⟩)⟩)⟩)
end
