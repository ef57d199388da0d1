section
-- ===== PART A: goes FIRST, ahead of the names: the tables' words, and 'selects' of the private methods out of them =====
/-- a private method of a class that the tables say can be made, by its rows of tables_1 -/
def lw_okq (q : MethodName × Nat) : Prop := (q.1.cls ≠ "java/lang/invoke/MethodHandle" ∧ q.1.cls ≠ "java/lang/invoke/VarHandle") ∧ Cond.instantiable q.1.cls q.2 ∈ tables_1 ∧ Cond.privateMethod q.1 ∈ tables_1 ∧ Cond.instanceMethod q.1 ∈ tables_1
theorem lw_p0 : lw_okq (⟨"BillForge", "invoiceDifference", "(II)V"⟩, 11) := ⟨⟨by decide +kernel, by decide +kernel⟩, List.mem_of_getElem? (i := 23) (by decide +kernel), List.mem_of_getElem? (i := 261) (by decide +kernel), List.mem_of_getElem? (i := 262) (by decide +kernel)⟩
theorem lw_p1 : lw_okq (⟨"BillForge", "chargeOf", "(II)J"⟩, 11) := ⟨⟨by decide +kernel, by decide +kernel⟩, List.mem_of_getElem? (i := 23) (by decide +kernel), List.mem_of_getElem? (i := 269) (by decide +kernel), List.mem_of_getElem? (i := 270) (by decide +kernel)⟩
theorem lw_p2 : lw_okq (⟨"BillForge", "countLiveDays", "(II)V"⟩, 11) := ⟨⟨by decide +kernel, by decide +kernel⟩, List.mem_of_getElem? (i := 23) (by decide +kernel), List.mem_of_getElem? (i := 273) (by decide +kernel), List.mem_of_getElem? (i := 274) (by decide +kernel)⟩
theorem lw_p3 : lw_okq (⟨"BillForge$Customer", "liveTariffNow", "()I"⟩, 5) := ⟨⟨by decide +kernel, by decide +kernel⟩, List.mem_of_getElem? (i := 170) (by decide +kernel), List.mem_of_getElem? (i := 281) (by decide +kernel), List.mem_of_getElem? (i := 282) (by decide +kernel)⟩
theorem lw_p4 : lw_okq (⟨"BillForge", "countLiveUnits", "(II)V"⟩, 11) := ⟨⟨by decide +kernel, by decide +kernel⟩, List.mem_of_getElem? (i := 23) (by decide +kernel), List.mem_of_getElem? (i := 288) (by decide +kernel), List.mem_of_getElem? (i := 289) (by decide +kernel)⟩
theorem lw_p5 : lw_okq (⟨"BillForge$Tariff", "priceByPacks", "(J)J"⟩, 9) := ⟨⟨by decide +kernel, by decide +kernel⟩, List.mem_of_getElem? (i := 37) (by decide +kernel), List.mem_of_getElem? (i := 322) (by decide +kernel), List.mem_of_getElem? (i := 323) (by decide +kernel)⟩
theorem lw_p6 : lw_okq (⟨"BillForge$Tariff", "priceByTiers", "(J)J"⟩, 9) := ⟨⟨by decide +kernel, by decide +kernel⟩, List.mem_of_getElem? (i := 37) (by decide +kernel), List.mem_of_getElem? (i := 326) (by decide +kernel), List.mem_of_getElem? (i := 327) (by decide +kernel)⟩
theorem lw_p7 : lw_okq (⟨"BillForge", "spendCredit", "(I)V"⟩, 11) := ⟨⟨by decide +kernel, by decide +kernel⟩, List.mem_of_getElem? (i := 23) (by decide +kernel), List.mem_of_getElem? (i := 347) (by decide +kernel), List.mem_of_getElem? (i := 348) (by decide +kernel)⟩
theorem lw_p8 : lw_okq (⟨"BillForge", "lookAtStage", "(I)V"⟩, 11) := ⟨⟨by decide +kernel, by decide +kernel⟩, List.mem_of_getElem? (i := 23) (by decide +kernel), List.mem_of_getElem? (i := 359) (by decide +kernel), List.mem_of_getElem? (i := 360) (by decide +kernel)⟩
theorem lw_p9 : lw_okq (⟨"java/lang/Throwable", "fillInStackTrace", "(I)Ljava/lang/Throwable;"⟩, 6) := ⟨⟨by decide +kernel, by decide +kernel⟩, List.mem_of_getElem? (i := 433) (by decide +kernel), List.mem_of_getElem? (i := 431) (by decide +kernel), List.mem_of_getElem? (i := 432) (by decide +kernel)⟩
theorem lw_p10 : lw_okq (⟨"BillForge$TariffReader", "readPart", "()V"⟩, 7) := ⟨⟨by decide +kernel, by decide +kernel⟩, List.mem_of_getElem? (i := 31) (by decide +kernel), List.mem_of_getElem? (i := 500) (by decide +kernel), List.mem_of_getElem? (i := 501) (by decide +kernel)⟩
theorem lw_p11 : lw_okq (⟨"BillForge$TariffReader", "skipBlanks", "()V"⟩, 7) := ⟨⟨by decide +kernel, by decide +kernel⟩, List.mem_of_getElem? (i := 31) (by decide +kernel), List.mem_of_getElem? (i := 504) (by decide +kernel), List.mem_of_getElem? (i := 505) (by decide +kernel)⟩
theorem lw_p12 : lw_okq (⟨"BillForge$TariffReader", "skipLetters", "()V"⟩, 7) := ⟨⟨by decide +kernel, by decide +kernel⟩, List.mem_of_getElem? (i := 31) (by decide +kernel), List.mem_of_getElem? (i := 508) (by decide +kernel), List.mem_of_getElem? (i := 509) (by decide +kernel)⟩
theorem lw_p13 : lw_okq (⟨"BillForge$TariffReader", "wordBetween", "(II)I"⟩, 7) := ⟨⟨by decide +kernel, by decide +kernel⟩, List.mem_of_getElem? (i := 31) (by decide +kernel), List.mem_of_getElem? (i := 515) (by decide +kernel), List.mem_of_getElem? (i := 516) (by decide +kernel)⟩
theorem lw_p14 : lw_okq (⟨"BillForge$TariffReader", "isSpelled", "(Ljava/lang/String;II)Z"⟩, 7) := ⟨⟨by decide +kernel, by decide +kernel⟩, List.mem_of_getElem? (i := 31) (by decide +kernel), List.mem_of_getElem? (i := 528) (by decide +kernel), List.mem_of_getElem? (i := 529) (by decide +kernel)⟩
theorem lw_p15 : lw_okq (⟨"BillForge$TariffReader", "canStand", "(I)Z"⟩, 7) := ⟨⟨by decide +kernel, by decide +kernel⟩, List.mem_of_getElem? (i := 31) (by decide +kernel), List.mem_of_getElem? (i := 580) (by decide +kernel), List.mem_of_getElem? (i := 581) (by decide +kernel)⟩
def lw_privs_1 : List (MethodName × Nat) := [(⟨"BillForge", "invoiceDifference", "(II)V"⟩, 11), (⟨"BillForge", "chargeOf", "(II)J"⟩, 11), (⟨"BillForge", "countLiveDays", "(II)V"⟩, 11), (⟨"BillForge$Customer", "liveTariffNow", "()I"⟩, 5), (⟨"BillForge", "countLiveUnits", "(II)V"⟩, 11), (⟨"BillForge$Tariff", "priceByPacks", "(J)J"⟩, 9), (⟨"BillForge$Tariff", "priceByTiers", "(J)J"⟩, 9), (⟨"BillForge", "spendCredit", "(I)V"⟩, 11), (⟨"BillForge", "lookAtStage", "(I)V"⟩, 11), (⟨"java/lang/Throwable", "fillInStackTrace", "(I)Ljava/lang/Throwable;"⟩, 6), (⟨"BillForge$TariffReader", "readPart", "()V"⟩, 7), (⟨"BillForge$TariffReader", "skipBlanks", "()V"⟩, 7), (⟨"BillForge$TariffReader", "skipLetters", "()V"⟩, 7), (⟨"BillForge$TariffReader", "wordBetween", "(II)I"⟩, 7), (⟨"BillForge$TariffReader", "isSpelled", "(Ljava/lang/String;II)Z"⟩, 7), (⟨"BillForge$TariffReader", "canStand", "(I)Z"⟩, 7)]
theorem lw_r1 : ∀ q ∈ lw_privs_1, lw_okq q := List.forall_mem_cons.mpr ⟨lw_p0, List.forall_mem_cons.mpr ⟨lw_p1, List.forall_mem_cons.mpr ⟨lw_p2, List.forall_mem_cons.mpr ⟨lw_p3, List.forall_mem_cons.mpr ⟨lw_p4, List.forall_mem_cons.mpr ⟨lw_p5, List.forall_mem_cons.mpr ⟨lw_p6, List.forall_mem_cons.mpr ⟨lw_p7, List.forall_mem_cons.mpr ⟨lw_p8, List.forall_mem_cons.mpr ⟨lw_p9, List.forall_mem_cons.mpr ⟨lw_p10, List.forall_mem_cons.mpr ⟨lw_p11, List.forall_mem_cons.mpr ⟨lw_p12, List.forall_mem_cons.mpr ⟨lw_p13, List.forall_mem_cons.mpr ⟨lw_p14, List.forall_mem_cons.mpr ⟨lw_p15, fun _ h => absurd h List.not_mem_nil⟩⟩⟩⟩⟩⟩⟩⟩⟩⟩⟩⟩⟩⟩⟩⟩
theorem lw_p16 : lw_okq (⟨"BillForge$TariffReader", "readNumbers", "(I)V"⟩, 7) := ⟨⟨by decide +kernel, by decide +kernel⟩, List.mem_of_getElem? (i := 31) (by decide +kernel), List.mem_of_getElem? (i := 592) (by decide +kernel), List.mem_of_getElem? (i := 593) (by decide +kernel)⟩
theorem lw_p17 : lw_okq (⟨"BillForge$TariffReader", "readTwoNumbers", "(I)V"⟩, 7) := ⟨⟨by decide +kernel, by decide +kernel⟩, List.mem_of_getElem? (i := 31) (by decide +kernel), List.mem_of_getElem? (i := 596) (by decide +kernel), List.mem_of_getElem? (i := 597) (by decide +kernel)⟩
theorem lw_p18 : lw_okq (⟨"BillForge$TariffReader", "readNumber", "(I)I"⟩, 7) := ⟨⟨by decide +kernel, by decide +kernel⟩, List.mem_of_getElem? (i := 31) (by decide +kernel), List.mem_of_getElem? (i := 604) (by decide +kernel), List.mem_of_getElem? (i := 605) (by decide +kernel)⟩
theorem lw_p19 : lw_okq (⟨"BillForge$TariffReader", "readEndOfPart", "(I)V"⟩, 7) := ⟨⟨by decide +kernel, by decide +kernel⟩, List.mem_of_getElem? (i := 31) (by decide +kernel), List.mem_of_getElem? (i := 632) (by decide +kernel), List.mem_of_getElem? (i := 633) (by decide +kernel)⟩
theorem lw_p20 : lw_okq (⟨"BillForge", "passDay", "()V"⟩, 11) := ⟨⟨by decide +kernel, by decide +kernel⟩, List.mem_of_getElem? (i := 23) (by decide +kernel), List.mem_of_getElem? (i := 741) (by decide +kernel), List.mem_of_getElem? (i := 742) (by decide +kernel)⟩
theorem lw_p21 : lw_okq (⟨"BillForge", "allOpen", "()J"⟩, 11) := ⟨⟨by decide +kernel, by decide +kernel⟩, List.mem_of_getElem? (i := 23) (by decide +kernel), List.mem_of_getElem? (i := 869) (by decide +kernel), List.mem_of_getElem? (i := 870) (by decide +kernel)⟩
theorem lw_p22 : lw_okq (⟨"BillForge", "allCredit", "()J"⟩, 11) := ⟨⟨by decide +kernel, by decide +kernel⟩, List.mem_of_getElem? (i := 23) (by decide +kernel), List.mem_of_getElem? (i := 873) (by decide +kernel), List.mem_of_getElem? (i := 874) (by decide +kernel)⟩
theorem lw_p23 : lw_okq (⟨"BillForge", "allEarned", "()J"⟩, 11) := ⟨⟨by decide +kernel, by decide +kernel⟩, List.mem_of_getElem? (i := 23) (by decide +kernel), List.mem_of_getElem? (i := 881) (by decide +kernel), List.mem_of_getElem? (i := 882) (by decide +kernel)⟩
theorem lw_p24 : lw_okq (⟨"BillForgeModel", "refuse", "(I)I"⟩, 39) := ⟨⟨by decide +kernel, by decide +kernel⟩, List.mem_of_getElem? (i := 909) (by decide +kernel), List.mem_of_getElem? (i := 1046) (by decide +kernel), List.mem_of_getElem? (i := 1047) (by decide +kernel)⟩
theorem lw_p25 : lw_okq (⟨"BillForgeModel", "read", "()Z"⟩, 39) := ⟨⟨by decide +kernel, by decide +kernel⟩, List.mem_of_getElem? (i := 909) (by decide +kernel), List.mem_of_getElem? (i := 1055) (by decide +kernel), List.mem_of_getElem? (i := 1056) (by decide +kernel)⟩
theorem lw_p26 : lw_okq (⟨"BillForgeModel", "part", "()Z"⟩, 39) := ⟨⟨by decide +kernel, by decide +kernel⟩, List.mem_of_getElem? (i := 909) (by decide +kernel), List.mem_of_getElem? (i := 1059) (by decide +kernel), List.mem_of_getElem? (i := 1060) (by decide +kernel)⟩
theorem lw_p27 : lw_okq (⟨"BillForgeModel", "blanks", "()V"⟩, 39) := ⟨⟨by decide +kernel, by decide +kernel⟩, List.mem_of_getElem? (i := 909) (by decide +kernel), List.mem_of_getElem? (i := 1063) (by decide +kernel), List.mem_of_getElem? (i := 1064) (by decide +kernel)⟩
theorem lw_p28 : lw_okq (⟨"BillForgeModel", "look", "()I"⟩, 39) := ⟨⟨by decide +kernel, by decide +kernel⟩, List.mem_of_getElem? (i := 909) (by decide +kernel), List.mem_of_getElem? (i := 1067) (by decide +kernel), List.mem_of_getElem? (i := 1068) (by decide +kernel)⟩
theorem lw_p29 : lw_okq (⟨"BillForgeModel", "word", "(I)I"⟩, 39) := ⟨⟨by decide +kernel, by decide +kernel⟩, List.mem_of_getElem? (i := 909) (by decide +kernel), List.mem_of_getElem? (i := 1073) (by decide +kernel), List.mem_of_getElem? (i := 1074) (by decide +kernel)⟩
theorem lw_p30 : lw_okq (⟨"BillForgeModel", "number", "(I)I"⟩, 39) := ⟨⟨by decide +kernel, by decide +kernel⟩, List.mem_of_getElem? (i := 909) (by decide +kernel), List.mem_of_getElem? (i := 1083) (by decide +kernel), List.mem_of_getElem? (i := 1084) (by decide +kernel)⟩
theorem lw_p31 : lw_okq (⟨"BillForgeModel", "priced", "(IJJJ)J"⟩, 39) := ⟨⟨by decide +kernel, by decide +kernel⟩, List.mem_of_getElem? (i := 909) (by decide +kernel), List.mem_of_getElem? (i := 1101) (by decide +kernel), List.mem_of_getElem? (i := 1102) (by decide +kernel)⟩
def lw_privs_2 : List (MethodName × Nat) := [(⟨"BillForge$TariffReader", "readNumbers", "(I)V"⟩, 7), (⟨"BillForge$TariffReader", "readTwoNumbers", "(I)V"⟩, 7), (⟨"BillForge$TariffReader", "readNumber", "(I)I"⟩, 7), (⟨"BillForge$TariffReader", "readEndOfPart", "(I)V"⟩, 7), (⟨"BillForge", "passDay", "()V"⟩, 11), (⟨"BillForge", "allOpen", "()J"⟩, 11), (⟨"BillForge", "allCredit", "()J"⟩, 11), (⟨"BillForge", "allEarned", "()J"⟩, 11), (⟨"BillForgeModel", "refuse", "(I)I"⟩, 39), (⟨"BillForgeModel", "read", "()Z"⟩, 39), (⟨"BillForgeModel", "part", "()Z"⟩, 39), (⟨"BillForgeModel", "blanks", "()V"⟩, 39), (⟨"BillForgeModel", "look", "()I"⟩, 39), (⟨"BillForgeModel", "word", "(I)I"⟩, 39), (⟨"BillForgeModel", "number", "(I)I"⟩, 39), (⟨"BillForgeModel", "priced", "(IJJJ)J"⟩, 39)]
theorem lw_r2 : ∀ q ∈ lw_privs_2, lw_okq q := List.forall_mem_cons.mpr ⟨lw_p16, List.forall_mem_cons.mpr ⟨lw_p17, List.forall_mem_cons.mpr ⟨lw_p18, List.forall_mem_cons.mpr ⟨lw_p19, List.forall_mem_cons.mpr ⟨lw_p20, List.forall_mem_cons.mpr ⟨lw_p21, List.forall_mem_cons.mpr ⟨lw_p22, List.forall_mem_cons.mpr ⟨lw_p23, List.forall_mem_cons.mpr ⟨lw_p24, List.forall_mem_cons.mpr ⟨lw_p25, List.forall_mem_cons.mpr ⟨lw_p26, List.forall_mem_cons.mpr ⟨lw_p27, List.forall_mem_cons.mpr ⟨lw_p28, List.forall_mem_cons.mpr ⟨lw_p29, List.forall_mem_cons.mpr ⟨lw_p30, List.forall_mem_cons.mpr ⟨lw_p31, fun _ h => absurd h List.not_mem_nil⟩⟩⟩⟩⟩⟩⟩⟩⟩⟩⟩⟩⟩⟩⟩⟩
theorem lw_p32 : lw_okq (⟨"BillForgeModel", "due", "(II)J"⟩, 39) := ⟨⟨by decide +kernel, by decide +kernel⟩, List.mem_of_getElem? (i := 909) (by decide +kernel), List.mem_of_getElem? (i := 1123) (by decide +kernel), List.mem_of_getElem? (i := 1124) (by decide +kernel)⟩
theorem lw_p33 : lw_okq (⟨"BillForgeModel", "live", "(II)I"⟩, 39) := ⟨⟨by decide +kernel, by decide +kernel⟩, List.mem_of_getElem? (i := 909) (by decide +kernel), List.mem_of_getElem? (i := 1130) (by decide +kernel), List.mem_of_getElem? (i := 1131) (by decide +kernel)⟩
theorem lw_p34 : lw_okq (⟨"BillForgeModel", "look", "(I)V"⟩, 39) := ⟨⟨by decide +kernel, by decide +kernel⟩, List.mem_of_getElem? (i := 909) (by decide +kernel), List.mem_of_getElem? (i := 1153) (by decide +kernel), List.mem_of_getElem? (i := 1154) (by decide +kernel)⟩
theorem lw_p35 : lw_okq (⟨"BillForgeModel", "overdue", "(I)I"⟩, 39) := ⟨⟨by decide +kernel, by decide +kernel⟩, List.mem_of_getElem? (i := 909) (by decide +kernel), List.mem_of_getElem? (i := 1157) (by decide +kernel), List.mem_of_getElem? (i := 1158) (by decide +kernel)⟩
theorem lw_p36 : lw_okq (⟨"BillForgeModel", "settle", "(I)V"⟩, 39) := ⟨⟨by decide +kernel, by decide +kernel⟩, List.mem_of_getElem? (i := 909) (by decide +kernel), List.mem_of_getElem? (i := 1165) (by decide +kernel), List.mem_of_getElem? (i := 1166) (by decide +kernel)⟩
theorem lw_p37 : lw_okq (⟨"BillForgeModel", "open", "(I)J"⟩, 39) := ⟨⟨by decide +kernel, by decide +kernel⟩, List.mem_of_getElem? (i := 909) (by decide +kernel), List.mem_of_getElem? (i := 1187) (by decide +kernel), List.mem_of_getElem? (i := 1188) (by decide +kernel)⟩
theorem lw_p38 : lw_okq (⟨"BillForgeModel", "earned", "(I)J"⟩, 39) := ⟨⟨by decide +kernel, by decide +kernel⟩, List.mem_of_getElem? (i := 909) (by decide +kernel), List.mem_of_getElem? (i := 1191) (by decide +kernel), List.mem_of_getElem? (i := 1192) (by decide +kernel)⟩
def lw_privs_3 : List (MethodName × Nat) := [(⟨"BillForgeModel", "due", "(II)J"⟩, 39), (⟨"BillForgeModel", "live", "(II)I"⟩, 39), (⟨"BillForgeModel", "look", "(I)V"⟩, 39), (⟨"BillForgeModel", "overdue", "(I)I"⟩, 39), (⟨"BillForgeModel", "settle", "(I)V"⟩, 39), (⟨"BillForgeModel", "open", "(I)J"⟩, 39), (⟨"BillForgeModel", "earned", "(I)J"⟩, 39)]
theorem lw_r3 : ∀ q ∈ lw_privs_3, lw_okq q := List.forall_mem_cons.mpr ⟨lw_p32, List.forall_mem_cons.mpr ⟨lw_p33, List.forall_mem_cons.mpr ⟨lw_p34, List.forall_mem_cons.mpr ⟨lw_p35, List.forall_mem_cons.mpr ⟨lw_p36, List.forall_mem_cons.mpr ⟨lw_p37, List.forall_mem_cons.mpr ⟨lw_p38, fun _ h => absurd h List.not_mem_nil⟩⟩⟩⟩⟩⟩⟩
def lw_privs : List (MethodName × Nat) := lw_privs_1 ++ (lw_privs_2 ++ (lw_privs_3))
def lw_tbl : List Cond := k2_sels lw_privs ++ tables_1
theorem lw_privs_ok : ∀ q ∈ lw_privs, lw_okq q := by
  show ∀ q ∈ lw_privs_1 ++ (lw_privs_2 ++ (lw_privs_3)), lw_okq q
  exact List.forall_mem_append.mpr ⟨lw_r1, List.forall_mem_append.mpr ⟨lw_r2, lw_r3⟩⟩
end
section
/-! names: classes, their fields, methods -/
def R_cu : String := "BillForge$Customer"
def F_cu : u_T := fun k => match k with
  | 0 => ("BillForge$Customer", "liveTariffs", "[B", true)
  | 1 => ("BillForge$Customer", "tariff", "I", false)
  | 2 => ("BillForge$Customer", "paused", "Z", false)
  | 3 => ("BillForge$Customer", "stage", "I", false)
  | _ => ("BillForge$Customer", "credit", "J", false)
def t_cu : Nat → FieldType := fun k => match k with
  | 0 => .array .byte
  | 1 => .int
  | 2 => .boolean
  | 3 => .int
  | _ => .long
theorem n_cu : ∀ a, a < 5 → ∀ b, b < 5 → a ≠ b → (F_cu a).2.1 ≠ (F_cu b).2.1 := by decide +kernel
theorem t_cu_ok : ∀ k, k < 5 → parseFieldDescriptor (F_cu k).2.2.1 = some (t_cu k) := by decide +kernel
def R_ev : String := "BillForge$EventLog"
def F_ev : u_T := fun k => match k with
  | 0 => ("BillForge$EventLog", "keys", "[I", true)
  | 1 => ("BillForge$EventLog", "customers", "[I", true)
  | 2 => ("BillForge$EventLog", "days", "[I", true)
  | 3 => ("BillForge$EventLog", "units", "[I", true)
  | _ => ("BillForge$EventLog", "size", "I", false)
def t_ev : Nat → FieldType := fun k => match k with
  | 0 => .array .int
  | 1 => .array .int
  | 2 => .array .int
  | 3 => .array .int
  | _ => .int
theorem n_ev : ∀ a, a < 5 → ∀ b, b < 5 → a ≠ b → (F_ev a).2.1 ≠ (F_ev b).2.1 := by decide +kernel
theorem t_ev_ok : ∀ k, k < 5 → parseFieldDescriptor (F_ev k).2.2.1 = some (t_ev k) := by decide +kernel
def R_ib : String := "BillForge$InvoiceBook"
def F_ib : u_T := fun k => match k with
  | 0 => ("BillForge$InvoiceBook", "customers", "[I", true)
  | 1 => ("BillForge$InvoiceBook", "periods", "[I", true)
  | 2 => ("BillForge$InvoiceBook", "amounts", "[J", true)
  | 3 => ("BillForge$InvoiceBook", "days", "[I", true)
  | 4 => ("BillForge$InvoiceBook", "paid", "[J", true)
  | _ => ("BillForge$InvoiceBook", "size", "I", false)
def t_ib : Nat → FieldType := fun k => match k with
  | 0 => .array .int
  | 1 => .array .int
  | 2 => .array .long
  | 3 => .array .int
  | 4 => .array .long
  | _ => .int
theorem n_ib : ∀ a, a < 6 → ∀ b, b < 6 → a ≠ b → (F_ib a).2.1 ≠ (F_ib b).2.1 := by decide +kernel
theorem t_ib_ok : ∀ k, k < 6 → parseFieldDescriptor (F_ib k).2.2.1 = some (t_ib k) := by decide +kernel
def R_pb : String := "BillForge$PlanBook"
def F_pb : u_T := fun k => match k with
  | 0 => ("BillForge$PlanBook", "customers", "[I", true)
  | 1 => ("BillForge$PlanBook", "amounts", "[J", true)
  | 2 => ("BillForge$PlanBook", "lengths", "[I", true)
  | 3 => ("BillForge$PlanBook", "firstDays", "[I", true)
  | _ => ("BillForge$PlanBook", "size", "I", false)
def t_pb : Nat → FieldType := fun k => match k with
  | 0 => .array .int
  | 1 => .array .long
  | 2 => .array .int
  | 3 => .array .int
  | _ => .int
theorem n_pb : ∀ a, a < 5 → ∀ b, b < 5 → a ≠ b → (F_pb a).2.1 ≠ (F_pb b).2.1 := by decide +kernel
theorem t_pb_ok : ∀ k, k < 5 → parseFieldDescriptor (F_pb k).2.2.1 = some (t_pb k) := by decide +kernel
def R_tf : String := "BillForge$Tariff"
def F_tf : u_T := fun k => match k with
  | 0 => ("BillForge$Tariff", "fee", "I", false)
  | 1 => ("BillForge$Tariff", "free", "I", false)
  | 2 => ("BillForge$Tariff", "least", "I", false)
  | 3 => ("BillForge$Tariff", "packSize", "I", false)
  | 4 => ("BillForge$Tariff", "packPrice", "I", false)
  | 5 => ("BillForge$Tariff", "tiers", "I", false)
  | 6 => ("BillForge$Tariff", "tierEnds", "[I", true)
  | 7 => ("BillForge$Tariff", "tierPrices", "[I", true)
  | _ => ("BillForge$Tariff", "restPrice", "I", false)
def t_tf : Nat → FieldType := fun k => match k with
  | 0 => .int
  | 1 => .int
  | 2 => .int
  | 3 => .int
  | 4 => .int
  | 5 => .int
  | 6 => .array .int
  | 7 => .array .int
  | _ => .int
theorem n_tf : ∀ a, a < 9 → ∀ b, b < 9 → a ≠ b → (F_tf a).2.1 ≠ (F_tf b).2.1 := by decide +kernel
theorem t_tf_ok : ∀ k, k < 9 → parseFieldDescriptor (F_tf k).2.2.1 = some (t_tf k) := by decide +kernel
def R_tr : String := "BillForge$TariffReader"
def F_tr : u_T := fun k => match k with
  | 0 => ("BillForge$TariffReader", "characters", "[C", true)
  | 1 => ("BillForge$TariffReader", "wasThere", "[Z", true)
  | 2 => ("BillForge$TariffReader", "draft", "LBillForge$Tariff;", true)
  | 3 => ("BillForge$TariffReader", "length", "I", false)
  | 4 => ("BillForge$TariffReader", "at", "I", false)
  | 5 => ("BillForge$TariffReader", "parts", "I", false)
  | _ => ("BillForge$TariffReader", "fault", "I", false)
def t_tr : Nat → FieldType := fun k => match k with
  | 0 => .array .char
  | 1 => .array .boolean
  | 2 => .object "BillForge$Tariff"
  | 3 => .int
  | 4 => .int
  | 5 => .int
  | _ => .int
theorem n_tr : ∀ a, a < 7 → ∀ b, b < 7 → a ≠ b → (F_tr a).2.1 ≠ (F_tr b).2.1 := by decide +kernel
theorem t_tr_ok : ∀ k, k < 7 → parseFieldDescriptor (F_tr k).2.2.1 = some (t_tr k) := by decide +kernel
def R_bf : String := "BillForge"
def F_bf : u_T := fun k => match k with
  | 0 => ("BillForge", "reader", "LBillForge$TariffReader;", true)
  | 1 => ("BillForge", "tariffs", "[LBillForge$Tariff;", true)
  | 2 => ("BillForge", "customers", "[LBillForge$Customer;", true)
  | 3 => ("BillForge", "events", "LBillForge$EventLog;", true)
  | 4 => ("BillForge", "invoices", "LBillForge$InvoiceBook;", true)
  | 5 => ("BillForge", "plans", "LBillForge$PlanBook;", true)
  | 6 => ("BillForge", "firstDays", "[I", true)
  | 7 => ("BillForge", "liveDays", "[I", true)
  | 8 => ("BillForge", "liveUnits", "[J", true)
  | 9 => ("BillForge", "today", "I", false)
  | _ => ("BillForge", "cash", "J", false)
def t_bf : Nat → FieldType := fun k => match k with
  | 0 => .object "BillForge$TariffReader"
  | 1 => .array (.object "BillForge$Tariff")
  | 2 => .array (.object "BillForge$Customer")
  | 3 => .object "BillForge$EventLog"
  | 4 => .object "BillForge$InvoiceBook"
  | 5 => .object "BillForge$PlanBook"
  | 6 => .array .int
  | 7 => .array .int
  | 8 => .array .long
  | 9 => .int
  | _ => .long
theorem n_bf : ∀ a, a < 11 → ∀ b, b < 11 → a ≠ b → (F_bf a).2.1 ≠ (F_bf b).2.1 := by decide +kernel
theorem t_bf_ok : ∀ k, k < 11 → parseFieldDescriptor (F_bf k).2.2.1 = some (t_bf k) := by decide +kernel
def R_md : String := "BillForgeModel"
def F_md : u_T := fun k => match k with
  | 0 => ("BillForgeModel", "thrown", "I", false)
  | 1 => ("BillForgeModel", "where", "I", false)
  | 2 => ("BillForgeModel", "today", "I", false)
  | 3 => ("BillForgeModel", "text", "[I", true)
  | 4 => ("BillForgeModel", "length", "I", false)
  | 5 => ("BillForgeModel", "fee", "[I", true)
  | 6 => ("BillForgeModel", "free", "[I", true)
  | 7 => ("BillForgeModel", "min", "[I", true)
  | 8 => ("BillForgeModel", "per", "[I", true)
  | 9 => ("BillForgeModel", "perPrice", "[I", true)
  | 10 => ("BillForgeModel", "tiers", "[I", true)
  | 11 => ("BillForgeModel", "rest", "[I", true)
  | 12 => ("BillForgeModel", "upTo", "[I", true)
  | 13 => ("BillForgeModel", "price", "[I", true)
  | 14 => ("BillForgeModel", "plan", "[I", true)
  | 15 => ("BillForgeModel", "paused", "[I", true)
  | 16 => ("BillForgeModel", "stage", "[I", true)
  | 17 => ("BillForgeModel", "credit", "[J", true)
  | 18 => ("BillForgeModel", "was", "[I", true)
  | 19 => ("BillForgeModel", "eKey", "[I", true)
  | 20 => ("BillForgeModel", "eCustomer", "[I", true)
  | 21 => ("BillForgeModel", "eDay", "[I", true)
  | 22 => ("BillForgeModel", "eUnits", "[I", true)
  | 23 => ("BillForgeModel", "events", "I", false)
  | 24 => ("BillForgeModel", "iCustomer", "[I", true)
  | 25 => ("BillForgeModel", "iPeriod", "[I", true)
  | 26 => ("BillForgeModel", "iDay", "[I", true)
  | 27 => ("BillForgeModel", "iAmount", "[J", true)
  | 28 => ("BillForgeModel", "iPaid", "[J", true)
  | 29 => ("BillForgeModel", "invoices", "I", false)
  | 30 => ("BillForgeModel", "pCustomer", "[I", true)
  | 31 => ("BillForgeModel", "pDays", "[I", true)
  | 32 => ("BillForgeModel", "pFrom", "[I", true)
  | 33 => ("BillForgeModel", "pAmount", "[J", true)
  | 34 => ("BillForgeModel", "plans", "I", false)
  | 35 => ("BillForgeModel", "cash", "J", false)
  | 36 => ("BillForgeModel", "at", "I", false)
  | 37 => ("BillForgeModel", "seen", "I", false)
  | _ => ("BillForgeModel", "parts", "I", false)
def t_md : Nat → FieldType := fun k => match k with
  | 0 => .int
  | 1 => .int
  | 2 => .int
  | 3 => .array .int
  | 4 => .int
  | 5 => .array .int
  | 6 => .array .int
  | 7 => .array .int
  | 8 => .array .int
  | 9 => .array .int
  | 10 => .array .int
  | 11 => .array .int
  | 12 => .array .int
  | 13 => .array .int
  | 14 => .array .int
  | 15 => .array .int
  | 16 => .array .int
  | 17 => .array .long
  | 18 => .array .int
  | 19 => .array .int
  | 20 => .array .int
  | 21 => .array .int
  | 22 => .array .int
  | 23 => .int
  | 24 => .array .int
  | 25 => .array .int
  | 26 => .array .int
  | 27 => .array .long
  | 28 => .array .long
  | 29 => .int
  | 30 => .array .int
  | 31 => .array .int
  | 32 => .array .int
  | 33 => .array .long
  | 34 => .int
  | 35 => .long
  | 36 => .int
  | 37 => .int
  | _ => .int
theorem n_md : ∀ a, a < 39 → ∀ b, b < 39 → a ≠ b → (F_md a).2.1 ≠ (F_md b).2.1 := by decide +kernel
theorem t_md_ok : ∀ k, k < 39 → parseFieldDescriptor (F_md k).2.2.1 = some (t_md k) := by decide +kernel
abbrev qC : List vw_C := [(R_cu, F_cu, 5), (R_ev, F_ev, 5), (R_ib, F_ib, 6), (R_pb, F_pb, 5), (R_tf, F_tf, 9), (R_tr, F_tr, 7), (R_bf, F_bf, 11), (R_md, F_md, 39)]
/-- the classes of the arrays that the run makes -/
abbrev qT : List FieldType := [.int, .long, .char, .boolean, .byte, .object "BillForge$Tariff", .object "BillForge$Customer"]
/-- the tables' words that stay -/
def qg : List Cond := lw_tbl.filter goodWord
theorem qg_in {w : Cond} (h : w ∈ lw_tbl) (g : goodWord w = true) : w ∈ qg := List.mem_filter.mpr ⟨h, g⟩
theorem qg_good : ∀ w ∈ qg, goodWord w = true := fun w h => (List.mem_filter.mp h).2
/-- 'throw new En()' stands at pc -/
def qThrow (own : String) (cc : ByteArray) (pc : Nat) (En : String) : Prop := ∃ ik ic : Nat, decode cc pc = .ok (.new ik, 3) ∧ decode cc (pc + 3) = .ok (.dup, 1) ∧ decode cc (pc + 4) = .ok (.invokespecial ic, 3) ∧ decode cc (pc + 7) = .ok (.athrow, 1) ∧ Cond.classLink own ik En ∈ qg ∧ Cond.initialized En ∈ qg
end
section
/-! the judgement qR: one method's walk, over a world of logical cells (cell k of the run lies at z + k), with the machine's context hidden -/
/-- where the logical cell k lies: those that the run made at z + k, the given ones (the script, text constants) by ex -/
def qa (z : Nat) (ex : Nat → Nat) (k : Nat) : Nat := if k < 5000 then z + k else ex k
def qv (z : Nat) (ex : Nat → Nat) (v : Value) : Value := match v with
  | .ref k => .ref (qa z ex k)
  | .int i => .int i
  | .long i => .long i
  | .float i => .float i
  | .double i => .double i
  | .null => .null
  | .retAddr i => .retAddr i
def qp (z : Nat) (ex : Nat → Nat) (q : Nat × Value) : Nat × Value := (q.1, qv z ex q.2)
def qarr (z : Nat) (ex : Nat → Nat) (a : vp_A) : vp_A := match a with
  | (n, .inr (.inr (.inr (.inr g)))) => (n, .inr (.inr (.inr (.inr fun j => (g j).map (qa z ex)))))
  | (n, .inl g) => (n, .inl g)
  | (n, .inr (.inl g)) => (n, .inr (.inl g))
  | (n, .inr (.inr (.inl g))) => (n, .inr (.inr (.inl g)))
  | (n, .inr (.inr (.inr (.inl g)))) => (n, .inr (.inr (.inr (.inl g))))
def qe (z : Nat) (ex : Nat → Nat) (D3 : Nat → ClassId) (e : va_E) : va_E := match e with
  | .inl (t, a) => .inl (D3 t, qarr z ex a)
  | .inr (ci, fs) => .inr (ci, fs.map (qv z ex))
def qw (z : Nat) (ex : Nat → Nat) (D3 : Nat → ClassId) (n : Nat) (f : Nat → va_E) : va_W := (List.range n).map fun k => (z + k, qe z ex D3 (f k))
theorem qa_lt {z : Nat} {ex : Nat → Nat} {k : Nat} (h : k < 5000) : qa z ex k = z + k := if_pos h
theorem qv_cat (z : Nat) (ex : Nat → Nat) (v : Value) : (qv z ex v).category = v.category := by cases v <;> rfl
theorem qw_at {z : Nat} {ex : Nat → Nat} {D3 : Nat → ClassId} {n : Nat} {f : Nat → va_E} {k : Nat} (h : k < n) : (qw z ex D3 n f)[k]? = some (z + k, qe z ex D3 (f k)) := by
  simp [qw, h]
theorem qw_len (z : Nat) (ex : Nat → Nat) (D3 : Nat → ClassId) (n : Nat) (f : Nat → va_E) : (qw z ex D3 n f).length = n := by simp [qw]
theorem qw_set {z : Nat} {ex : Nat → Nat} {D3 : Nat → ClassId} {n : Nat} {f : Nat → va_E} {k : Nat} (e : va_E) : (qw z ex D3 n f).set k (z + k, qe z ex D3 e) = qw z ex D3 n (va_up f k e) := by
  apply List.ext_getElem?
  intro i
  rw [List.getElem?_set]
  by_cases hi : i < n
  · by_cases hk : k = i
    · subst hk
      rw [if_pos rfl, qw_len, if_pos hi, qw_at hi]
      simp [va_up]
    · rw [if_neg hk, qw_at hi, qw_at hi]
      simp [va_up, Ne.symm hk]
  · have h1 : (qw z ex D3 n f)[i]? = none := by simp [qw_len]; omega
    have h2 : (qw z ex D3 n (va_up f k e))[i]? = none := by simp [qw_len]; omega
    rw [h1, h2, qw_len]
    split
    · rw [if_neg (by omega)]
    · rfl
theorem qw_congr {z : Nat} {ex : Nat → Nat} {D3 : Nat → ClassId} {n : Nat} {f g : Nat → va_E} (h : ∀ k, k < n → f k = g k) : qw z ex D3 n f = qw z ex D3 n g := by
  apply List.map_congr_left
  intro k hk
  rw [h k (List.mem_range.mp hk)]
theorem qw_push {z : Nat} {ex : Nat → Nat} {D3 : Nat → ClassId} {n : Nat} {f : Nat → va_E} (e : va_E) : qw z ex D3 n f ++ [(z + n, qe z ex D3 e)] = qw z ex D3 (n + 1) (va_up f n e) := by
  have h1 : qw z ex D3 n f = qw z ex D3 n (va_up f n e) := qw_congr fun k hk => by simp [va_up, Nat.ne_of_lt hk]
  rw [h1]
  simp [qw, List.range_succ, va_up]
theorem qw_D (z : Nat) (ex : Nat → Nat) (D3 : Nat → ClassId) (n : Nat) (f : Nat → va_E) : va_D (fun q => z ≤ q) (qw z ex D3 n f) := by
  have key : ∀ (i : Nat) (p : Nat × va_E), (qw z ex D3 n f)[i]? = some p → p.1 = z + i := by
    intro i p hp
    have hi : i < n := by
      have := (List.getElem?_eq_some_iff.mp hp).1
      rwa [qw_len] at this
    rw [qw_at hi] at hp
    cases hp
    rfl
  refine ⟨fun i j p q hp hq h => ?_, fun k q hq => ?_⟩
  · have := key i p hp
    have := key j q hq
    omega
  · have := key k q hq
    show z ≤ q.1
    omega

/-- words that stay by a law of their own: calls across the nest -/
def qNg : List Cond := lw_tbl.filter fun w => match w with | .methodLinkNest .. => true | _ => false
/-- what is given at the start and never changes -/
def qX (z : Nat) (ex : Nat → Nat) (U : State) (H : Heap) : Prop := z ≤ H.size ∧ ∀ w ∈ qNg, va_Nw w U
theorem qX.warm {z : Nat} {ex : Nat → Nat} {s U : State} {H H1 : Heap} (h : qX z ex s H) (hW : s.WarmedH U.vm) (hz : H.size ≤ H1.size) (hq : ∀ a : Nat, a < H.size → ¬ z ≤ a → H1[a]? = H[a]?) : qX z ex U H1 := by
  refine ⟨Nat.le_trans h.1 hz, fun w hw => ?_⟩
  have h1 := h.2 w hw
  have h2 := (List.mem_filter.mp hw).2
  cases w <;> first | exact va_Nw.warmM hW h1 | exact absurd h2 Bool.false_ne_true
def qtys (D3 : Nat → ClassId) : List (ClassId × FieldType) := (List.range qT.length).map fun t => (D3 t, qT.getD t .int)
theorem qtys_at {D3 : Nat → ClassId} {t : Nat} {ty : FieldType} (h : qT[t]? = some ty) : (qtys D3)[t]? = some (D3 t, ty) := by
  have hl : t < qT.length := (List.getElem?_eq_some_iff.mp h).1
  have h2 : qT.getD t .int = ty := by simp [List.getD, h]
  rw [← h2]
  unfold qtys
  rw [List.getElem?_map, List.getElem?_range hl]
  rfl
/-- a world at a state -/
def qW (z : Nat) (ex : Nat → Nat) (D : va_G) (D3 : Nat → ClassId) (x : Bool) (n : Nat) (f : Nat → va_E) (U : State) : Prop :=
  va_P D qC (qw z ex D3 n f) U.heap ∧ va_K D qC (qtys D3) U ∧ (x = true → U.heap.size = z + n) ∧ qX z ex U U.heap
/-- a method: launch, its class, its bytes, how many locals, what it answers, is it a constructor; is the heap's size known; how deep it may call; the cells and slots that it makes; how many logical cells there are at its start -/
abbrev qK : Type := Launch × String × ByteArray × Nat × Option FieldType × Bool × Bool × Nat × Nat × Nat × Nat
abbrev kl (K : qK) : Launch := K.1
abbrev kown (K : qK) : String := K.2.1
abbrev kcc (K : qK) : ByteArray := K.2.2.1
abbrev knL (K : qK) : Nat := K.2.2.2.1
abbrev kret (K : qK) : Option FieldType := K.2.2.2.2.1
abbrev kini (K : qK) : Bool := K.2.2.2.2.2.1
abbrev kx (K : qK) : Bool := K.2.2.2.2.2.2.1
abbrev kd (K : qK) : Nat := K.2.2.2.2.2.2.2.1
abbrev kmc (K : qK) : Nat := K.2.2.2.2.2.2.2.2.1
abbrev kms (K : qK) : Nat := K.2.2.2.2.2.2.2.2.2.1
abbrev kn (K : qK) : Nat := K.2.2.2.2.2.2.2.2.2.2
def qrm (d mc ms : Nat) : Room := { frames := d, cells := mc, slots := ms, locals := 34 * d + 12 }
/-- the machine's context of a walk -/
def qCx (K : qK) (p : Program) (R : Room) (s : State) (m : MethodId) (args : Array Value) (meth : Method) (c : Code) (z : Nat) (ex : Nat → Nat) (D : va_G) (D3 : Nat → ClassId) : Prop :=
  p.tables.exec = Jvm.exec ∧ c.code = kcc K ∧ c.maxLocals = knL K ∧ s.vm.findClass (kown K) = some m.cls ∧ (∀ w ∈ qg, w.before args s = true) ∧ (kini K = true → meth.name = "<init>") ∧ va_K D qC (qtys D3) s ∧ qX z ex s s.heap ∧ R = qrm (kd K) (kmc K) (kms K) ∧ (kx K = true → s.heap.size = z + kn K)
abbrev qE : Type := Option Value → Nat → (Nat → va_E) → Prop
abbrev qXC : Type := String → Nat → (Nat → va_E) → Prop
/-- a return instruction, with its answer on the stack -/
def qRet (cc : ByteArray) (pc : Nat) (ret : Option FieldType) (v : Option Value) : Prop := match v with
  | none => ret = none ∧ decode cc pc = .ok (.return_, 1)
  | some (.int i) => (∃ ty, ret = some ty ∧ narrow ty (.int i) = .int i) ∧ decode cc pc = .ok (.ireturn, 1)
  | some (.long _) => ret = some .long ∧ decode cc pc = .ok (.lreturn, 1)
  | some (.ref _) => (∃ rt, ret = some rt ∧ ((∃ n, rt = .object n) ∨ ∃ t, rt = .array t)) ∧ decode cc pc = .ok (.areturn, 1)
  | _ => False
/-- what the ends of the walk give: a return, a throw -/
def qEnd (K : qK) (E : qE) (X : qXC) (p : Program) (e : Env) (R : Room) (s : State) (m : MethodId) (args : Array Value) (below : List Frame) (meth : Method) (c : Code) (Q : State → Prop) (z : Nat) (ex : Nat → Nat) (D : va_G) (D3 : Nat → ClassId) : Prop :=
  (∀ (v : Option Value) (n kc ks : Nat) (f : Nat → va_E) (H : Heap) (locs : List Loc) (pc : Nat) (ls : Array Slot), E v n f → kc ≤ kmc K → ks ≤ kms K → va_P D qC (qw z ex D3 n f) H → va_S (fun q => z ≤ q) s.heap H locs → qRet (kcc K) pc (kret K) v →
    W p (kl K) e R s m args below meth c H locs kc ks Q (F0 m pc ls (v.toList.map (qv z ex)))) ∧
  (∀ (En : String) (n kc ks : Nat) (f : Nat → va_E) (H : Heap) (locs : List Loc) (pc : Nat) (ls : Array Slot) (rest : List Value), X En n f → kc + 1 ≤ kmc K → ks + 6 ≤ kms K → va_P D qC (qw z ex D3 n f) H → va_S (fun q => z ≤ q) s.heap H locs → ls.size = knL K → (rest.map fun v => v.category).sum ≤ 8 → qThrow (kown K) (kcc K) pc En →
    W p (kl K) e R s m args below meth c H locs kc ks Q (F0 m pc ls rest))
def qR (K : qK) (E : qE) (X : qXC) (pc : Nat) (lv : List (Nat × Value)) (st : List Value) (n kc ks : Nat) (f : Nat → va_E) : Prop :=
  ∀ (p : Program) (e : Env) (R : Room) (s : State) (m : MethodId) (args : Array Value) (below : List Frame) (meth : Method) (c : Code) (H : Heap) (locs : List Loc) (ls : Array Slot) (Q : State → Prop) (z : Nat) (ex : Nat → Nat) (D : va_G) (D3 : Nat → ClassId),
    qCx K p R s m args meth c z ex D D3 → va_P D qC (qw z ex D3 n f) H → va_S (fun q => z ≤ q) s.heap H locs → lv_has ls (knL K) (lv.map (qp z ex)) → qEnd K E X p e R s m args below meth c Q z ex D D3 →
    W p (kl K) e R s m args below meth c H locs kc ks Q (F0 m pc ls (st.map (qv z ex)))
section QR
variable {K : qK} {E : qE} {X : qXC} {pc : Nat} {lv : List (Nat × Value)} {st : List Value} {n kc ks : Nat} {f : Nat → va_E}

theorem qr_iconst {i : Int} {v : Int32} (hd : decode (kcc K) pc = .ok (.iconst i, 1)) (hv : Int32.ofInt i = v) (k : qR K E X (pc + 1) lv (.int v :: st) n kc ks f) : qR K E X pc lv st n kc ks f := by
  intro p e R s m args below meth c H locs ls Q z ex D D3 C hP hS hl hE
  exact lv_iconst C.1 C.2.1 hd hv (k p e R s m args below meth c H locs ls Q z ex D D3 C hP hS hl hE)
theorem qr_bipush {i : Int} {v : Int32} (hd : decode (kcc K) pc = .ok (.bipush i, 2)) (hv : (Int8.ofInt i).toInt32 = v) (k : qR K E X (pc + 2) lv (.int v :: st) n kc ks f) : qR K E X pc lv st n kc ks f := by
  intro p e R s m args below meth c H locs ls Q z ex D D3 C hP hS hl hE
  exact lv_bipush C.1 C.2.1 hd hv (k p e R s m args below meth c H locs ls Q z ex D D3 C hP hS hl hE)
theorem qr_sipush {i : Int} {v : Int32} (hd : decode (kcc K) pc = .ok (.sipush i, 3)) (hv : (Int16.ofInt i).toInt32 = v) (k : qR K E X (pc + 3) lv (.int v :: st) n kc ks f) : qR K E X pc lv st n kc ks f := by
  intro p e R s m args below meth c H locs ls Q z ex D D3 C hP hS hl hE
  exact lv_sipush C.1 C.2.1 hd hv (k p e R s m args below meth c H locs ls Q z ex D D3 C hP hS hl hE)
theorem qr_lconst {i : Fin 2} {v : Int64} (hd : decode (kcc K) pc = .ok (.lconst i, 1)) (hv : Int64.ofNat (i : Nat) = v) (k : qR K E X (pc + 1) lv (.long v :: st) n kc ks f) : qR K E X pc lv st n kc ks f := by
  intro p e R s m args below meth c H locs ls Q z ex D D3 C hP hS hl hE
  exact lv_lconst C.1 C.2.1 hd hv (k p e R s m args below meth c H locs ls Q z ex D D3 C hP hS hl hE)
theorem qr_ldc {i : Nat} {v : Int32} (hd : decode (kcc K) pc = .ok (.ldc i, 2)) (hw : Cond.constant (kown K) i v ∈ qg) (k : qR K E X (pc + 2) lv (.int v :: st) n kc ks f) : qR K E X pc lv st n kc ks f := by
  intro p e R s m args below meth c H locs ls Q z ex D D3 C hP hS hl hE
  exact lv_ldc C.1 C.2.1 C.2.2.2.1 (C.2.2.2.2.1 _ hw) hd (k p e R s m args below meth c H locs ls Q z ex D D3 C hP hS hl hE)
theorem qr_ldc2 {i : Nat} {v : Int64} (hd : decode (kcc K) pc = .ok (.ldc2_w i, 3)) (hw : Cond.constantLong (kown K) i v ∈ qg) (k : qR K E X (pc + 3) lv (.long v :: st) n kc ks f) : qR K E X pc lv st n kc ks f := by
  intro p e R s m args below meth c H locs ls Q z ex D D3 C hP hS hl hE
  exact lv_ldc2 C.1 C.2.1 C.2.2.2.1 (C.2.2.2.2.1 _ hw) hd (k p e R s m args below meth c H locs ls Q z ex D D3 C hP hS hl hE)
/-- the local i holds v -/
def qL (lv : List (Nat × Value)) (i : Nat) : Option Value := (lv.find? fun q => q.1 == i).map (·.2)
theorem qL_has {lv : List (Nat × Value)} {i : Nat} {v : Value} {z : Nat} {ex : Nat → Nat} {ls : Array Slot} {nL : Nat} (hl : lv_has ls nL (lv.map (qp z ex))) (h : qL lv i = some v) : ls[i]? = some (.val (qv z ex v)) := by
  obtain ⟨q, hq, rfl⟩ := Option.map_eq_some_iff.mp h
  have h1 : q.1 = i := by simpa using List.find?_some hq
  have h2 : q ∈ lv := List.mem_of_find?_eq_some hq
  have h3 := hl.2.2 (qp z ex q) (List.mem_map.mpr ⟨q, h2, rfl⟩)
  rw [← h1]
  exact h3
/-- a local of one word, of two words, is stored -/
def qS1 (lv : List (Nat × Value)) (i : Nat) (v : Value) : List (Nat × Value) := (i, v) :: lv.filter (fun q => !(q.1 == i) && !(q.1 + 1 == i && q.2.category == 2))
def qS2 (lv : List (Nat × Value)) (i : Nat) (v : Value) : List (Nat × Value) := (i, v) :: lv.filter (fun q => !(q.1 == i) && (!(q.1 == i + 1) && !(q.1 + 1 == i && q.2.category == 2)))
theorem qS1_map {lv : List (Nat × Value)} {i : Nat} {v : Value} {z : Nat} {ex : Nat → Nat} : (i, qv z ex v) :: (lv.map (qp z ex)).filter (fun q => !(q.1 == i) && !(q.1 + 1 == i && q.2.category == 2)) = (qS1 lv i v).map (qp z ex) := by
  simp only [qS1, List.map_cons, List.filter_map]
  congr 1
  congr 1
  apply List.filter_congr
  intro q _
  simp [qp, qv_cat]
theorem qS2_map {lv : List (Nat × Value)} {i : Nat} {v : Value} {z : Nat} {ex : Nat → Nat} : (i, qv z ex v) :: (lv.map (qp z ex)).filter (fun q => !(q.1 == i) && (!(q.1 == i + 1) && !(q.1 + 1 == i && q.2.category == 2))) = (qS2 lv i v).map (qp z ex) := by
  simp only [qS2, List.map_cons, List.filter_map]
  congr 1
  congr 1
  apply List.filter_congr
  intro q _
  simp [qp, qv_cat]
theorem qr_iload_n {j : Fin 4} {i : Nat} {x : Int32} (hd : decode (kcc K) pc = .ok (.iload_n j, 1)) (hi : (j : Nat) = i) (h : qL lv i = some (.int x)) (k : qR K E X (pc + 1) lv (.int x :: st) n kc ks f) : qR K E X pc lv st n kc ks f := by
  intro p e R s m args below meth c H locs ls Q z ex D D3 C hP hS hl hE
  exact lv_iload_n C.1 C.2.1 hd hi (qL_has hl h) (k p e R s m args below meth c H locs ls Q z ex D D3 C hP hS hl hE)
theorem qr_iload {i : Nat} {x : Int32} (hd : decode (kcc K) pc = .ok (.iload i, 2)) (h : qL lv i = some (.int x)) (k : qR K E X (pc + 2) lv (.int x :: st) n kc ks f) : qR K E X pc lv st n kc ks f := by
  intro p e R s m args below meth c H locs ls Q z ex D D3 C hP hS hl hE
  exact lv_iload C.1 C.2.1 hd (qL_has hl h) (k p e R s m args below meth c H locs ls Q z ex D D3 C hP hS hl hE)
theorem qr_istore_n {j : Fin 4} {i : Nat} {x : Int32} {lv' : List (Nat × Value)} (hd : decode (kcc K) pc = .ok (.istore_n j, 1)) (hi : (j : Nat) = i) (hn : i < knL K) (hlv : qS1 lv i (.int x) = lv') (k : qR K E X (pc + 1) lv' (st) n kc ks f) : qR K E X pc lv (.int x :: st) n kc ks f := by
  intro p e R s m args below meth c H locs ls Q z ex D D3 C hP hS hl hE
  subst hlv
  exact lv_istore_n C.1 C.2.1 hd hi hl hn (qS1_map (v := .int x)) (fun ls hl => k p e R s m args below meth c H locs ls Q z ex D D3 C hP hS hl hE)
theorem qr_istore {i : Nat} {x : Int32} {lv' : List (Nat × Value)} (hd : decode (kcc K) pc = .ok (.istore i, 2)) (hn : i < knL K) (hlv : qS1 lv i (.int x) = lv') (k : qR K E X (pc + 2) lv' (st) n kc ks f) : qR K E X pc lv (.int x :: st) n kc ks f := by
  intro p e R s m args below meth c H locs ls Q z ex D D3 C hP hS hl hE
  subst hlv
  exact lv_istore C.1 C.2.1 hd hl hn (qS1_map (v := .int x)) (fun ls hl => k p e R s m args below meth c H locs ls Q z ex D D3 C hP hS hl hE)
theorem qr_lload_n {j : Fin 4} {i : Nat} {x : Int64} (hd : decode (kcc K) pc = .ok (.lload_n j, 1)) (hi : (j : Nat) = i) (h : qL lv i = some (.long x)) (k : qR K E X (pc + 1) lv (.long x :: st) n kc ks f) : qR K E X pc lv st n kc ks f := by
  intro p e R s m args below meth c H locs ls Q z ex D D3 C hP hS hl hE
  exact lv_lload_n C.1 C.2.1 hd hi (qL_has hl h) (k p e R s m args below meth c H locs ls Q z ex D D3 C hP hS hl hE)
theorem qr_lload {i : Nat} {x : Int64} (hd : decode (kcc K) pc = .ok (.lload i, 2)) (h : qL lv i = some (.long x)) (k : qR K E X (pc + 2) lv (.long x :: st) n kc ks f) : qR K E X pc lv st n kc ks f := by
  intro p e R s m args below meth c H locs ls Q z ex D D3 C hP hS hl hE
  exact lv_lload C.1 C.2.1 hd (qL_has hl h) (k p e R s m args below meth c H locs ls Q z ex D D3 C hP hS hl hE)
theorem qr_lstore_n {j : Fin 4} {i : Nat} {x : Int64} {lv' : List (Nat × Value)} (hd : decode (kcc K) pc = .ok (.lstore_n j, 1)) (hi : (j : Nat) = i) (hn : i + 1 < knL K) (hlv : qS2 lv i (.long x) = lv') (k : qR K E X (pc + 1) lv' (st) n kc ks f) : qR K E X pc lv (.long x :: st) n kc ks f := by
  intro p e R s m args below meth c H locs ls Q z ex D D3 C hP hS hl hE
  subst hlv
  exact lv_lstore_n C.1 C.2.1 hd hi hl hn (qS2_map (v := .long x)) (fun ls hl => k p e R s m args below meth c H locs ls Q z ex D D3 C hP hS hl hE)
theorem qr_lstore {i : Nat} {x : Int64} {lv' : List (Nat × Value)} (hd : decode (kcc K) pc = .ok (.lstore i, 2)) (hn : i + 1 < knL K) (hlv : qS2 lv i (.long x) = lv') (k : qR K E X (pc + 2) lv' (st) n kc ks f) : qR K E X pc lv (.long x :: st) n kc ks f := by
  intro p e R s m args below meth c H locs ls Q z ex D D3 C hP hS hl hE
  subst hlv
  exact lv_lstore C.1 C.2.1 hd hl hn (qS2_map (v := .long x)) (fun ls hl => k p e R s m args below meth c H locs ls Q z ex D D3 C hP hS hl hE)
theorem qr_aload_n {j : Fin 4} {i : Nat} {x : Nat} (hd : decode (kcc K) pc = .ok (.aload_n j, 1)) (hi : (j : Nat) = i) (h : qL lv i = some (.ref x)) (k : qR K E X (pc + 1) lv (.ref x :: st) n kc ks f) : qR K E X pc lv st n kc ks f := by
  intro p e R s m args below meth c H locs ls Q z ex D D3 C hP hS hl hE
  exact lv_aload_n C.1 C.2.1 hd hi (qL_has hl h) (k p e R s m args below meth c H locs ls Q z ex D D3 C hP hS hl hE)
theorem qr_aload {i : Nat} {x : Nat} (hd : decode (kcc K) pc = .ok (.aload i, 2)) (h : qL lv i = some (.ref x)) (k : qR K E X (pc + 2) lv (.ref x :: st) n kc ks f) : qR K E X pc lv st n kc ks f := by
  intro p e R s m args below meth c H locs ls Q z ex D D3 C hP hS hl hE
  exact lv_aload C.1 C.2.1 hd (qL_has hl h) (k p e R s m args below meth c H locs ls Q z ex D D3 C hP hS hl hE)
theorem qr_astore_n {j : Fin 4} {i : Nat} {x : Nat} {lv' : List (Nat × Value)} (hd : decode (kcc K) pc = .ok (.astore_n j, 1)) (hi : (j : Nat) = i) (hn : i < knL K) (hlv : qS1 lv i (.ref x) = lv') (k : qR K E X (pc + 1) lv' (st) n kc ks f) : qR K E X pc lv (.ref x :: st) n kc ks f := by
  intro p e R s m args below meth c H locs ls Q z ex D D3 C hP hS hl hE
  subst hlv
  exact lv_astore_n C.1 C.2.1 hd hi hl hn (qS1_map (v := .ref x)) (fun ls hl => k p e R s m args below meth c H locs ls Q z ex D D3 C hP hS hl hE)
theorem qr_astore {i : Nat} {x : Nat} {lv' : List (Nat × Value)} (hd : decode (kcc K) pc = .ok (.astore i, 2)) (hn : i < knL K) (hlv : qS1 lv i (.ref x) = lv') (k : qR K E X (pc + 2) lv' (st) n kc ks f) : qR K E X pc lv (.ref x :: st) n kc ks f := by
  intro p e R s m args below meth c H locs ls Q z ex D D3 C hP hS hl hE
  subst hlv
  exact lv_astore C.1 C.2.1 hd hl hn (qS1_map (v := .ref x)) (fun ls hl => k p e R s m args below meth c H locs ls Q z ex D D3 C hP hS hl hE)
theorem qr_iinc {i : Nat} {j : Int} {x v : Int32} {lv' : List (Nat × Value)} (hd : decode (kcc K) pc = .ok (.iinc i j, 3)) (h : qL lv i = some (.int x)) (hv : x + Int32.ofInt j = v) (hn : i < knL K) (hlv : qS1 lv i (.int v) = lv') (k : qR K E X (pc + 3) lv' (st) n kc ks f) : qR K E X pc lv st n kc ks f := by
  intro p e R s m args below meth c H locs ls Q z ex D D3 C hP hS hl hE
  subst hlv
  obtain ⟨q, hq, hq2⟩ := Option.map_eq_some_iff.mp h
  have h1 : q.1 = i := by simpa using List.find?_some hq
  obtain ⟨kq, hkq⟩ := List.getElem?_of_mem (List.mem_of_find?_eq_some hq)
  have hk2 : (lv.map (qp z ex))[kq]? = some (i, .int x) := by
    rw [List.getElem?_map, hkq]
    obtain ⟨q1, q2⟩ := q
    cases h1; cases hq2
    rfl
  exact lv_iinc (v := v) C.1 C.2.1 hd hl hk2 hv hn (qS1_map (v := .int v)) (fun ls hl => k p e R s m args below meth c H locs ls Q z ex D D3 C hP hS hl hE)
theorem qr_iadd {x y : Int32} (hd : decode (kcc K) pc = .ok (.iadd, 1)) (k : qR K E X (pc + 1) lv (.int (x + y) :: st) n kc ks f) : qR K E X pc lv (.int y :: .int x :: st) n kc ks f := by
  intro p e R s m args below meth c H locs ls Q z ex D D3 C hP hS hl hE
  exact lv_iadd C.1 C.2.1 hd (k p e R s m args below meth c H locs ls Q z ex D D3 C hP hS hl hE)
theorem qr_isub {x y : Int32} (hd : decode (kcc K) pc = .ok (.isub, 1)) (k : qR K E X (pc + 1) lv (.int (x - y) :: st) n kc ks f) : qR K E X pc lv (.int y :: .int x :: st) n kc ks f := by
  intro p e R s m args below meth c H locs ls Q z ex D D3 C hP hS hl hE
  exact lv_isub C.1 C.2.1 hd (k p e R s m args below meth c H locs ls Q z ex D D3 C hP hS hl hE)
theorem qr_imul {x y : Int32} (hd : decode (kcc K) pc = .ok (.imul, 1)) (k : qR K E X (pc + 1) lv (.int (x * y) :: st) n kc ks f) : qR K E X pc lv (.int y :: .int x :: st) n kc ks f := by
  intro p e R s m args below meth c H locs ls Q z ex D D3 C hP hS hl hE
  exact lv_imul C.1 C.2.1 hd (k p e R s m args below meth c H locs ls Q z ex D D3 C hP hS hl hE)
theorem qr_iand {x y : Int32} (hd : decode (kcc K) pc = .ok (.iand, 1)) (k : qR K E X (pc + 1) lv (.int (x &&& y) :: st) n kc ks f) : qR K E X pc lv (.int y :: .int x :: st) n kc ks f := by
  intro p e R s m args below meth c H locs ls Q z ex D D3 C hP hS hl hE
  exact lv_iand C.1 C.2.1 hd (k p e R s m args below meth c H locs ls Q z ex D D3 C hP hS hl hE)
theorem qr_ior {x y : Int32} (hd : decode (kcc K) pc = .ok (.ior, 1)) (k : qR K E X (pc + 1) lv (.int (x ||| y) :: st) n kc ks f) : qR K E X pc lv (.int y :: .int x :: st) n kc ks f := by
  intro p e R s m args below meth c H locs ls Q z ex D D3 C hP hS hl hE
  exact lv_ior C.1 C.2.1 hd (k p e R s m args below meth c H locs ls Q z ex D D3 C hP hS hl hE)
theorem qr_ixor {x y : Int32} (hd : decode (kcc K) pc = .ok (.ixor, 1)) (k : qR K E X (pc + 1) lv (.int (x ^^^ y) :: st) n kc ks f) : qR K E X pc lv (.int y :: .int x :: st) n kc ks f := by
  intro p e R s m args below meth c H locs ls Q z ex D D3 C hP hS hl hE
  exact lv_ixor C.1 C.2.1 hd (k p e R s m args below meth c H locs ls Q z ex D D3 C hP hS hl hE)
theorem qr_ladd {x y : Int64} (hd : decode (kcc K) pc = .ok (.ladd, 1)) (k : qR K E X (pc + 1) lv (.long (x + y) :: st) n kc ks f) : qR K E X pc lv (.long y :: .long x :: st) n kc ks f := by
  intro p e R s m args below meth c H locs ls Q z ex D D3 C hP hS hl hE
  exact lv_ladd C.1 C.2.1 hd (k p e R s m args below meth c H locs ls Q z ex D D3 C hP hS hl hE)
theorem qr_lsub {x y : Int64} (hd : decode (kcc K) pc = .ok (.lsub, 1)) (k : qR K E X (pc + 1) lv (.long (x - y) :: st) n kc ks f) : qR K E X pc lv (.long y :: .long x :: st) n kc ks f := by
  intro p e R s m args below meth c H locs ls Q z ex D D3 C hP hS hl hE
  exact lv_lsub C.1 C.2.1 hd (k p e R s m args below meth c H locs ls Q z ex D D3 C hP hS hl hE)
theorem qr_lmul {x y : Int64} (hd : decode (kcc K) pc = .ok (.lmul, 1)) (k : qR K E X (pc + 1) lv (.long (x * y) :: st) n kc ks f) : qR K E X pc lv (.long y :: .long x :: st) n kc ks f := by
  intro p e R s m args below meth c H locs ls Q z ex D D3 C hP hS hl hE
  exact lv_lmul C.1 C.2.1 hd (k p e R s m args below meth c H locs ls Q z ex D D3 C hP hS hl hE)
theorem qr_land {x y : Int64} (hd : decode (kcc K) pc = .ok (.land, 1)) (k : qR K E X (pc + 1) lv (.long (x &&& y) :: st) n kc ks f) : qR K E X pc lv (.long y :: .long x :: st) n kc ks f := by
  intro p e R s m args below meth c H locs ls Q z ex D D3 C hP hS hl hE
  exact lv_land C.1 C.2.1 hd (k p e R s m args below meth c H locs ls Q z ex D D3 C hP hS hl hE)
theorem qr_lor {x y : Int64} (hd : decode (kcc K) pc = .ok (.lor, 1)) (k : qR K E X (pc + 1) lv (.long (x ||| y) :: st) n kc ks f) : qR K E X pc lv (.long y :: .long x :: st) n kc ks f := by
  intro p e R s m args below meth c H locs ls Q z ex D D3 C hP hS hl hE
  exact lv_lor C.1 C.2.1 hd (k p e R s m args below meth c H locs ls Q z ex D D3 C hP hS hl hE)
theorem qr_lxor {x y : Int64} (hd : decode (kcc K) pc = .ok (.lxor, 1)) (k : qR K E X (pc + 1) lv (.long (x ^^^ y) :: st) n kc ks f) : qR K E X pc lv (.long y :: .long x :: st) n kc ks f := by
  intro p e R s m args below meth c H locs ls Q z ex D D3 C hP hS hl hE
  exact lv_lxor C.1 C.2.1 hd (k p e R s m args below meth c H locs ls Q z ex D D3 C hP hS hl hE)
theorem qr_idiv {x y : Int32} (hd : decode (kcc K) pc = .ok (.idiv, 1)) (h0 : ¬ y = 0) (k : qR K E X (pc + 1) lv (.int (x / y) :: st) n kc ks f) : qR K E X pc lv (.int y :: .int x :: st) n kc ks f := by
  intro p e R s m args below meth c H locs ls Q z ex D D3 C hP hS hl hE
  exact lv_idiv C.1 C.2.1 hd h0 (k p e R s m args below meth c H locs ls Q z ex D D3 C hP hS hl hE)
theorem qr_ldiv {x y : Int64} (hd : decode (kcc K) pc = .ok (.ldiv, 1)) (h0 : ¬ y = 0) (k : qR K E X (pc + 1) lv (.long (x / y) :: st) n kc ks f) : qR K E X pc lv (.long y :: .long x :: st) n kc ks f := by
  intro p e R s m args below meth c H locs ls Q z ex D D3 C hP hS hl hE
  exact lv_ldiv C.1 C.2.1 hd h0 (k p e R s m args below meth c H locs ls Q z ex D D3 C hP hS hl hE)
theorem qr_irem {x y : Int32} (hd : decode (kcc K) pc = .ok (.irem, 1)) (h0 : ¬ y = 0) (k : qR K E X (pc + 1) lv (.int (x - x / y * y) :: st) n kc ks f) : qR K E X pc lv (.int y :: .int x :: st) n kc ks f := by
  intro p e R s m args below meth c H locs ls Q z ex D D3 C hP hS hl hE
  exact lv_irem C.1 C.2.1 hd h0 (k p e R s m args below meth c H locs ls Q z ex D D3 C hP hS hl hE)
theorem qr_lrem {x y : Int64} (hd : decode (kcc K) pc = .ok (.lrem, 1)) (h0 : ¬ y = 0) (k : qR K E X (pc + 1) lv (.long (x - x / y * y) :: st) n kc ks f) : qR K E X pc lv (.long y :: .long x :: st) n kc ks f := by
  intro p e R s m args below meth c H locs ls Q z ex D D3 C hP hS hl hE
  exact lv_lrem C.1 C.2.1 hd h0 (k p e R s m args below meth c H locs ls Q z ex D D3 C hP hS hl hE)
theorem qr_ineg {x : Int32} (hd : decode (kcc K) pc = .ok (.ineg, 1)) (k : qR K E X (pc + 1) lv (.int (-x) :: st) n kc ks f) : qR K E X pc lv (.int x :: st) n kc ks f := by
  intro p e R s m args below meth c H locs ls Q z ex D D3 C hP hS hl hE
  exact lv_ineg C.1 C.2.1 hd (k p e R s m args below meth c H locs ls Q z ex D D3 C hP hS hl hE)
theorem qr_lneg {x : Int64} (hd : decode (kcc K) pc = .ok (.lneg, 1)) (k : qR K E X (pc + 1) lv (.long (-x) :: st) n kc ks f) : qR K E X pc lv (.long x :: st) n kc ks f := by
  intro p e R s m args below meth c H locs ls Q z ex D D3 C hP hS hl hE
  exact lv_lneg C.1 C.2.1 hd (k p e R s m args below meth c H locs ls Q z ex D D3 C hP hS hl hE)
theorem qr_i2l {x : Int32} (hd : decode (kcc K) pc = .ok (.i2l, 1)) (k : qR K E X (pc + 1) lv (.long (x.toInt64) :: st) n kc ks f) : qR K E X pc lv (.int x :: st) n kc ks f := by
  intro p e R s m args below meth c H locs ls Q z ex D D3 C hP hS hl hE
  exact lv_i2l C.1 C.2.1 hd rfl (k p e R s m args below meth c H locs ls Q z ex D D3 C hP hS hl hE)
theorem qr_l2i {x : Int64} (hd : decode (kcc K) pc = .ok (.l2i, 1)) (k : qR K E X (pc + 1) lv (.int (x.toInt32) :: st) n kc ks f) : qR K E X pc lv (.long x :: st) n kc ks f := by
  intro p e R s m args below meth c H locs ls Q z ex D D3 C hP hS hl hE
  exact lv_l2i C.1 C.2.1 hd rfl (k p e R s m args below meth c H locs ls Q z ex D D3 C hP hS hl hE)
theorem qr_i2b {x : Int32} (hd : decode (kcc K) pc = .ok (.i2b, 1)) (k : qR K E X (pc + 1) lv (.int (x.toInt8.toInt32) :: st) n kc ks f) : qR K E X pc lv (.int x :: st) n kc ks f := by
  intro p e R s m args below meth c H locs ls Q z ex D D3 C hP hS hl hE
  exact lv_i2b C.1 C.2.1 hd rfl (k p e R s m args below meth c H locs ls Q z ex D D3 C hP hS hl hE)
theorem qr_i2c {x : Int32} (hd : decode (kcc K) pc = .ok (.i2c, 1)) (k : qR K E X (pc + 1) lv (.int ((x.toUInt32 % 65536).toInt32) :: st) n kc ks f) : qR K E X pc lv (.int x :: st) n kc ks f := by
  intro p e R s m args below meth c H locs ls Q z ex D D3 C hP hS hl hE
  exact lv_i2c C.1 C.2.1 hd rfl (k p e R s m args below meth c H locs ls Q z ex D D3 C hP hS hl hE)
theorem qr_lushr {x : Int64} {y : Int32} (hd : decode (kcc K) pc = .ok (.lushr, 1)) (k : qR K E X (pc + 1) lv (.long ((x.toUInt64 >>> (y.toInt64.toUInt64 &&& Int64.toUInt64 63)).toInt64) :: st) n kc ks f) : qR K E X pc lv (.int y :: .long x :: st) n kc ks f := by
  intro p e R s m args below meth c H locs ls Q z ex D D3 C hP hS hl hE
  exact lv_lushr C.1 C.2.1 hd rfl (k p e R s m args below meth c H locs ls Q z ex D D3 C hP hS hl hE)
theorem qr_lshl {x : Int64} {y : Int32} (hd : decode (kcc K) pc = .ok (.lshl, 1)) (k : qR K E X (pc + 1) lv (.long (x <<< (y.toInt64 &&& 63)) :: st) n kc ks f) : qR K E X pc lv (.int y :: .long x :: st) n kc ks f := by
  intro p e R s m args below meth c H locs ls Q z ex D D3 C hP hS hl hE
  exact lv_lshl C.1 C.2.1 hd rfl (k p e R s m args below meth c H locs ls Q z ex D D3 C hP hS hl hE)
theorem qr_ishr {x y : Int32} (hd : decode (kcc K) pc = .ok (.ishr, 1)) (k : qR K E X (pc + 1) lv (.int (x >>> (y &&& 31)) :: st) n kc ks f) : qR K E X pc lv (.int y :: .int x :: st) n kc ks f := by
  intro p e R s m args below meth c H locs ls Q z ex D D3 C hP hS hl hE
  exact lv_ishr C.1 C.2.1 hd (k p e R s m args below meth c H locs ls Q z ex D D3 C hP hS hl hE)
theorem qr_lcmp {x y : Int64} (hd : decode (kcc K) pc = .ok (.lcmp, 1)) (k : qR K E X (pc + 1) lv (.int (lg_cmp x y) :: st) n kc ks f) : qR K E X pc lv (.long y :: .long x :: st) n kc ks f := by
  intro p e R s m args below meth c H locs ls Q z ex D D3 C hP hS hl hE
  exact W.lcmp C.1 C.2.1 hd (k p e R s m args below meth c H locs ls Q z ex D D3 C hP hS hl hE)
theorem qr_dup {a : Value} (hd : decode (kcc K) pc = .ok (.dup, 1)) (ha : a.category = 1) (k : qR K E X (pc + 1) lv (a :: a :: st) n kc ks f) : qR K E X pc lv (a :: st) n kc ks f := by
  intro p e R s m args below meth c H locs ls Q z ex D D3 C hP hS hl hE
  exact lv_dup C.1 C.2.1 hd (by rw [qv_cat]; exact ha) (k p e R s m args below meth c H locs ls Q z ex D D3 C hP hS hl hE)
theorem qr_pop {a : Value} (hd : decode (kcc K) pc = .ok (.pop, 1)) (ha : a.category = 1) (k : qR K E X (pc + 1) lv (st) n kc ks f) : qR K E X pc lv (a :: st) n kc ks f := by
  intro p e R s m args below meth c H locs ls Q z ex D D3 C hP hS hl hE
  exact lv_pop C.1 C.2.1 hd (by rw [qv_cat]; exact ha) (k p e R s m args below meth c H locs ls Q z ex D D3 C hP hS hl hE)
theorem qr_dup2_11 {a b : Value} (hd : decode (kcc K) pc = .ok (.dup2, 1)) (ha : a.category = 1) (hb : b.category = 1) (k : qR K E X (pc + 1) lv (a :: b :: a :: b :: st) n kc ks f) : qR K E X pc lv (a :: b :: st) n kc ks f := by
  intro p e R s m args below meth c H locs ls Q z ex D D3 C hP hS hl hE
  exact lv_dup2_11 C.1 C.2.1 hd (by rw [qv_cat]; exact ha) (by rw [qv_cat]; exact hb) (k p e R s m args below meth c H locs ls Q z ex D D3 C hP hS hl hE)
theorem qr_dup2_2 {a : Value} (hd : decode (kcc K) pc = .ok (.dup2, 1)) (ha : a.category = 2) (k : qR K E X (pc + 1) lv (a :: a :: st) n kc ks f) : qR K E X pc lv (a :: st) n kc ks f := by
  intro p e R s m args below meth c H locs ls Q z ex D D3 C hP hS hl hE
  exact lv_dup2_2 C.1 C.2.1 hd (by rw [qv_cat]; exact ha) (k p e R s m args below meth c H locs ls Q z ex D D3 C hP hS hl hE)
theorem qr_dup_x1 {a b : Value} (hd : decode (kcc K) pc = .ok (.dup_x1, 1)) (ha : a.category = 1) (hb : b.category = 1) (k : qR K E X (pc + 1) lv (a :: b :: a :: st) n kc ks f) : qR K E X pc lv (a :: b :: st) n kc ks f := by
  intro p e R s m args below meth c H locs ls Q z ex D D3 C hP hS hl hE
  exact lv_dup_x1 C.1 C.2.1 hd (by rw [qv_cat]; exact ha) (by rw [qv_cat]; exact hb) (k p e R s m args below meth c H locs ls Q z ex D D3 C hP hS hl hE)
theorem qr_dup_x2 {a b d : Value} (hd : decode (kcc K) pc = .ok (.dup_x2, 1)) (ha : a.category = 1) (hb : b.category = 1) (hc : d.category = 1) (k : qR K E X (pc + 1) lv (a :: b :: d :: a :: st) n kc ks f) : qR K E X pc lv (a :: b :: d :: st) n kc ks f := by
  intro p e R s m args below meth c H locs ls Q z ex D D3 C hP hS hl hE
  exact lv_dup_x2 C.1 C.2.1 hd (by rw [qv_cat]; exact ha) (by rw [qv_cat]; exact hb) (by rw [qv_cat]; exact hc) (k p e R s m args below meth c H locs ls Q z ex D D3 C hP hS hl hE)
theorem qr_dup2_x1_2 {a b : Value} (hd : decode (kcc K) pc = .ok (.dup2_x1, 1)) (ha : a.category = 2) (hb : b.category = 1) (k : qR K E X (pc + 1) lv (a :: b :: a :: st) n kc ks f) : qR K E X pc lv (a :: b :: st) n kc ks f := by
  intro p e R s m args below meth c H locs ls Q z ex D D3 C hP hS hl hE
  exact lv_dup2_x1_2 C.1 C.2.1 hd (by rw [qv_cat]; exact ha) (by rw [qv_cat]; exact hb) (k p e R s m args below meth c H locs ls Q z ex D D3 C hP hS hl hE)
theorem qr_dup2_x2_2 {a b d : Value} (hd : decode (kcc K) pc = .ok (.dup2_x2, 1)) (ha : a.category = 2) (hb : b.category = 1) (hc : d.category = 1) (k : qR K E X (pc + 1) lv (a :: b :: d :: a :: st) n kc ks f) : qR K E X pc lv (a :: b :: d :: st) n kc ks f := by
  intro p e R s m args below meth c H locs ls Q z ex D D3 C hP hS hl hE
  exact lv_dup2_x2_2 C.1 C.2.1 hd (by rw [qv_cat]; exact ha) (by rw [qv_cat]; exact hb) (by rw [qv_cat]; exact hc) (k p e R s m args below meth c H locs ls Q z ex D D3 C hP hS hl hE)
theorem qr_goto {off : Int} {tgt : Nat} (hd : decode (kcc K) pc = .ok (.goto off, 3)) (ht : (pc : Int) + off = (tgt : Int)) (k : qR K E X (tgt) lv (st) n kc ks f) : qR K E X pc lv st n kc ks f := by
  intro p e R s m args below meth c H locs ls Q z ex D D3 C hP hS hl hE
  exact lv_goto C.1 C.2.1 hd ht (k p e R s m args below meth c H locs ls Q z ex D D3 C hP hS hl hE)
theorem qr_if_eq {x : Int32} {off : Int} {tgt : Nat} (hd : decode (kcc K) pc = .ok (.ifCond .eq off, 3)) (ht : (pc : Int) + off = (tgt : Int)) (kt : x = 0 → qR K E X tgt lv st n kc ks f) (kf : ¬ x = 0 → qR K E X (pc + 3) lv st n kc ks f) : qR K E X pc lv (.int x :: st) n kc ks f := by
  intro p e R s m args below meth c H locs ls Q z ex D D3 C hP hS hl hE
  exact lv_if_eq C.1 C.2.1 hd ht (fun h => kt h p e R s m args below meth c H locs ls Q z ex D D3 C hP hS hl hE) (fun h => kf h p e R s m args below meth c H locs ls Q z ex D D3 C hP hS hl hE)
theorem qr_icmp_eq {x y : Int32} {off : Int} {tgt : Nat} (hd : decode (kcc K) pc = .ok (.if_icmp .eq off, 3)) (ht : (pc : Int) + off = (tgt : Int)) (kt : x = y → qR K E X tgt lv st n kc ks f) (kf : ¬ x = y → qR K E X (pc + 3) lv st n kc ks f) : qR K E X pc lv (.int y :: .int x :: st) n kc ks f := by
  intro p e R s m args below meth c H locs ls Q z ex D D3 C hP hS hl hE
  exact lv_icmp_eq C.1 C.2.1 hd ht (fun h => kt h p e R s m args below meth c H locs ls Q z ex D D3 C hP hS hl hE) (fun h => kf h p e R s m args below meth c H locs ls Q z ex D D3 C hP hS hl hE)
theorem qr_if_ne {x : Int32} {off : Int} {tgt : Nat} (hd : decode (kcc K) pc = .ok (.ifCond .ne off, 3)) (ht : (pc : Int) + off = (tgt : Int)) (kt : ¬ x = 0 → qR K E X tgt lv st n kc ks f) (kf : x = 0 → qR K E X (pc + 3) lv st n kc ks f) : qR K E X pc lv (.int x :: st) n kc ks f := by
  intro p e R s m args below meth c H locs ls Q z ex D D3 C hP hS hl hE
  exact lv_if_ne C.1 C.2.1 hd ht (fun h => kt h p e R s m args below meth c H locs ls Q z ex D D3 C hP hS hl hE) (fun h => kf h p e R s m args below meth c H locs ls Q z ex D D3 C hP hS hl hE)
theorem qr_icmp_ne {x y : Int32} {off : Int} {tgt : Nat} (hd : decode (kcc K) pc = .ok (.if_icmp .ne off, 3)) (ht : (pc : Int) + off = (tgt : Int)) (kt : ¬ x = y → qR K E X tgt lv st n kc ks f) (kf : x = y → qR K E X (pc + 3) lv st n kc ks f) : qR K E X pc lv (.int y :: .int x :: st) n kc ks f := by
  intro p e R s m args below meth c H locs ls Q z ex D D3 C hP hS hl hE
  exact lv_icmp_ne C.1 C.2.1 hd ht (fun h => kt h p e R s m args below meth c H locs ls Q z ex D D3 C hP hS hl hE) (fun h => kf h p e R s m args below meth c H locs ls Q z ex D D3 C hP hS hl hE)
theorem qr_if_lt {x : Int32} {off : Int} {tgt : Nat} (hd : decode (kcc K) pc = .ok (.ifCond .lt off, 3)) (ht : (pc : Int) + off = (tgt : Int)) (kt : x < 0 → qR K E X tgt lv st n kc ks f) (kf : ¬ x < 0 → qR K E X (pc + 3) lv st n kc ks f) : qR K E X pc lv (.int x :: st) n kc ks f := by
  intro p e R s m args below meth c H locs ls Q z ex D D3 C hP hS hl hE
  exact lv_if_lt C.1 C.2.1 hd ht (fun h => kt h p e R s m args below meth c H locs ls Q z ex D D3 C hP hS hl hE) (fun h => kf h p e R s m args below meth c H locs ls Q z ex D D3 C hP hS hl hE)
theorem qr_icmp_lt {x y : Int32} {off : Int} {tgt : Nat} (hd : decode (kcc K) pc = .ok (.if_icmp .lt off, 3)) (ht : (pc : Int) + off = (tgt : Int)) (kt : x < y → qR K E X tgt lv st n kc ks f) (kf : ¬ x < y → qR K E X (pc + 3) lv st n kc ks f) : qR K E X pc lv (.int y :: .int x :: st) n kc ks f := by
  intro p e R s m args below meth c H locs ls Q z ex D D3 C hP hS hl hE
  exact lv_icmp_lt C.1 C.2.1 hd ht (fun h => kt h p e R s m args below meth c H locs ls Q z ex D D3 C hP hS hl hE) (fun h => kf h p e R s m args below meth c H locs ls Q z ex D D3 C hP hS hl hE)
theorem qr_if_ge {x : Int32} {off : Int} {tgt : Nat} (hd : decode (kcc K) pc = .ok (.ifCond .ge off, 3)) (ht : (pc : Int) + off = (tgt : Int)) (kt : 0 ≤ x → qR K E X tgt lv st n kc ks f) (kf : ¬ 0 ≤ x → qR K E X (pc + 3) lv st n kc ks f) : qR K E X pc lv (.int x :: st) n kc ks f := by
  intro p e R s m args below meth c H locs ls Q z ex D D3 C hP hS hl hE
  exact lv_if_ge C.1 C.2.1 hd ht (fun h => kt h p e R s m args below meth c H locs ls Q z ex D D3 C hP hS hl hE) (fun h => kf h p e R s m args below meth c H locs ls Q z ex D D3 C hP hS hl hE)
theorem qr_icmp_ge {x y : Int32} {off : Int} {tgt : Nat} (hd : decode (kcc K) pc = .ok (.if_icmp .ge off, 3)) (ht : (pc : Int) + off = (tgt : Int)) (kt : y ≤ x → qR K E X tgt lv st n kc ks f) (kf : ¬ y ≤ x → qR K E X (pc + 3) lv st n kc ks f) : qR K E X pc lv (.int y :: .int x :: st) n kc ks f := by
  intro p e R s m args below meth c H locs ls Q z ex D D3 C hP hS hl hE
  exact lv_icmp_ge C.1 C.2.1 hd ht (fun h => kt h p e R s m args below meth c H locs ls Q z ex D D3 C hP hS hl hE) (fun h => kf h p e R s m args below meth c H locs ls Q z ex D D3 C hP hS hl hE)
theorem qr_if_gt {x : Int32} {off : Int} {tgt : Nat} (hd : decode (kcc K) pc = .ok (.ifCond .gt off, 3)) (ht : (pc : Int) + off = (tgt : Int)) (kt : 0 < x → qR K E X tgt lv st n kc ks f) (kf : ¬ 0 < x → qR K E X (pc + 3) lv st n kc ks f) : qR K E X pc lv (.int x :: st) n kc ks f := by
  intro p e R s m args below meth c H locs ls Q z ex D D3 C hP hS hl hE
  exact lv_if_gt C.1 C.2.1 hd ht (fun h => kt h p e R s m args below meth c H locs ls Q z ex D D3 C hP hS hl hE) (fun h => kf h p e R s m args below meth c H locs ls Q z ex D D3 C hP hS hl hE)
theorem qr_icmp_gt {x y : Int32} {off : Int} {tgt : Nat} (hd : decode (kcc K) pc = .ok (.if_icmp .gt off, 3)) (ht : (pc : Int) + off = (tgt : Int)) (kt : y < x → qR K E X tgt lv st n kc ks f) (kf : ¬ y < x → qR K E X (pc + 3) lv st n kc ks f) : qR K E X pc lv (.int y :: .int x :: st) n kc ks f := by
  intro p e R s m args below meth c H locs ls Q z ex D D3 C hP hS hl hE
  exact lv_icmp_gt C.1 C.2.1 hd ht (fun h => kt h p e R s m args below meth c H locs ls Q z ex D D3 C hP hS hl hE) (fun h => kf h p e R s m args below meth c H locs ls Q z ex D D3 C hP hS hl hE)
theorem qr_if_le {x : Int32} {off : Int} {tgt : Nat} (hd : decode (kcc K) pc = .ok (.ifCond .le off, 3)) (ht : (pc : Int) + off = (tgt : Int)) (kt : x ≤ 0 → qR K E X tgt lv st n kc ks f) (kf : ¬ x ≤ 0 → qR K E X (pc + 3) lv st n kc ks f) : qR K E X pc lv (.int x :: st) n kc ks f := by
  intro p e R s m args below meth c H locs ls Q z ex D D3 C hP hS hl hE
  exact lv_if_le C.1 C.2.1 hd ht (fun h => kt h p e R s m args below meth c H locs ls Q z ex D D3 C hP hS hl hE) (fun h => kf h p e R s m args below meth c H locs ls Q z ex D D3 C hP hS hl hE)
theorem qr_icmp_le {x y : Int32} {off : Int} {tgt : Nat} (hd : decode (kcc K) pc = .ok (.if_icmp .le off, 3)) (ht : (pc : Int) + off = (tgt : Int)) (kt : x ≤ y → qR K E X tgt lv st n kc ks f) (kf : ¬ x ≤ y → qR K E X (pc + 3) lv st n kc ks f) : qR K E X pc lv (.int y :: .int x :: st) n kc ks f := by
  intro p e R s m args below meth c H locs ls Q z ex D D3 C hP hS hl hE
  exact lv_icmp_le C.1 C.2.1 hd ht (fun h => kt h p e R s m args below meth c H locs ls Q z ex D D3 C hP hS hl hE) (fun h => kf h p e R s m args below meth c H locs ls Q z ex D D3 C hP hS hl hE)
theorem qr_tableOut {dflt lo hi : Int} {offs : Array Int} {len : Nat} {x : Int32} {tgt : Nat} (hd : decode (kcc K) pc = .ok (.tableswitch dflt lo hi offs, len)) (h : x.toInt < lo ∨ hi < x.toInt) (ht : (pc : Int) + dflt = (tgt : Int)) (k : qR K E X (tgt) lv (st) n kc ks f) : qR K E X pc lv (.int x :: st) n kc ks f := by
  intro p e R s m args below meth c H locs ls Q z ex D D3 C hP hS hl hE
  exact lv_tableOut C.1 C.2.1 hd h ht (k p e R s m args below meth c H locs ls Q z ex D D3 C hP hS hl hE)
theorem qr_tableIn {dflt lo hi : Int} {offs : Array Int} {len : Nat} {x : Int32} {off : Int} {tgt : Nat} (hd : decode (kcc K) pc = .ok (.tableswitch dflt lo hi offs, len)) (h1 : ¬ x.toInt < lo) (h2 : ¬ hi < x.toInt) (ho : offs[(x.toInt - lo).toNat]? = some off) (ht : (pc : Int) + off = (tgt : Int)) (k : qR K E X (tgt) lv (st) n kc ks f) : qR K E X pc lv (.int x :: st) n kc ks f := by
  intro p e R s m args below meth c H locs ls Q z ex D D3 C hP hS hl hE
  exact lv_tableIn C.1 C.2.1 hd h1 h2 ho ht (k p e R s m args below meth c H locs ls Q z ex D D3 C hP hS hl hE)
theorem qr_lookup {dflt : Int} {ps : Array (Int × Int)} {len : Nat} {x : Int32} {off : Int} {tgt : Nat} (hd : decode (kcc K) pc = .ok (.lookupswitch dflt ps, len)) (hp : (ps.toList.zip (ps.toList.drop 1)).all (fun (a, next) => a.1 < next.1) = true) (ho : Op.lookupswitch.offset ps.toList dflt x.toInt = off) (ht : (pc : Int) + off = (tgt : Int)) (k : qR K E X (tgt) lv (st) n kc ks f) : qR K E X pc lv (.int x :: st) n kc ks f := by
  intro p e R s m args below meth c H locs ls Q z ex D D3 C hP hS hl hE
  exact lv_lookup C.1 C.2.1 hd hp ho ht (k p e R s m args below meth c H locs ls Q z ex D D3 C hP hS hl hE)
end QR
end
section
/-! fields, arrays, Math, contracts, calls -/
/-- the field at pool place idx of the class own: field j of the objects of class ci -/
def qFl (own : String) (idx ci j : Nat) (ty : FieldType) (fin : Bool) : Prop := ∃ (C : String) (T : u_T) (N : Nat) (ty0 : Nat → FieldType), qC[ci]? = some (C, T, N) ∧ (∀ w ∈ u_ws C T N, w ∈ qg) ∧ (∀ k, k < N → parseFieldDescriptor (T k).2.2.1 = some (ty0 k)) ∧ (∀ a, a < N → ∀ b, b < N → a ≠ b → (T a).2.1 ≠ (T b).2.1) ∧ j < N ∧ Cond.fieldLink own idx (T j).1 (T j).2.1 (T j).2.2.1 ∈ qg ∧ (T j).2.2.2 = fin ∧ parseFieldDescriptor (T j).2.2.1 = some ty ∧ (T j).1 = C
/-- the value may lie in a field of that type as it is -/
def qFit (ty : FieldType) (v : Value) : Prop := ∀ z ex, narrow ty (qv z ex v) = qv z ex v ∧ fits ty (qv z ex v) = true
section QF
variable {K : qK} {E : qE} {X : qXC} {pc : Nat} {lv : List (Nat × Value)} {st : List Value} {n kc ks : Nat} {f f' : Nat → va_E}
theorem qe_obj {z : Nat} {ex : Nat → Nat} {D3 : Nat → ClassId} {n q ci : Nat} {f : Nat → va_E} {fs : List Value} (hq : q < n) (hf : f q = .inr (ci, fs)) : (qw z ex D3 n f)[q]? = some (z + q, .inr (ci, fs.map (qv z ex))) := by
  rw [qw_at hq, hf]
  rfl
theorem qe_arr {z : Nat} {ex : Nat → Nat} {D3 : Nat → ClassId} {n q t : Nat} {f : Nat → va_E} {a : vp_A} (hq : q < n) (hf : f q = .inl (t, a)) : (qw z ex D3 n f)[q]? = some (z + q, .inl (D3 t, qarr z ex a)) := by
  rw [qw_at hq, hf]
  rfl
theorem qr_get {idx ci j q : Nat} {ty : FieldType} {fin : Bool} {fs : List Value} {v : Value} (hd : decode (kcc K) pc = .ok (.getfield idx, 3)) (hF : qFl (kown K) idx ci j ty fin) (hq : q < n) (hq5 : q < 5000) (hf : f q = .inr (ci, fs)) (hv : fs[j]? = some v) (k : qR K E X (pc + 3) lv (v :: st) n kc ks f) : qR K E X pc lv (.ref q :: st) n kc ks f := by
  intro p e R s m args below meth c H locs ls Q z ex D D3 C hP hS hl hE
  obtain ⟨Cn, T, N, ty0, hc, hin, -, -, hj, hw, -, -, -⟩ := hF
  show W _ _ _ _ _ _ _ _ _ _ _ _ _ _ _ (F0 m pc ls (.ref (qa z ex _) :: st.map (qv z ex)))
  rw [qa_lt hq5]
  exact va_get (v := qv z ex v) C.1 C.2.1 C.2.2.2.2.1 hin C.2.2.2.1 C.2.2.2.2.2.2.1 hP _ (qe_obj hq hf) hc j hj (C.2.2.2.2.1 _ hw) (fun _ h => h) (by rw [List.getElem?_map, hv]; rfl) hd (k p e R s m args below meth c H locs ls Q z ex D D3 C hP hS hl hE)
theorem qr_put {idx ci j q : Nat} {ty : FieldType} {fs : List Value} {v : Value} (hd : decode (kcc K) pc = .ok (.putfield idx, 3)) (hF : qFl (kown K) idx ci j ty false) (hq : q < n) (hq5 : q < 5000) (hf : f q = .inr (ci, fs)) (hl2 : j < fs.length) (hv : qFit ty v) (hf' : va_up f q (.inr (ci, fs.set j v)) = f') (k : qR K E X (pc + 3) lv st n kc ks f') : qR K E X pc lv (v :: .ref q :: st) n kc ks f := by
  intro p e R s m args below meth c H locs ls Q z ex D D3 C hP hS hl hE
  obtain ⟨Cn, T, N, ty0, hc, hin, hty, hnm, hj, hw, hfin, hd2, hdc⟩ := hF
  show W _ _ _ _ _ _ _ _ _ _ _ _ _ _ _ (F0 m pc ls (qv z ex v :: .ref (qa z ex _) :: st.map (qv z ex)))
  rw [qa_lt hq5]
  refine va_put (v := qv z ex v) C.1 C.2.1 C.2.2.2.2.1 hin ty0 hty hnm C.2.2.2.1 C.2.2.2.2.2.2.1 hP (qw_D z ex D3 n f) hS _ (qe_obj hq hf) hc j hj (C.2.2.2.2.1 _ hw) (fun _ h => h) hfin hd2 (hv z ex).1 (hv z ex).2 (by rw [List.length_map]; exact hl2) hd (fun H1 locs1 hP1 hD1 hS1 => ?_)
  have e1 : (Sum.inr (ci, (fs.map (qv z ex)).set j (qv z ex v)) : va_E) = qe z ex D3 (.inr (ci, fs.set j v)) := by
    show (Sum.inr (ci, (fs.map (qv z ex)).set j (qv z ex v)) : va_E) = .inr (ci, (fs.set j v).map (qv z ex))
    rw [List.map_set]
  rw [e1, qw_set, hf'] at hP1
  exact k p e R s m args below meth c H1 locs1 ls Q z ex D D3 C hP1 hS1 hl hE
theorem qr_putF {idx ci j q : Nat} {ty : FieldType} {fs : List Value} {v : Value} (hd : decode (kcc K) pc = .ok (.putfield idx, 3)) (hF : qFl (kown K) idx ci j ty true) {T9 : u_T} {N9 : Nat} (hini : kini K = true ∧ qC[ci]? = some (kown K, T9, N9)) (hq : q < n) (hq5 : q < 5000) (hf : f q = .inr (ci, fs)) (hl2 : j < fs.length) (hv : qFit ty v) (hf' : va_up f q (.inr (ci, fs.set j v)) = f') (k : qR K E X (pc + 3) lv st n kc ks f') : qR K E X pc lv (v :: .ref q :: st) n kc ks f := by
  intro p e R s m args below meth c H locs ls Q z ex D D3 C hP hS hl hE
  obtain ⟨Cn, T, N, ty0, hc, hin, hty, hnm, hj, hw, hfin, hd2, hdc⟩ := hF
  show W _ _ _ _ _ _ _ _ _ _ _ _ _ _ _ (F0 m pc ls (qv z ex v :: .ref (qa z ex _) :: st.map (qv z ex)))
  rw [qa_lt hq5]
  refine va_putF (v := qv z ex v) C.1 C.2.1 C.2.2.2.2.1 hin ty0 hty hnm C.2.2.2.1 C.2.2.2.2.2.2.1 hP (qw_D z ex D3 n f) hS _ (qe_obj hq hf) hc j hj (C.2.2.2.2.1 _ hw) (fun _ h => h) hfin (C.2.2.2.2.2.1 hini.1) (hdc.trans (congrArg Prod.fst (Option.some.inj (hc.symm.trans hini.2)))) hd2 (hv z ex).1 (hv z ex).2 (by rw [List.length_map]; exact hl2) hd (fun H1 locs1 hP1 hD1 hS1 => ?_)
  have e1 : (Sum.inr (ci, (fs.map (qv z ex)).set j (qv z ex v)) : va_E) = qe z ex D3 (.inr (ci, fs.set j v)) := by
    show (Sum.inr (ci, (fs.map (qv z ex)).set j (qv z ex v)) : va_E) = .inr (ci, (fs.set j v).map (qv z ex))
    rw [List.map_set]
  rw [e1, qw_set, hf'] at hP1
  exact k p e R s m args below meth c H1 locs1 ls Q z ex D D3 C hP1 hS1 hl hE
theorem qr_iald {q len : Nat} {i : Int32} {g : Nat → Int32} (hd : decode (kcc K) pc = .ok (.iaload, 1)) (hq : q < n) (hq5 : q < 5000) (hf : f q = .inl (0, len, .inl g)) (hi : vp_in i len) (k : qR K E X (pc + 1) lv (.int (g i.toNatClampNeg) :: st) n kc ks f) : qR K E X pc lv (.int i :: .ref q :: st) n kc ks f := by
  intro p e R s m args below meth c H locs ls Q z ex D D3 C hP hS hl hE
  show W _ _ _ _ _ _ _ _ _ _ _ _ _ _ _ (F0 m pc ls (.int i :: .ref (qa z ex _) :: st.map (qv z ex)))
  rw [qa_lt hq5]
  exact va_iald C.1 C.2.1 C.2.2.2.2.2.2.1 hP q 0 (qe_arr hq hf) (qtys_at rfl) hi hd (k p e R s m args below meth c H locs ls Q z ex D D3 C hP hS hl hE)
theorem qr_ialdN {q len j : Nat} {g : Nat → Int32} (hd : decode (kcc K) pc = .ok (.iaload, 1)) (hq : q < n) (hq5 : q < 5000) (hf : f q = .inl (0, len, .inl g)) (hj : j < len) (hlen : len < 2 ^ 31) (k : qR K E X (pc + 1) lv (.int (g j) :: st) n kc ks f) : qR K E X pc lv (.int (nI j) :: .ref q :: st) n kc ks f :=
  qr_iald hd hq hq5 hf (vp_in_nI hj hlen) (by rw [nI_clamp (Nat.lt_trans hj hlen)]; exact k)
theorem qr_lald {q len : Nat} {i : Int32} {g : Nat → Int64} (hd : decode (kcc K) pc = .ok (.laload, 1)) (hq : q < n) (hq5 : q < 5000) (hf : f q = .inl (1, len, .inr (.inl g))) (hi : vp_in i len) (k : qR K E X (pc + 1) lv (.long (g i.toNatClampNeg) :: st) n kc ks f) : qR K E X pc lv (.int i :: .ref q :: st) n kc ks f := by
  intro p e R s m args below meth c H locs ls Q z ex D D3 C hP hS hl hE
  show W _ _ _ _ _ _ _ _ _ _ _ _ _ _ _ (F0 m pc ls (.int i :: .ref (qa z ex _) :: st.map (qv z ex)))
  rw [qa_lt hq5]
  exact va_lald C.1 C.2.1 C.2.2.2.2.2.2.1 hP q 1 (qe_arr hq hf) (qtys_at rfl) hi hd (k p e R s m args below meth c H locs ls Q z ex D D3 C hP hS hl hE)
theorem qr_laldN {q len j : Nat} {g : Nat → Int64} (hd : decode (kcc K) pc = .ok (.laload, 1)) (hq : q < n) (hq5 : q < 5000) (hf : f q = .inl (1, len, .inr (.inl g))) (hj : j < len) (hlen : len < 2 ^ 31) (k : qR K E X (pc + 1) lv (.long (g j) :: st) n kc ks f) : qR K E X pc lv (.int (nI j) :: .ref q :: st) n kc ks f :=
  qr_lald hd hq hq5 hf (vp_in_nI hj hlen) (by rw [nI_clamp (Nat.lt_trans hj hlen)]; exact k)
theorem qr_cald {q len : Nat} {i : Int32} {g : Nat → Int32} (hd : decode (kcc K) pc = .ok (.caload, 1)) (hq : q < n) (hq5 : q < 5000) (hf : f q = .inl (2, len, .inl g)) (hi : vp_in i len) (k : qR K E X (pc + 1) lv (.int (g i.toNatClampNeg) :: st) n kc ks f) : qR K E X pc lv (.int i :: .ref q :: st) n kc ks f := by
  intro p e R s m args below meth c H locs ls Q z ex D D3 C hP hS hl hE
  show W _ _ _ _ _ _ _ _ _ _ _ _ _ _ _ (F0 m pc ls (.int i :: .ref (qa z ex _) :: st.map (qv z ex)))
  rw [qa_lt hq5]
  exact va_cald C.1 C.2.1 C.2.2.2.2.2.2.1 hP q 2 (qe_arr hq hf) (qtys_at rfl) hi hd (k p e R s m args below meth c H locs ls Q z ex D D3 C hP hS hl hE)
theorem qr_caldN {q len j : Nat} {g : Nat → Int32} (hd : decode (kcc K) pc = .ok (.caload, 1)) (hq : q < n) (hq5 : q < 5000) (hf : f q = .inl (2, len, .inl g)) (hj : j < len) (hlen : len < 2 ^ 31) (k : qR K E X (pc + 1) lv (.int (g j) :: st) n kc ks f) : qR K E X pc lv (.int (nI j) :: .ref q :: st) n kc ks f :=
  qr_cald hd hq hq5 hf (vp_in_nI hj hlen) (by rw [nI_clamp (Nat.lt_trans hj hlen)]; exact k)
theorem qr_zald {q len : Nat} {i : Int32} {g : Nat → Int32} (hd : decode (kcc K) pc = .ok (.baload, 1)) (hq : q < n) (hq5 : q < 5000) (hf : f q = .inl (3, len, .inl g)) (hi : vp_in i len) (k : qR K E X (pc + 1) lv (.int (g i.toNatClampNeg) :: st) n kc ks f) : qR K E X pc lv (.int i :: .ref q :: st) n kc ks f := by
  intro p e R s m args below meth c H locs ls Q z ex D D3 C hP hS hl hE
  show W _ _ _ _ _ _ _ _ _ _ _ _ _ _ _ (F0 m pc ls (.int i :: .ref (qa z ex _) :: st.map (qv z ex)))
  rw [qa_lt hq5]
  exact va_zald C.1 C.2.1 C.2.2.2.2.2.2.1 hP q 3 (qe_arr hq hf) (qtys_at rfl) hi hd (k p e R s m args below meth c H locs ls Q z ex D D3 C hP hS hl hE)
theorem qr_zaldN {q len j : Nat} {g : Nat → Int32} (hd : decode (kcc K) pc = .ok (.baload, 1)) (hq : q < n) (hq5 : q < 5000) (hf : f q = .inl (3, len, .inl g)) (hj : j < len) (hlen : len < 2 ^ 31) (k : qR K E X (pc + 1) lv (.int (g j) :: st) n kc ks f) : qR K E X pc lv (.int (nI j) :: .ref q :: st) n kc ks f :=
  qr_zald hd hq hq5 hf (vp_in_nI hj hlen) (by rw [nI_clamp (Nat.lt_trans hj hlen)]; exact k)
theorem qr_bald {q len : Nat} {i : Int32} {g : Nat → Int32} (hd : decode (kcc K) pc = .ok (.baload, 1)) (hq : q < n) (hq5 : q < 5000) (hf : f q = .inl (4, len, .inl g)) (hi : vp_in i len) (k : qR K E X (pc + 1) lv (.int (g i.toNatClampNeg) :: st) n kc ks f) : qR K E X pc lv (.int i :: .ref q :: st) n kc ks f := by
  intro p e R s m args below meth c H locs ls Q z ex D D3 C hP hS hl hE
  show W _ _ _ _ _ _ _ _ _ _ _ _ _ _ _ (F0 m pc ls (.int i :: .ref (qa z ex _) :: st.map (qv z ex)))
  rw [qa_lt hq5]
  exact va_bald C.1 C.2.1 C.2.2.2.2.2.2.1 hP q 4 (qe_arr hq hf) (qtys_at rfl) hi hd (k p e R s m args below meth c H locs ls Q z ex D D3 C hP hS hl hE)
theorem qr_baldN {q len j : Nat} {g : Nat → Int32} (hd : decode (kcc K) pc = .ok (.baload, 1)) (hq : q < n) (hq5 : q < 5000) (hf : f q = .inl (4, len, .inl g)) (hj : j < len) (hlen : len < 2 ^ 31) (k : qR K E X (pc + 1) lv (.int (g j) :: st) n kc ks f) : qR K E X pc lv (.int (nI j) :: .ref q :: st) n kc ks f :=
  qr_bald hd hq hq5 hf (vp_in_nI hj hlen) (by rw [nI_clamp (Nat.lt_trans hj hlen)]; exact k)
theorem qr_aald {q len t : Nat} {i : Int32} {Cn : String} {g : Nat → Option Nat} {w : Nat} (hd : decode (kcc K) pc = .ok (.aaload, 1)) (hq : q < n) (hq5 : q < 5000) (hf : f q = .inl (t, len, .inr (.inr (.inr (.inr g))))) (ht : qT[t]? = some (.object Cn)) (hi : vp_in i len) (hg : g i.toNatClampNeg = some w) (k : qR K E X (pc + 1) lv (.ref w :: st) n kc ks f) : qR K E X pc lv (.int i :: .ref q :: st) n kc ks f := by
  intro p e R s m args below meth c H locs ls Q z ex D D3 C hP hS hl hE
  show W _ _ _ _ _ _ _ _ _ _ _ _ _ _ _ (F0 m pc ls (.int i :: .ref (qa z ex _) :: st.map (qv z ex)))
  rw [qa_lt hq5]
  refine va_aldq C.1 C.2.1 C.2.2.2.2.2.2.1 hP q t (qe_arr hq hf) (qtys_at ht) hi hd ?_
  show W _ _ _ _ _ _ _ _ _ _ _ _ _ _ _ (F0 m (pc + 1) ls (va_rf ((g i.toNatClampNeg).map (qa z ex)) :: st.map (qv z ex)))
  rw [hg]
  exact k p e R s m args below meth c H locs ls Q z ex D D3 C hP hS hl hE
theorem qr_alen {q t : Nat} {a : vp_A} {v : Int32} {ty : FieldType} (hd : decode (kcc K) pc = .ok (.arraylength, 1)) (hq : q < n) (hq5 : q < 5000) (hf : f q = .inl (t, a)) (ht : qT[t]? = some ty) (hv : Int32.ofNat a.1 = v) (k : qR K E X (pc + 1) lv (.int v :: st) n kc ks f) : qR K E X pc lv (.ref q :: st) n kc ks f := by
  intro p e R s m args below meth c H locs ls Q z ex D D3 C hP hS hl hE
  show W _ _ _ _ _ _ _ _ _ _ _ _ _ _ _ (F0 m pc ls (.ref (qa z ex _) :: st.map (qv z ex)))
  rw [qa_lt hq5]
  exact va_alen C.1 C.2.1 C.2.2.2.2.2.2.1 hP q t (qe_arr hq hf) (qtys_at ht) (v := v) (by
    obtain ⟨a1, a2⟩ := a
    rcases a2 with g | g | g | g | g <;> exact hv) hd (k p e R s m args below meth c H locs ls Q z ex D D3 C hP hS hl hE)
theorem qr_iast {q len : Nat} {i : Int32} {x : Int32} {g : Nat → Int32} (hd : decode (kcc K) pc = .ok (.iastore, 1)) (hq : q < n) (hq5 : q < 5000) (hf : f q = .inl (0, len, .inl g)) (hi : vp_in i len) (hf' : va_up f q (.inl (0, len, .inl (upd g i.toNatClampNeg x))) = f') (k : qR K E X (pc + 1) lv st n kc ks f') : qR K E X pc lv (.int x :: .int i :: .ref q :: st) n kc ks f := by
  intro p e R s m args below meth c H locs ls Q z ex D D3 C hP hS hl hE
  show W _ _ _ _ _ _ _ _ _ _ _ _ _ _ _ (F0 m pc ls (.int x :: .int i :: .ref (qa z ex _) :: st.map (qv z ex)))
  rw [qa_lt hq5]
  refine va_iast C.1 C.2.1 C.2.2.2.2.2.2.1 hP (qw_D z ex D3 n f) hS q 0 (qe_arr hq hf) (qtys_at rfl) hi hd (fun H1 locs1 hP1 hD1 hS1 => ?_)
  have hP2 : va_P D qC ((qw z ex D3 n f).set q (z + q, qe z ex D3 (.inl (0, len, .inl (upd g i.toNatClampNeg x))))) H1 := hP1
  rw [qw_set, hf'] at hP2
  exact k p e R s m args below meth c H1 locs1 ls Q z ex D D3 C hP2 hS1 hl hE
theorem qr_iastN {q len j : Nat} {x : Int32} {g : Nat → Int32} (hd : decode (kcc K) pc = .ok (.iastore, 1)) (hq : q < n) (hq5 : q < 5000) (hf : f q = .inl (0, len, .inl g)) (hj : j < len) (hlen : len < 2 ^ 31) (hf' : va_up f q (.inl (0, len, .inl (upd g j x))) = f') (k : qR K E X (pc + 1) lv st n kc ks f') : qR K E X pc lv (.int x :: .int (nI j) :: .ref q :: st) n kc ks f :=
  qr_iast hd hq hq5 hf (vp_in_nI hj hlen) (by rw [nI_clamp (Nat.lt_trans hj hlen)]; exact hf') k
theorem qr_last {q len : Nat} {i : Int32} {x : Int64} {g : Nat → Int64} (hd : decode (kcc K) pc = .ok (.lastore, 1)) (hq : q < n) (hq5 : q < 5000) (hf : f q = .inl (1, len, .inr (.inl g))) (hi : vp_in i len) (hf' : va_up f q (.inl (1, len, .inr (.inl (vp_updL g i.toNatClampNeg x)))) = f') (k : qR K E X (pc + 1) lv st n kc ks f') : qR K E X pc lv (.long x :: .int i :: .ref q :: st) n kc ks f := by
  intro p e R s m args below meth c H locs ls Q z ex D D3 C hP hS hl hE
  show W _ _ _ _ _ _ _ _ _ _ _ _ _ _ _ (F0 m pc ls (.long x :: .int i :: .ref (qa z ex _) :: st.map (qv z ex)))
  rw [qa_lt hq5]
  refine va_last C.1 C.2.1 C.2.2.2.2.2.2.1 hP (qw_D z ex D3 n f) hS q 1 (qe_arr hq hf) (qtys_at rfl) hi hd (fun H1 locs1 hP1 hD1 hS1 => ?_)
  have hP2 : va_P D qC ((qw z ex D3 n f).set q (z + q, qe z ex D3 (.inl (1, len, .inr (.inl (vp_updL g i.toNatClampNeg x)))))) H1 := hP1
  rw [qw_set, hf'] at hP2
  exact k p e R s m args below meth c H1 locs1 ls Q z ex D D3 C hP2 hS1 hl hE
theorem qr_lastN {q len j : Nat} {x : Int64} {g : Nat → Int64} (hd : decode (kcc K) pc = .ok (.lastore, 1)) (hq : q < n) (hq5 : q < 5000) (hf : f q = .inl (1, len, .inr (.inl g))) (hj : j < len) (hlen : len < 2 ^ 31) (hf' : va_up f q (.inl (1, len, .inr (.inl (vp_updL g j x)))) = f') (k : qR K E X (pc + 1) lv st n kc ks f') : qR K E X pc lv (.long x :: .int (nI j) :: .ref q :: st) n kc ks f :=
  qr_last hd hq hq5 hf (vp_in_nI hj hlen) (by rw [nI_clamp (Nat.lt_trans hj hlen)]; exact hf') k
theorem qr_cast {q len : Nat} {i : Int32} {x : Int32} {g : Nat → Int32} (hd : decode (kcc K) pc = .ok (.castore, 1)) (hq : q < n) (hq5 : q < 5000) (hf : f q = .inl (2, len, .inl g)) (hi : vp_in i len) (hf' : va_up f q (.inl (2, len, .inl (upd g i.toNatClampNeg (vp_nar .char x)))) = f') (k : qR K E X (pc + 1) lv st n kc ks f') : qR K E X pc lv (.int x :: .int i :: .ref q :: st) n kc ks f := by
  intro p e R s m args below meth c H locs ls Q z ex D D3 C hP hS hl hE
  show W _ _ _ _ _ _ _ _ _ _ _ _ _ _ _ (F0 m pc ls (.int x :: .int i :: .ref (qa z ex _) :: st.map (qv z ex)))
  rw [qa_lt hq5]
  refine va_cast C.1 C.2.1 C.2.2.2.2.2.2.1 hP (qw_D z ex D3 n f) hS q 2 (qe_arr hq hf) (qtys_at rfl) hi hd (fun H1 locs1 hP1 hD1 hS1 => ?_)
  have hP2 : va_P D qC ((qw z ex D3 n f).set q (z + q, qe z ex D3 (.inl (2, len, .inl (upd g i.toNatClampNeg (vp_nar .char x)))))) H1 := hP1
  rw [qw_set, hf'] at hP2
  exact k p e R s m args below meth c H1 locs1 ls Q z ex D D3 C hP2 hS1 hl hE
theorem qr_castN {q len j : Nat} {x : Int32} {g : Nat → Int32} (hd : decode (kcc K) pc = .ok (.castore, 1)) (hq : q < n) (hq5 : q < 5000) (hf : f q = .inl (2, len, .inl g)) (hj : j < len) (hlen : len < 2 ^ 31) (hf' : va_up f q (.inl (2, len, .inl (upd g j (vp_nar .char x)))) = f') (k : qR K E X (pc + 1) lv st n kc ks f') : qR K E X pc lv (.int x :: .int (nI j) :: .ref q :: st) n kc ks f :=
  qr_cast hd hq hq5 hf (vp_in_nI hj hlen) (by rw [nI_clamp (Nat.lt_trans hj hlen)]; exact hf') k
theorem qr_zast {q len : Nat} {i : Int32} {x : Int32} {g : Nat → Int32} (hd : decode (kcc K) pc = .ok (.bastore, 1)) (hq : q < n) (hq5 : q < 5000) (hf : f q = .inl (3, len, .inl g)) (hi : vp_in i len) (hf' : va_up f q (.inl (3, len, .inl (upd g i.toNatClampNeg (vp_nar .boolean x)))) = f') (k : qR K E X (pc + 1) lv st n kc ks f') : qR K E X pc lv (.int x :: .int i :: .ref q :: st) n kc ks f := by
  intro p e R s m args below meth c H locs ls Q z ex D D3 C hP hS hl hE
  show W _ _ _ _ _ _ _ _ _ _ _ _ _ _ _ (F0 m pc ls (.int x :: .int i :: .ref (qa z ex _) :: st.map (qv z ex)))
  rw [qa_lt hq5]
  refine va_zast C.1 C.2.1 C.2.2.2.2.2.2.1 hP (qw_D z ex D3 n f) hS q 3 (qe_arr hq hf) (qtys_at rfl) hi hd (fun H1 locs1 hP1 hD1 hS1 => ?_)
  have hP2 : va_P D qC ((qw z ex D3 n f).set q (z + q, qe z ex D3 (.inl (3, len, .inl (upd g i.toNatClampNeg (vp_nar .boolean x)))))) H1 := hP1
  rw [qw_set, hf'] at hP2
  exact k p e R s m args below meth c H1 locs1 ls Q z ex D D3 C hP2 hS1 hl hE
theorem qr_zastN {q len j : Nat} {x : Int32} {g : Nat → Int32} (hd : decode (kcc K) pc = .ok (.bastore, 1)) (hq : q < n) (hq5 : q < 5000) (hf : f q = .inl (3, len, .inl g)) (hj : j < len) (hlen : len < 2 ^ 31) (hf' : va_up f q (.inl (3, len, .inl (upd g j (vp_nar .boolean x)))) = f') (k : qR K E X (pc + 1) lv st n kc ks f') : qR K E X pc lv (.int x :: .int (nI j) :: .ref q :: st) n kc ks f :=
  qr_zast hd hq hq5 hf (vp_in_nI hj hlen) (by rw [nI_clamp (Nat.lt_trans hj hlen)]; exact hf') k
theorem qr_bast {q len : Nat} {i : Int32} {x : Int32} {g : Nat → Int32} (hd : decode (kcc K) pc = .ok (.bastore, 1)) (hq : q < n) (hq5 : q < 5000) (hf : f q = .inl (4, len, .inl g)) (hi : vp_in i len) (hf' : va_up f q (.inl (4, len, .inl (upd g i.toNatClampNeg (vp_nar .byte x)))) = f') (k : qR K E X (pc + 1) lv st n kc ks f') : qR K E X pc lv (.int x :: .int i :: .ref q :: st) n kc ks f := by
  intro p e R s m args below meth c H locs ls Q z ex D D3 C hP hS hl hE
  show W _ _ _ _ _ _ _ _ _ _ _ _ _ _ _ (F0 m pc ls (.int x :: .int i :: .ref (qa z ex _) :: st.map (qv z ex)))
  rw [qa_lt hq5]
  refine va_bast C.1 C.2.1 C.2.2.2.2.2.2.1 hP (qw_D z ex D3 n f) hS q 4 (qe_arr hq hf) (qtys_at rfl) hi hd (fun H1 locs1 hP1 hD1 hS1 => ?_)
  have hP2 : va_P D qC ((qw z ex D3 n f).set q (z + q, qe z ex D3 (.inl (4, len, .inl (upd g i.toNatClampNeg (vp_nar .byte x)))))) H1 := hP1
  rw [qw_set, hf'] at hP2
  exact k p e R s m args below meth c H1 locs1 ls Q z ex D D3 C hP2 hS1 hl hE
theorem qr_bastN {q len j : Nat} {x : Int32} {g : Nat → Int32} (hd : decode (kcc K) pc = .ok (.bastore, 1)) (hq : q < n) (hq5 : q < 5000) (hf : f q = .inl (4, len, .inl g)) (hj : j < len) (hlen : len < 2 ^ 31) (hf' : va_up f q (.inl (4, len, .inl (upd g j (vp_nar .byte x)))) = f') (k : qR K E X (pc + 1) lv st n kc ks f') : qR K E X pc lv (.int x :: .int (nI j) :: .ref q :: st) n kc ks f :=
  qr_bast hd hq hq5 hf (vp_in_nI hj hlen) (by rw [nI_clamp (Nat.lt_trans hj hlen)]; exact hf') k
def qmmax (x y : Int32) : Int32 := if x < y then y else x
theorem qr_mmax {idx : Nat} {x y : Int32} (hd : decode (kcc K) pc = .ok (.invokestatic idx, 3)) (h1 : Cond.methodLink (kown K) idx Lib.Math.max.name ∈ qg) (h2 : Cond.static Lib.Math.max.name ∈ qg) (h3 : Cond.initialized "java/lang/Math" ∈ qg) (h4 : Cond.code Lib.Math.max.name Lib.Math.max.code 2 (some .int) ∈ qg) (hdep : 1 ≤ kd K) (hrm : (st.map fun v => v.category).sum ≤ 8) (hkc : kc ≤ kmc K) (hks : ks ≤ kms K) (k : qR K E X (pc + 3) lv (.int (qmmax x y) :: st) n kc ks f) : qR K E X pc lv (.int y :: .int x :: st) n kc ks f := by
  intro p e R s m args below meth c H locs ls Q z ex D D3 C hP hS hl hE
  have hr : ((st.map (qv z ex)).map fun v => v.category).sum = (st.map fun v => v.category).sum := by
    rw [List.map_map]
    congr 1
    exact List.map_congr_left (fun v _ => qv_cat z ex v)
  have hR : R = qrm (kd K) (kmc K) (kms K) := C.2.2.2.2.2.2.2.2.1
  exact va_mmax C.1 C.2.1 (C.2.2.1.trans hl.1.symm) C.2.2.2.1 (C.2.2.2.2.1 _ h1) (C.2.2.2.2.1 _ h2) (C.2.2.2.2.1 _ h3) (C.2.2.2.2.1 _ h4) (by rw [hR]; exact hdep) (by rw [hr, hR]; show _ + 13 ≤ 34 * kd K + 12; omega) (by rw [hR]; exact hkc) (by rw [hR]; exact hks) hd (k p e R s m args below meth c H locs ls Q z ex D D3 C hP hS hl hE)
def qmmin (x y : Int32) : Int32 := if y < x then y else x
theorem qr_mmin {idx : Nat} {x y : Int32} (hd : decode (kcc K) pc = .ok (.invokestatic idx, 3)) (h1 : Cond.methodLink (kown K) idx Lib.Math.min.name ∈ qg) (h2 : Cond.static Lib.Math.min.name ∈ qg) (h3 : Cond.initialized "java/lang/Math" ∈ qg) (h4 : Cond.code Lib.Math.min.name Lib.Math.min.code 2 (some .int) ∈ qg) (hdep : 1 ≤ kd K) (hrm : (st.map fun v => v.category).sum ≤ 8) (hkc : kc ≤ kmc K) (hks : ks ≤ kms K) (k : qR K E X (pc + 3) lv (.int (qmmin x y) :: st) n kc ks f) : qR K E X pc lv (.int y :: .int x :: st) n kc ks f := by
  intro p e R s m args below meth c H locs ls Q z ex D D3 C hP hS hl hE
  have hr : ((st.map (qv z ex)).map fun v => v.category).sum = (st.map fun v => v.category).sum := by
    rw [List.map_map]
    congr 1
    exact List.map_congr_left (fun v _ => qv_cat z ex v)
  have hR : R = qrm (kd K) (kmc K) (kms K) := C.2.2.2.2.2.2.2.2.1
  exact va_mmin C.1 C.2.1 (C.2.2.1.trans hl.1.symm) C.2.2.2.1 (C.2.2.2.2.1 _ h1) (C.2.2.2.2.1 _ h2) (C.2.2.2.2.1 _ h3) (C.2.2.2.2.1 _ h4) (by rw [hR]; exact hdep) (by rw [hr, hR]; show _ + 13 ≤ 34 * kd K + 12; omega) (by rw [hR]; exact hkc) (by rw [hR]; exact hks) hd (k p e R s m args below meth c H locs ls Q z ex D D3 C hP hS hl hE)
def qmmaxl (x y : Int64) : Int64 := if y < x then x else y
theorem qr_mmaxl {idx : Nat} {x y : Int64} (hd : decode (kcc K) pc = .ok (.invokestatic idx, 3)) (h1 : Cond.methodLink (kown K) idx Lib.MathLoose.max_long.x ∈ qg) (h2 : Cond.static Lib.MathLoose.max_long.x ∈ qg) (h3 : Cond.initialized "java/lang/Math" ∈ qg) (h4 : Cond.code Lib.MathLoose.max_long.x Lib.MathLoose.max_long.code 4 (some .long) ∈ qg) (hdep : 1 ≤ kd K) (hrm : (st.map fun v => v.category).sum ≤ 8) (hkc : kc ≤ kmc K) (hks : ks ≤ kms K) (k : qR K E X (pc + 3) lv (.long (qmmaxl x y) :: st) n kc ks f) : qR K E X pc lv (.long y :: .long x :: st) n kc ks f := by
  intro p e R s m args below meth c H locs ls Q z ex D D3 C hP hS hl hE
  have hr : ((st.map (qv z ex)).map fun v => v.category).sum = (st.map fun v => v.category).sum := by
    rw [List.map_map]
    congr 1
    exact List.map_congr_left (fun v _ => qv_cat z ex v)
  have hR : R = qrm (kd K) (kmc K) (kms K) := C.2.2.2.2.2.2.2.2.1
  exact va_mmax_long C.1 C.2.1 (C.2.2.1.trans hl.1.symm) C.2.2.2.1 (C.2.2.2.2.1 _ h1) (C.2.2.2.2.1 _ h2) (C.2.2.2.2.1 _ h3) (C.2.2.2.2.1 _ h4) (by rw [hR]; exact hdep) (by rw [hr, hR]; show _ + 15 ≤ 34 * kd K + 12; omega) (by rw [hR]; exact hkc) (by rw [hR]; exact hks) hd (k p e R s m args below meth c H locs ls Q z ex D D3 C hP hS hl hE)
def qmminl (x y : Int64) : Int64 := if y < x then y else x
theorem qr_mminl {idx : Nat} {x y : Int64} (hd : decode (kcc K) pc = .ok (.invokestatic idx, 3)) (h1 : Cond.methodLink (kown K) idx Lib.MathLoose.min_long.x ∈ qg) (h2 : Cond.static Lib.MathLoose.min_long.x ∈ qg) (h3 : Cond.initialized "java/lang/Math" ∈ qg) (h4 : Cond.code Lib.MathLoose.min_long.x Lib.MathLoose.min_long.code 4 (some .long) ∈ qg) (hdep : 1 ≤ kd K) (hrm : (st.map fun v => v.category).sum ≤ 8) (hkc : kc ≤ kmc K) (hks : ks ≤ kms K) (k : qR K E X (pc + 3) lv (.long (qmminl x y) :: st) n kc ks f) : qR K E X pc lv (.long y :: .long x :: st) n kc ks f := by
  intro p e R s m args below meth c H locs ls Q z ex D D3 C hP hS hl hE
  have hr : ((st.map (qv z ex)).map fun v => v.category).sum = (st.map fun v => v.category).sum := by
    rw [List.map_map]
    congr 1
    exact List.map_congr_left (fun v _ => qv_cat z ex v)
  have hR : R = qrm (kd K) (kmc K) (kms K) := C.2.2.2.2.2.2.2.2.1
  exact va_mmin_long C.1 C.2.1 (C.2.2.1.trans hl.1.symm) C.2.2.2.1 (C.2.2.2.2.1 _ h1) (C.2.2.2.2.1 _ h2) (C.2.2.2.2.1 _ h3) (C.2.2.2.2.1 _ h4) (by rw [hR]; exact hdep) (by rw [hr, hR]; show _ + 15 ≤ 34 * kd K + 12; omega) (by rw [hR]; exact hkc) (by rw [hR]; exact hks) hd (k p e R s m args below meth c H locs ls Q z ex D D3 C hP hS hl hE)
theorem qr_vret (hd : decode (kcc K) pc = .ok (.return_, 1)) (hr : kret K = none) (hE0 : E none n f) (hkc : kc ≤ kmc K) (hks : ks ≤ kms K) : qR K E X pc lv [] n kc ks f := by
  intro p e R s m args below meth c H locs ls Q z ex D D3 C hP hS hl hE
  exact hE.1 none n kc ks f H locs pc ls hE0 hkc hks hP hS ⟨hr, hd⟩
theorem qr_iret {v : Int32} {ty : FieldType} (hd : decode (kcc K) pc = .ok (.ireturn, 1)) (hr : kret K = some ty) (hn : narrow ty (.int v) = .int v) (hE0 : E (some (.int v)) n f) (hkc : kc ≤ kmc K) (hks : ks ≤ kms K) : qR K E X pc lv [.int v] n kc ks f := by
  intro p e R s m args below meth c H locs ls Q z ex D D3 C hP hS hl hE
  exact hE.1 (some (.int v)) n kc ks f H locs pc ls hE0 hkc hks hP hS ⟨⟨ty, hr, hn⟩, hd⟩
theorem qr_lret {v : Int64} (hd : decode (kcc K) pc = .ok (.lreturn, 1)) (hr : kret K = some .long) (hE0 : E (some (.long v)) n f) (hkc : kc ≤ kmc K) (hks : ks ≤ kms K) : qR K E X pc lv [.long v] n kc ks f := by
  intro p e R s m args below meth c H locs ls Q z ex D D3 C hP hS hl hE
  exact hE.1 (some (.long v)) n kc ks f H locs pc ls hE0 hkc hks hP hS ⟨hr, hd⟩
theorem qr_aret {v : Nat} {rt : FieldType} (hd : decode (kcc K) pc = .ok (.areturn, 1)) (hr : kret K = some rt) (ho : (∃ n, rt = .object n) ∨ ∃ t, rt = .array t) (hE0 : E (some (.ref v)) n f) (hkc : kc ≤ kmc K) (hks : ks ≤ kms K) : qR K E X pc lv [.ref v] n kc ks f := by
  intro p e R s m args below meth c H locs ls Q z ex D D3 C hP hS hl hE
  exact hE.1 (some (.ref v)) n kc ks f H locs pc ls hE0 hkc hks hP hS ⟨⟨rt, hr, ho⟩, hd⟩
theorem qr_throw {En : String} (ht : qThrow (kown K) (kcc K) pc En) (hrm : (st.map fun v => v.category).sum ≤ 8) (hX : X En n f) (hkc : kc + 1 ≤ kmc K) (hks : ks + 6 ≤ kms K) : qR K E X pc lv st n kc ks f := by
  intro p e R s m args below meth c H locs ls Q z ex D D3 C hP hS hl hE
  have hr : ((st.map (qv z ex)).map fun v => v.category).sum = (st.map fun v => v.category).sum := by
    rw [List.map_map]
    congr 1
    exact List.map_congr_left (fun v _ => qv_cat z ex v)
  exact hE.2 En n kc ks f H locs pc ls _ hX hkc hks hP hS hl.1 (by rw [hr]; exact hrm) ht
theorem qr_obj {idx : Nat} {q : Nat} (hd : decode (kcc K) pc = .ok (.invokespecial idx, 3)) (h1 : Cond.methodLink (kown K) idx Lib.objectInit ∈ qg) (h2 : Cond.instanceMethod Lib.objectInit ∈ qg) (h3 : Cond.code Lib.objectInit ⟨#[0xb1]⟩ 1 none ∈ qg) (hdep : 1 ≤ kd K) (hrm : (st.map fun v => v.category).sum ≤ 8) (k : qR K E X (pc + 3) lv st n kc ks f) : qR K E X pc lv (.ref q :: st) n kc ks f := by
  intro p e R s m args below meth c H locs ls Q z ex D D3 C hP hS hl hE
  have hr : ((st.map (qv z ex)).map fun v => v.category).sum = (st.map fun v => v.category).sum := by
    rw [List.map_map]
    congr 1
    exact List.map_congr_left (fun v _ => qv_cat z ex v)
  have hR : R = qrm (kd K) (kmc K) (kms K) := C.2.2.2.2.2.2.2.2.1
  refine W.objInit C.1 C.2.1 C.2.2.2.1 (C.2.2.2.2.1 _ h1) (C.2.2.2.2.1 _ h2) (C.2.2.2.2.1 _ h3) rfl (hl.1.trans C.2.2.1.symm) rfl hd (by rw [hR]; exact hdep) (by rw [hR]; have := lv_room (m := m) (pc := pc) (ls := ls) (rest := (Value.ref q :: st).map (qv z ex)) (st := st.map (qv z ex)) (by rw [hr]; exact hrm); show _ ≤ 34 * kd K + 12; omega) ?_
  exact W.eq (g2 := F0 m (pc + 3) ls (st.map (qv z ex))) rfl (k p e R s m args below meth c H locs ls Q z ex D D3 C hP hS hl hE)
end QF
end
section
/-! contracts, calls, new cells -/
/-- behind a method: its answer and the world -/
def qO (z : Nat) (ex : Nat → Nat) (D : va_G) (D3 : Nat → ClassId) (E : qE) : Array Value → State → Outcome → State → Prop := fun _ st oc t =>
  (∃ (v : Option Value) (n : Nat) (f : Nat → va_E), oc = .returned (v.map (qv z ex)) ∧ E v n f ∧ va_P D qC (qw z ex D3 n f) t.heap) ∧ va_F (fun q => z ≤ q) st t
/-- a method that returns: from the world n, f with the arguments As; E says its answer and the world behind it -/
def qSp (l : Launch) (y : MethodName) (cc : ByteArray) (nL : Nat) (ret : Option FieldType) (x : Bool) (d mc ms : Nat) (As : List Value) (n : Nat) (f : Nat → va_E) (E : qE) : Prop :=
  ∀ (z : Nat) (ex : Nat → Nat) (D : va_G) (D3 : Nat → ClassId), Met l y (Cond.code y cc nL ret :: qg) (qrm d mc ms) (va_Pc (As.map (qv z ex)) (qW z ex D D3 x n f)) (qO z ex D D3 E) mc ms (fun q => z ≤ q)
theorem q_args (z : Nat) (ex : Nat → Nat) : ∀ (As : List Value) (i : Nat), lv_args i (As.map (qv z ex)) = (lv_args i As).map (qp z ex)
  | [], _ => rfl
  | v :: vs, i => by
    simp only [List.map_cons, lv_args, qv_cat]
    rw [q_args z ex vs]
    rfl
theorem q_sl (z : Nat) (ex : Nat → Nat) : ∀ (As : List Value), (lg_sl (As.map (qv z ex))).length = (lg_sl As).length
  | [] => rfl
  | v :: vs => by
    have h := q_sl z ex vs
    unfold lg_sl at h ⊢
    rw [List.map_cons, List.flatMap_cons, List.flatMap_cons, List.length_append, List.length_append, h, qv_cat]
    split <;> rfl
/-- the two ends of a method that only returns -/
theorem q_ends {K : qK} {E : qE} {p : Program} {e : Env} {R : Room} {s : State} {m : MethodId} {args : Array Value} {below : List Frame} {meth : Method} {c : Code} {z : Nat} {ex : Nat → Nat} {D : va_G} {D3 : Nat → ClassId}
    (hx : p.tables.exec = Jvm.exec) (hb : c.code = kcc K) (hr : meth.sig.returnType = kret K) (hlocks : meth.locks = false) :
    qEnd K E (fun _ _ _ => False) p e R s m args below meth c (MQ below (qO z ex D D3 E) args s (kmc K) (kms K) (fun q => z ≤ q)) z ex D D3 := by
  refine ⟨fun v n kc ks f H locs pc ls hE hkc hks hP hS hret => ?_, fun En n kc ks f H locs pc ls rest hX => hX.elim⟩
  have hq : ∀ t : State, t.heap = H → s.WarmedH t.vm → qO z ex D D3 E args s (.returned (v.map (qv z ex))) t := fun t ht hW => ⟨⟨v, n, f, rfl, hE, by rw [ht]; exact hP⟩, hS.F ht⟩
  refine W.widen (k := kmc K) (n := kms K) hkc hks ?_
  match v, hret, hq with
  | none, hret, hq => exact W.vret hx hb (hr.trans hret.1) hq hS.2.2 hret.2
  | some (.int i), hret, hq =>
    obtain ⟨⟨ty, h1, h2⟩, h3⟩ := hret
    exact W.zret hx hb (hr.trans h1) h2 hq hS.2.2 h3
  | some (.long i), hret, hq => exact W.lret hx hb (hr.trans hret.1) hq hS.2.2 hret.2
  | some (.ref i), hret, hq =>
    obtain ⟨⟨rt, h1, h2⟩, h3⟩ := hret
    exact W.aret hx hb (hr.trans h1) h2 (Or.inr ⟨_, rfl⟩) hq hS.2.2 h3
/-- a contract out of the walk of its body -/
theorem qSp_of {l : Launch} {y : MethodName} {cc : ByteArray} {nL : Nat} {ret : Option FieldType} {ini x : Bool} {d mc ms n : Nat} {As : List Value} {f : Nat → va_E} {E : qE} (hy : plainName y.cls = true) (hini : ini = true → y.name = "<init>") (hlen : (lg_sl As).length ≤ nL)
    (k : qR (l, y.cls, cc, nL, ret, ini, x, d, mc, ms, n) E (fun _ _ _ => False) 0 (lv_args 0 As) [] n 0 0 f) : qSp l y cc nL ret x d mc ms As n f E := by
  intro z ex D D3
  refine Met.ofW (cc := cc) (maxL := nL) (ret := ret) hy rfl ?_
  intro p e s m args below meth c s₁ B hml hv
  obtain ⟨rfl, hP, hK, hx, hX⟩ := hv
  have hts := atoms_spec (ws := Cond.code y cc nL ret :: qg) B.pre
  have hown : s.vm.findClass y.cls = some m.cls := findClass_of_methodNamed B.named
  have hl := lv_entry (As.map (qv z ex)) (n := nL) (by rw [q_sl]; exact hlen)
  rw [lg_entry_eq]
  generalize (lg_sl (As.map (qv z ex)) ++ List.replicate (nL - (lg_sl (As.map (qv z ex))).length) Slot.unset).toArray = ls at hl ⊢
  rw [q_args] at hl
  exact k p e _ s m _ below meth c s.heap [] ls _ z ex D D3 ⟨B.exec, B.bytes, hml, hown, fun w h => hts w (List.mem_cons_of_mem _ h), fun h => (name_of_methodNamed B.named B.method).1.trans (hini h), hK, hX, rfl, hx⟩ hP va_S.rf hl (q_ends B.exec B.bytes B.returns B.notSynchronized)
/-- what links a call: the pool's place idx of the class own names y, with these bytes, na arguments -/
def qLk (own : String) (idx : Nat) (y : MethodName) (cc : ByteArray) (nL : Nat) (ret : Option FieldType) (na : Nat) : Prop :=
  Cond.methodLink own idx y ∈ qg ∧ Cond.initialized y.cls ∈ qg ∧ Cond.code y cc nL ret ∈ qg ∧ y.cls ≠ "java/lang/invoke/MethodHandle" ∧ y.cls ≠ "java/lang/invoke/VarHandle" ∧ (parseMethodDescriptor y.desc).map (fun d => d.parameters.length) = some na
theorem qg_GoodIn {w : Cond} (h : w ∈ qg) : GoodIn qg (w :: qg) := fun v hv => by
  rcases List.mem_cons.mp hv with rfl | hv
  · exact ⟨h, good_of_word (qg_good _ h)⟩
  · exact ⟨hv, good_of_word (qg_good _ hv)⟩
section QC
variable {K : qK} {E E' : qE} {X : qXC} {pc : Nat} {lv : List (Nat × Value)} {st stk : List Value} {n kc ks : Nat} {f f' : Nat → va_E}
variable {y : MethodName} {cc : ByteArray} {nL : Nat} {ret : Option FieldType} {x : Bool} {d mc ms na idx q : Nat} {As : List Value}
theorem q_cat (z : Nat) (ex : Nat → Nat) (st : List Value) : ((st.map (qv z ex)).map fun v => v.category).sum = (st.map fun v => v.category).sum := by
  rw [List.map_map]
  congr 1
  exact List.map_congr_left (fun v _ => qv_cat z ex v)
/-- the callee's start does not look at the frames -/
theorem q_blind {z : Nat} {ex : Nat → Nat} {D : va_G} {D3 : Nat → ClassId} {av : List Value} : FrameBlind (va_Pc av (qW z ex D D3 x n f)) := by
  intro a U g mk h
  obtain ⟨h0, hP, hK, hx, hX⟩ := h
  exact ⟨h0, hP, va_K.moved (u := U) (U := U.calling g mk a) (Vm.Alike.refl U.vm) hK, hx, hX.warm (s := U) (U := U.calling g mk a) (State.WarmedH.refl U) (Nat.le_refl _) (fun _ _ _ => rfl)⟩
/-- the callee's start, out of the caller's world -/
theorem q_pre {p : Program} {R : Room} {s : State} {m : MethodId} {args : Array Value} {meth : Method} {c : Code} {H : Heap} {locs : List Loc} {z : Nat} {ex : Nat → Nat} {D : va_G} {D3 : Nat → ClassId} {av : List Value}
    (C : qCx K p R s m args meth c z ex D D3) (hP : va_P D qC (qw z ex D3 n f) H) (hS : va_S (fun q => z ≤ q) s.heap H locs) (hx : x = true → H.size = z + n) : ∀ U : State, U.heap = H → s.WarmedH U.vm → va_Pc av (qW z ex D D3 x n f) av.toArray U :=
  fun U hU hW => ⟨rfl, by rw [hU]; exact hP, va_K.moved hW.alike C.2.2.2.2.2.2.1, fun h => by rw [hU]; exact hx h, by rw [hU]; exact C.2.2.2.2.2.2.2.1.warm hW hS.1 hS.2.1⟩
/-- behind a call -/
theorem q_cont {p : Program} {l : Launch} {e : Env} {R : Room} {s : State} {m : MethodId} {args : Array Value} {below : List Frame} {meth : Method} {c : Code} {H : Heap} {locs : List Loc} {ls : Array Slot} {Q : State → Prop} {z : Nat} {ex : Nat → Nat} {D : va_G} {D3 : Nat → ClassId} {g rest : List Value} {a : Array Value}
    (hr : va_Run p l e R s m args below meth c H locs kc ks mc ms (F0 m pc ls g) rest (qO z ex D D3 E' a) (fun q => z ≤ q)) (hS : va_S (fun q => z ≤ q) s.heap H locs)
    (kk : ∀ (v : Option Value) (n' : Nat) (f' : Nat → va_E) (H1 : Heap) (locs1 : List Loc), E' v n' f' → va_P D qC (qw z ex D3 n' f') H1 → va_S (fun q => z ≤ q) s.heap H1 locs1 → W p l e R s m args below meth c H1 locs1 (kc + mc) (ks + ms) Q (F0 m (pc + 3) ls ((v.map (qv z ex)).toList ++ rest))) : W p l e R s m args below meth c H locs kc ks Q (F0 m pc ls g) := by
  intro T hT X9
  obtain ⟨v9, st₀, t, T', L, h0, X', hL, e1, e2, ⟨⟨v, n', f', hv, hE, hP1⟩, hz, hk⟩, st9⟩ := hr T hT X9
  cases hv
  rw [h0] at hz hk
  obtain ⟨t2, a1, b1⟩ := kk v n' f' T'.heap (locs ++ L) hE (by rw [e1]; exact hP1) ⟨Nat.le_trans hS.1 (by rw [e1]; exact hz), fun q h1 h2 => by rw [e1, hk q (Nat.lt_of_lt_of_le h1 hS.1) h2]; exact hS.2.1 q h1 h2, fun q hq => by
      rcases List.mem_append.mp hq with h | h
      · exact hS.2.2 q h
      · exact hL q h⟩ T' rfl X'
  exact ⟨t2, st9 t2 a1, b1⟩
theorem qg_all {ws : List Cond} (h : ∀ w ∈ ws, w ∈ qg) : GoodIn qg ws := fun w hw => ⟨h w hw, good_of_word (qg_good _ (h w hw))⟩
theorem q_low {s : State} {H : Heap} {locs : List Loc} {z : Nat} {ex : Nat → Nat} {D : va_G} {D3 : Nat → ClassId} (hX : qX z ex s s.heap) (hS : va_S (fun q => z ≤ q) s.heap H locs) (hP : va_P D qC (qw z ex D3 n f) H) : z + n ≤ H.size := by
  match n, hP with
  | 0, _ => exact Nat.le_trans hX.1 hS.1
  | n + 1, hP =>
    have := (hP n _ (qw_at (Nat.lt_succ_self n))).lt
    show z + n + 1 ≤ H.size
    exact this
/-- where all that was made since the method's start is logical, the heap's size is known -/
theorem q_size {p : Program} {e : Env} {R : Room} {s : State} {m : MethodId} {args : Array Value} {below : List Frame} {meth : Method} {c : Code} {H : Heap} {locs : List Loc} {z : Nat} {ex : Nat → Nat} {D : va_G} {D3 : Nat → ClassId} {T : State}
    (C : qCx K p R s m args meth c z ex D D3) (hP : va_P D qC (qw z ex D3 n f) H) (hS : va_S (fun q => z ≤ q) s.heap H locs) (hT : T.heap = H) (X9 : Stand p (kl K) e R s m args below meth c T locs kc ks) (hx : kx K = true ∧ n = kn K + kc) : H.size = z + n := by
  have h1 := X9.heapSize
  rw [hT, C.2.2.2.2.2.2.2.2.2 hx.1] at h1
  have h2 := q_low C.2.2.2.2.2.2.2.1 hS hP
  have h3 := hx.2
  omega
theorem qr_callV {ci N : Nat} {T9 : u_T} {fs : List Value} (hd : decode (kcc K) pc = .ok (.invokevirtual idx, 3)) (hL : qLk (kown K) idx y cc nL ret na) (hi : Cond.instanceMethod y ∈ qg) (hs : Cond.selects y.cls y y ∈ qg) (hc : qC[ci]? = some (y.cls, T9, N)) (hq : q < n) (hq5 : q < 5000) (hf : f q = .inr (ci, fs))
    (hsp : qSp (kl K) y cc nL ret x d mc ms (.ref q :: As) n f E') (hn : As.length = na) (hstk : stk = As.reverse ++ .ref q :: st) (hrm : (st.map fun v => v.category).sum ≤ 8) (hdep : d + 1 ≤ kd K) (hloc : 19 + nL + 34 * d ≤ 34 * kd K) (hkc : kc + mc ≤ kmc K) (hks : ks + ms ≤ kms K) (hx : x = true → kx K = true ∧ n = kn K + kc)
    (k : ∀ (v : Option Value) (n' : Nat) (f' : Nat → va_E), E' v n' f' → qR K E X (pc + 3) lv (v.toList ++ st) n' (kc + mc) (ks + ms) f') : qR K E X pc lv stk n kc ks f := by
  intro p e R s m args below meth c H locs ls Q z ex D D3 C hP hS hl hE
  subst hstk
  intro T hT X9
  obtain ⟨l1, l2, l3, l4, l5, l6⟩ := hL
  have hR : R = qrm (kd K) (kmc K) (kms K) := C.2.2.2.2.2.2.2.2.1
  have hstk : (As.reverse ++ .ref q :: st).map (qv z ex) = (As.map (qv z ex)).reverse ++ .ref (qa z ex q) :: st.map (qv z ex) := by
    rw [List.map_append, List.map_reverse]
    rfl
  have hr := va_runV (l := kl K) (e := e) (below := below) (meth := meth) (locs := locs) (cells := kc) (slots := ks) (R := R) (H := H) (C := y.cls) (b := qa z ex q) (As := As.map (qv z ex)) (rest := st.map (qv z ex)) (g := F0 m pc ls ((As.reverse ++ .ref q :: st).map (qv z ex))) ⟨C.1, C.2.1, C.2.2.1, C.2.2.2.1, C.2.2.2.2.1⟩ (hsp z ex D D3) (cwV na C.2.2.2.2.1 (qg_all (fun w hw => by
      rcases List.mem_append.mp hw with h | h
      · rcases List.mem_cons.mp h with rfl | h
        · exact l1
        rcases List.mem_cons.mp h with rfl | h
        · exact hi
        rcases List.mem_cons.mp h with rfl | h
        · exact hs
        rcases List.mem_cons.mp h with rfl | h
        · exact l2
        cases h
      · rcases List.mem_cons.mp h with rfl | h
        · exact l3
        · exact h)) rfl rfl rfl ⟨rfl, l4, l5, l6⟩ (by rw [hR]; exact ⟨hdep, by show 8 + (nL + 11) + (34 * d + 12) ≤ 34 * kd K + 12; omega⟩))
    ⟨q_blind, by rw [qa_lt hq5]; exact va_recv C.2.2.2.2.2.2.1 hP hc (qe_obj hq hf), q_pre C hP hS (fun h => q_size C hP hS hT X9 (hx h))⟩ rfl (by rw [List.length_map]; exact hn) hl.1 hstk (lv_room (by rw [q_cat]; exact hrm)) hd (by rw [hR]; exact ⟨hkc, hks⟩)
  refine q_cont hr hS (fun v n' f' H1 locs1 hE1 hP1 hS1 => ?_) T hT X9
  have h9 := k v n' f' hE1 p e R s m args below meth c H1 locs1 ls Q z ex D D3 C hP1 hS1 hl hE
  rw [List.map_append] at h9
  have h8 : (v.map (qv z ex)).toList = v.toList.map (qv z ex) := by cases v <;> rfl
  rw [h8]
  exact h9
end QC
end
