section
-- ===== PART A: goes FIRST, ahead of the names: the tables' words, and 'selects' of the private methods out of them =====
/-- a private method of a class that the tables say can be made, by its rows of tables_1 -/
def lw_okq (q : MethodName × Nat) : Prop := (q.1.cls ≠ "java/lang/invoke/MethodHandle" ∧ q.1.cls ≠ "java/lang/invoke/VarHandle") ∧ Cond.instantiable q.1.cls q.2 ∈ tables_1 ∧ Cond.privateMethod q.1 ∈ tables_1 ∧ Cond.instanceMethod q.1 ∈ tables_1
theorem lw_p0 : lw_okq (⟨"AshGreetings", "isRow", "(I)Z"⟩, 11) := ⟨⟨by decide +kernel, by decide +kernel⟩, List.mem_of_getElem? (i := 17) (by decide +kernel), List.mem_of_getElem? (i := 260) (by decide +kernel), List.mem_of_getElem? (i := 261) (by decide +kernel)⟩
theorem lw_p1 : lw_okq (⟨"AshGreetings", "foundOut", "(I)I"⟩, 11) := ⟨⟨by decide +kernel, by decide +kernel⟩, List.mem_of_getElem? (i := 17) (by decide +kernel), List.mem_of_getElem? (i := 264) (by decide +kernel), List.mem_of_getElem? (i := 265) (by decide +kernel)⟩
theorem lw_p2 : lw_okq (⟨"AshGreetings", "refusalOfPlace", "(LAshGreetings$Strip;I)I"⟩, 11) := ⟨⟨by decide +kernel, by decide +kernel⟩, List.mem_of_getElem? (i := 17) (by decide +kernel), List.mem_of_getElem? (i := 282) (by decide +kernel), List.mem_of_getElem? (i := 283) (by decide +kernel)⟩
theorem lw_p3 : lw_okq (⟨"AshGreetings", "isText", "(I)Z"⟩, 11) := ⟨⟨by decide +kernel, by decide +kernel⟩, List.mem_of_getElem? (i := 17) (by decide +kernel), List.mem_of_getElem? (i := 329) (by decide +kernel), List.mem_of_getElem? (i := 330) (by decide +kernel)⟩
theorem lw_p4 : lw_okq (⟨"AshGreetings$Reading", "valueOf", "(I)I"⟩, 2) := ⟨⟨by decide +kernel, by decide +kernel⟩, List.mem_of_getElem? (i := 27) (by decide +kernel), List.mem_of_getElem? (i := 345) (by decide +kernel), List.mem_of_getElem? (i := 346) (by decide +kernel)⟩
theorem lw_p5 : lw_okq (⟨"AshGreetings$Town", "further", "(II)I"⟩, 16) := ⟨⟨by decide +kernel, by decide +kernel⟩, List.mem_of_getElem? (i := 42) (by decide +kernel), List.mem_of_getElem? (i := 372) (by decide +kernel), List.mem_of_getElem? (i := 373) (by decide +kernel)⟩
theorem lw_p6 : lw_okq (⟨"AshGreetings$Town", "startAnew", "()V"⟩, 16) := ⟨⟨by decide +kernel, by decide +kernel⟩, List.mem_of_getElem? (i := 42) (by decide +kernel), List.mem_of_getElem? (i := 376) (by decide +kernel), List.mem_of_getElem? (i := 377) (by decide +kernel)⟩
theorem lw_p7 : lw_okq (⟨"AshGreetings", "isPerson", "(I)Z"⟩, 11) := ⟨⟨by decide +kernel, by decide +kernel⟩, List.mem_of_getElem? (i := 17) (by decide +kernel), List.mem_of_getElem? (i := 385) (by decide +kernel), List.mem_of_getElem? (i := 386) (by decide +kernel)⟩
theorem lw_p8 : lw_okq (⟨"AshGreetings", "isStreet", "(I)Z"⟩, 11) := ⟨⟨by decide +kernel, by decide +kernel⟩, List.mem_of_getElem? (i := 17) (by decide +kernel), List.mem_of_getElem? (i := 421) (by decide +kernel), List.mem_of_getElem? (i := 422) (by decide +kernel)⟩
theorem lw_p9 : lw_okq (⟨"AshGreetings", "isOfKind", "(LAshGreetings$Neighbour;I)Z"⟩, 11) := ⟨⟨by decide +kernel, by decide +kernel⟩, List.mem_of_getElem? (i := 17) (by decide +kernel), List.mem_of_getElem? (i := 438) (by decide +kernel), List.mem_of_getElem? (i := 439) (by decide +kernel)⟩
theorem lw_p10 : lw_okq (⟨"AshGreetings$Town", "carryOut", "(I)V"⟩, 16) := ⟨⟨by decide +kernel, by decide +kernel⟩, List.mem_of_getElem? (i := 42) (by decide +kernel), List.mem_of_getElem? (i := 474) (by decide +kernel), List.mem_of_getElem? (i := 475) (by decide +kernel)⟩
theorem lw_p11 : lw_okq (⟨"AshGreetings$Town", "passDay", "()V"⟩, 16) := ⟨⟨by decide +kernel, by decide +kernel⟩, List.mem_of_getElem? (i := 42) (by decide +kernel), List.mem_of_getElem? (i := 478) (by decide +kernel), List.mem_of_getElem? (i := 479) (by decide +kernel)⟩
theorem lw_p12 : lw_okq (⟨"AshGreetings", "isKeepingPlace", "(I)Z"⟩, 11) := ⟨⟨by decide +kernel, by decide +kernel⟩, List.mem_of_getElem? (i := 17) (by decide +kernel), List.mem_of_getElem? (i := 551) (by decide +kernel), List.mem_of_getElem? (i := 552) (by decide +kernel)⟩
theorem lw_p13 : lw_okq (⟨"AshGreetings$Outlook", "startFromNow", "()V"⟩, 10) := ⟨⟨by decide +kernel, by decide +kernel⟩, List.mem_of_getElem? (i := 155) (by decide +kernel), List.mem_of_getElem? (i := 585) (by decide +kernel), List.mem_of_getElem? (i := 586) (by decide +kernel)⟩
theorem lw_p14 : lw_okq (⟨"AshGreetings$Outlook", "foreseeDay", "()V"⟩, 10) := ⟨⟨by decide +kernel, by decide +kernel⟩, List.mem_of_getElem? (i := 155) (by decide +kernel), List.mem_of_getElem? (i := 590) (by decide +kernel), List.mem_of_getElem? (i := 591) (by decide +kernel)⟩
theorem lw_p15 : lw_okq (⟨"AshGreetings$Outlook", "total", "()I"⟩, 10) := ⟨⟨by decide +kernel, by decide +kernel⟩, List.mem_of_getElem? (i := 155) (by decide +kernel), List.mem_of_getElem? (i := 596) (by decide +kernel), List.mem_of_getElem? (i := 597) (by decide +kernel)⟩
def lw_privs_1 : List (MethodName × Nat) := [(⟨"AshGreetings", "isRow", "(I)Z"⟩, 11), (⟨"AshGreetings", "foundOut", "(I)I"⟩, 11), (⟨"AshGreetings", "refusalOfPlace", "(LAshGreetings$Strip;I)I"⟩, 11), (⟨"AshGreetings", "isText", "(I)Z"⟩, 11), (⟨"AshGreetings$Reading", "valueOf", "(I)I"⟩, 2), (⟨"AshGreetings$Town", "further", "(II)I"⟩, 16), (⟨"AshGreetings$Town", "startAnew", "()V"⟩, 16), (⟨"AshGreetings", "isPerson", "(I)Z"⟩, 11), (⟨"AshGreetings", "isStreet", "(I)Z"⟩, 11), (⟨"AshGreetings", "isOfKind", "(LAshGreetings$Neighbour;I)Z"⟩, 11), (⟨"AshGreetings$Town", "carryOut", "(I)V"⟩, 16), (⟨"AshGreetings$Town", "passDay", "()V"⟩, 16), (⟨"AshGreetings", "isKeepingPlace", "(I)Z"⟩, 11), (⟨"AshGreetings$Outlook", "startFromNow", "()V"⟩, 10), (⟨"AshGreetings$Outlook", "foreseeDay", "()V"⟩, 10), (⟨"AshGreetings$Outlook", "total", "()I"⟩, 10)]
theorem lw_r1 : ∀ q ∈ lw_privs_1, lw_okq q := List.forall_mem_cons.mpr ⟨lw_p0, List.forall_mem_cons.mpr ⟨lw_p1, List.forall_mem_cons.mpr ⟨lw_p2, List.forall_mem_cons.mpr ⟨lw_p3, List.forall_mem_cons.mpr ⟨lw_p4, List.forall_mem_cons.mpr ⟨lw_p5, List.forall_mem_cons.mpr ⟨lw_p6, List.forall_mem_cons.mpr ⟨lw_p7, List.forall_mem_cons.mpr ⟨lw_p8, List.forall_mem_cons.mpr ⟨lw_p9, List.forall_mem_cons.mpr ⟨lw_p10, List.forall_mem_cons.mpr ⟨lw_p11, List.forall_mem_cons.mpr ⟨lw_p12, List.forall_mem_cons.mpr ⟨lw_p13, List.forall_mem_cons.mpr ⟨lw_p14, List.forall_mem_cons.mpr ⟨lw_p15, fun _ h => absurd h List.not_mem_nil⟩⟩⟩⟩⟩⟩⟩⟩⟩⟩⟩⟩⟩⟩⟩⟩
theorem lw_p16 : lw_okq (⟨"AshGreetings", "passOn", "(I)I"⟩, 11) := ⟨⟨by decide +kernel, by decide +kernel⟩, List.mem_of_getElem? (i := 17) (by decide +kernel), List.mem_of_getElem? (i := 609) (by decide +kernel), List.mem_of_getElem? (i := 610) (by decide +kernel)⟩
theorem lw_p17 : lw_okq (⟨"AshGreetings", "refusalOfRecord", "(II)I"⟩, 11) := ⟨⟨by decide +kernel, by decide +kernel⟩, List.mem_of_getElem? (i := 17) (by decide +kernel), List.mem_of_getElem? (i := 643) (by decide +kernel), List.mem_of_getElem? (i := 644) (by decide +kernel)⟩
theorem lw_p18 : lw_okq (⟨"AshGreetings$Outlook", "fits", "(LAshGreetings$Strip;)Z"⟩, 10) := ⟨⟨by decide +kernel, by decide +kernel⟩, List.mem_of_getElem? (i := 155) (by decide +kernel), List.mem_of_getElem? (i := 651) (by decide +kernel), List.mem_of_getElem? (i := 652) (by decide +kernel)⟩
theorem lw_p19 : lw_okq (⟨"AshGreetings$Outlook", "foretellEach", "(I)V"⟩, 10) := ⟨⟨by decide +kernel, by decide +kernel⟩, List.mem_of_getElem? (i := 155) (by decide +kernel), List.mem_of_getElem? (i := 672) (by decide +kernel), List.mem_of_getElem? (i := 673) (by decide +kernel)⟩
theorem lw_p20 : lw_okq (⟨"AshGreetings$Outlook", "greatestPart", "(II)I"⟩, 10) := ⟨⟨by decide +kernel, by decide +kernel⟩, List.mem_of_getElem? (i := 155) (by decide +kernel), List.mem_of_getElem? (i := 676) (by decide +kernel), List.mem_of_getElem? (i := 677) (by decide +kernel)⟩
theorem lw_p21 : lw_okq (⟨"AshGreetings$Outlook", "outcome", "(II)I"⟩, 10) := ⟨⟨by decide +kernel, by decide +kernel⟩, List.mem_of_getElem? (i := 155) (by decide +kernel), List.mem_of_getElem? (i := 688) (by decide +kernel), List.mem_of_getElem? (i := 689) (by decide +kernel)⟩
theorem lw_p22 : lw_okq (⟨"AshGreetings", "areChances", "(II)Z"⟩, 11) := ⟨⟨by decide +kernel, by decide +kernel⟩, List.mem_of_getElem? (i := 17) (by decide +kernel), List.mem_of_getElem? (i := 697) (by decide +kernel), List.mem_of_getElem? (i := 698) (by decide +kernel)⟩
theorem lw_p23 : lw_okq (⟨"AshGreetings", "tellInLowestTerms", "(JJ)V"⟩, 11) := ⟨⟨by decide +kernel, by decide +kernel⟩, List.mem_of_getElem? (i := 17) (by decide +kernel), List.mem_of_getElem? (i := 706) (by decide +kernel), List.mem_of_getElem? (i := 707) (by decide +kernel)⟩
theorem lw_p24 : lw_okq (⟨"AshGreetings", "performByLot", "(J)V"⟩, 11) := ⟨⟨by decide +kernel, by decide +kernel⟩, List.mem_of_getElem? (i := 17) (by decide +kernel), List.mem_of_getElem? (i := 723) (by decide +kernel), List.mem_of_getElem? (i := 724) (by decide +kernel)⟩
theorem lw_p25 : lw_okq (⟨"AshGreetings", "howManyAreKept", "()I"⟩, 11) := ⟨⟨by decide +kernel, by decide +kernel⟩, List.mem_of_getElem? (i := 17) (by decide +kernel), List.mem_of_getElem? (i := 761) (by decide +kernel), List.mem_of_getElem? (i := 762) (by decide +kernel)⟩
theorem lw_p26 : lw_okq (⟨"AshGreetings", "howManyOfKind", "(I)I"⟩, 11) := ⟨⟨by decide +kernel, by decide +kernel⟩, List.mem_of_getElem? (i := 17) (by decide +kernel), List.mem_of_getElem? (i := 765) (by decide +kernel), List.mem_of_getElem? (i := 766) (by decide +kernel)⟩
theorem lw_p27 : lw_okq (⟨"AshGreetingsModel", "found", "(I)I"⟩, 29) := ⟨⟨by decide +kernel, by decide +kernel⟩, List.mem_of_getElem? (i := 789) (by decide +kernel), List.mem_of_getElem? (i := 914) (by decide +kernel), List.mem_of_getElem? (i := 915) (by decide +kernel)⟩
theorem lw_p28 : lw_okq (⟨"AshGreetingsModel", "rowAt", "(II)I"⟩, 29) := ⟨⟨by decide +kernel, by decide +kernel⟩, List.mem_of_getElem? (i := 789) (by decide +kernel), List.mem_of_getElem? (i := 922) (by decide +kernel), List.mem_of_getElem? (i := 923) (by decide +kernel)⟩
theorem lw_p29 : lw_okq (⟨"AshGreetingsModel", "tells", "(II)I"⟩, 29) := ⟨⟨by decide +kernel, by decide +kernel⟩, List.mem_of_getElem? (i := 789) (by decide +kernel), List.mem_of_getElem? (i := 926) (by decide +kernel), List.mem_of_getElem? (i := 927) (by decide +kernel)⟩
theorem lw_p30 : lw_okq (⟨"AshGreetingsModel", "faultOf", "(I)I"⟩, 29) := ⟨⟨by decide +kernel, by decide +kernel⟩, List.mem_of_getElem? (i := 789) (by decide +kernel), List.mem_of_getElem? (i := 961) (by decide +kernel), List.mem_of_getElem? (i := 962) (by decide +kernel)⟩
theorem lw_p31 : lw_okq (⟨"AshGreetingsModel", "blanks", "(I)V"⟩, 29) := ⟨⟨by decide +kernel, by decide +kernel⟩, List.mem_of_getElem? (i := 789) (by decide +kernel), List.mem_of_getElem? (i := 965) (by decide +kernel), List.mem_of_getElem? (i := 966) (by decide +kernel)⟩
def lw_privs_2 : List (MethodName × Nat) := [(⟨"AshGreetings", "passOn", "(I)I"⟩, 11), (⟨"AshGreetings", "refusalOfRecord", "(II)I"⟩, 11), (⟨"AshGreetings$Outlook", "fits", "(LAshGreetings$Strip;)Z"⟩, 10), (⟨"AshGreetings$Outlook", "foretellEach", "(I)V"⟩, 10), (⟨"AshGreetings$Outlook", "greatestPart", "(II)I"⟩, 10), (⟨"AshGreetings$Outlook", "outcome", "(II)I"⟩, 10), (⟨"AshGreetings", "areChances", "(II)Z"⟩, 11), (⟨"AshGreetings", "tellInLowestTerms", "(JJ)V"⟩, 11), (⟨"AshGreetings", "performByLot", "(J)V"⟩, 11), (⟨"AshGreetings", "howManyAreKept", "()I"⟩, 11), (⟨"AshGreetings", "howManyOfKind", "(I)I"⟩, 11), (⟨"AshGreetingsModel", "found", "(I)I"⟩, 29), (⟨"AshGreetingsModel", "rowAt", "(II)I"⟩, 29), (⟨"AshGreetingsModel", "tells", "(II)I"⟩, 29), (⟨"AshGreetingsModel", "faultOf", "(I)I"⟩, 29), (⟨"AshGreetingsModel", "blanks", "(I)V"⟩, 29)]
theorem lw_r2 : ∀ q ∈ lw_privs_2, lw_okq q := List.forall_mem_cons.mpr ⟨lw_p16, List.forall_mem_cons.mpr ⟨lw_p17, List.forall_mem_cons.mpr ⟨lw_p18, List.forall_mem_cons.mpr ⟨lw_p19, List.forall_mem_cons.mpr ⟨lw_p20, List.forall_mem_cons.mpr ⟨lw_p21, List.forall_mem_cons.mpr ⟨lw_p22, List.forall_mem_cons.mpr ⟨lw_p23, List.forall_mem_cons.mpr ⟨lw_p24, List.forall_mem_cons.mpr ⟨lw_p25, List.forall_mem_cons.mpr ⟨lw_p26, List.forall_mem_cons.mpr ⟨lw_p27, List.forall_mem_cons.mpr ⟨lw_p28, List.forall_mem_cons.mpr ⟨lw_p29, List.forall_mem_cons.mpr ⟨lw_p30, List.forall_mem_cons.mpr ⟨lw_p31, fun _ h => absurd h List.not_mem_nil⟩⟩⟩⟩⟩⟩⟩⟩⟩⟩⟩⟩⟩⟩⟩⟩
theorem lw_p32 : lw_okq (⟨"AshGreetingsModel", "byteAt", "(I)I"⟩, 29) := ⟨⟨by decide +kernel, by decide +kernel⟩, List.mem_of_getElem? (i := 789) (by decide +kernel), List.mem_of_getElem? (i := 969) (by decide +kernel), List.mem_of_getElem? (i := 970) (by decide +kernel)⟩
theorem lw_p33 : lw_okq (⟨"AshGreetingsModel", "readsDeep", "(I)Z"⟩, 29) := ⟨⟨by decide +kernel, by decide +kernel⟩, List.mem_of_getElem? (i := 789) (by decide +kernel), List.mem_of_getElem? (i := 973) (by decide +kernel), List.mem_of_getElem? (i := 974) (by decide +kernel)⟩
theorem lw_p34 : lw_okq (⟨"AshGreetingsModel", "figure", "(II)I"⟩, 29) := ⟨⟨by decide +kernel, by decide +kernel⟩, List.mem_of_getElem? (i := 789) (by decide +kernel), List.mem_of_getElem? (i := 977) (by decide +kernel), List.mem_of_getElem? (i := 978) (by decide +kernel)⟩
theorem lw_p35 : lw_okq (⟨"AshGreetingsModel", "readsOne", "(I)Z"⟩, 29) := ⟨⟨by decide +kernel, by decide +kernel⟩, List.mem_of_getElem? (i := 789) (by decide +kernel), List.mem_of_getElem? (i := 981) (by decide +kernel), List.mem_of_getElem? (i := 982) (by decide +kernel)⟩
theorem lw_p36 : lw_okq (⟨"AshGreetingsModel", "isOne", "(I)Z"⟩, 29) := ⟨⟨by decide +kernel, by decide +kernel⟩, List.mem_of_getElem? (i := 789) (by decide +kernel), List.mem_of_getElem? (i := 996) (by decide +kernel), List.mem_of_getElem? (i := 997) (by decide +kernel)⟩
theorem lw_p37 : lw_okq (⟨"AshGreetingsModel", "personTells", "(II)I"⟩, 29) := ⟨⟨by decide +kernel, by decide +kernel⟩, List.mem_of_getElem? (i := 789) (by decide +kernel), List.mem_of_getElem? (i := 1000) (by decide +kernel), List.mem_of_getElem? (i := 1001) (by decide +kernel)⟩
theorem lw_p38 : lw_okq (⟨"AshGreetingsModel", "isHid", "([II)Z"⟩, 29) := ⟨⟨by decide +kernel, by decide +kernel⟩, List.mem_of_getElem? (i := 789) (by decide +kernel), List.mem_of_getElem? (i := 1004) (by decide +kernel), List.mem_of_getElem? (i := 1005) (by decide +kernel)⟩
theorem lw_p39 : lw_okq (⟨"AshGreetingsModel", "seen", "(I)I"⟩, 29) := ⟨⟨by decide +kernel, by decide +kernel⟩, List.mem_of_getElem? (i := 789) (by decide +kernel), List.mem_of_getElem? (i := 1008) (by decide +kernel), List.mem_of_getElem? (i := 1009) (by decide +kernel)⟩
theorem lw_p40 : lw_okq (⟨"AshGreetingsModel", "isMet", "([II)Z"⟩, 29) := ⟨⟨by decide +kernel, by decide +kernel⟩, List.mem_of_getElem? (i := 789) (by decide +kernel), List.mem_of_getElem? (i := 1012) (by decide +kernel), List.mem_of_getElem? (i := 1013) (by decide +kernel)⟩
theorem lw_p41 : lw_okq (⟨"AshGreetingsModel", "nextTo", "([II)I"⟩, 29) := ⟨⟨by decide +kernel, by decide +kernel⟩, List.mem_of_getElem? (i := 789) (by decide +kernel), List.mem_of_getElem? (i := 1016) (by decide +kernel), List.mem_of_getElem? (i := 1017) (by decide +kernel)⟩
theorem lw_p42 : lw_okq (⟨"AshGreetingsModel", "inStreet", "(I)I"⟩, 29) := ⟨⟨by decide +kernel, by decide +kernel⟩, List.mem_of_getElem? (i := 789) (by decide +kernel), List.mem_of_getElem? (i := 1027) (by decide +kernel), List.mem_of_getElem? (i := 1028) (by decide +kernel)⟩
theorem lw_p43 : lw_okq (⟨"AshGreetingsModel", "remember", "()V"⟩, 29) := ⟨⟨by decide +kernel, by decide +kernel⟩, List.mem_of_getElem? (i := 789) (by decide +kernel), List.mem_of_getElem? (i := 1054) (by decide +kernel), List.mem_of_getElem? (i := 1055) (by decide +kernel)⟩
theorem lw_p44 : lw_okq (⟨"AshGreetingsModel", "passes", "([I)V"⟩, 29) := ⟨⟨by decide +kernel, by decide +kernel⟩, List.mem_of_getElem? (i := 789) (by decide +kernel), List.mem_of_getElem? (i := 1058) (by decide +kernel), List.mem_of_getElem? (i := 1059) (by decide +kernel)⟩
theorem lw_p45 : lw_okq (⟨"AshGreetingsModel", "grudgeThen", "([II)I"⟩, 29) := ⟨⟨by decide +kernel, by decide +kernel⟩, List.mem_of_getElem? (i := 789) (by decide +kernel), List.mem_of_getElem? (i := 1062) (by decide +kernel), List.mem_of_getElem? (i := 1063) (by decide +kernel)⟩
theorem lw_p46 : lw_okq (⟨"AshGreetingsModel", "isForgiven", "([II)Z"⟩, 29) := ⟨⟨by decide +kernel, by decide +kernel⟩, List.mem_of_getElem? (i := 789) (by decide +kernel), List.mem_of_getElem? (i := 1066) (by decide +kernel), List.mem_of_getElem? (i := 1067) (by decide +kernel)⟩
theorem lw_p47 : lw_okq (⟨"AshGreetingsModel", "all", "([I)I"⟩, 29) := ⟨⟨by decide +kernel, by decide +kernel⟩, List.mem_of_getElem? (i := 789) (by decide +kernel), List.mem_of_getElem? (i := 1073) (by decide +kernel), List.mem_of_getElem? (i := 1074) (by decide +kernel)⟩
def lw_privs_3 : List (MethodName × Nat) := [(⟨"AshGreetingsModel", "byteAt", "(I)I"⟩, 29), (⟨"AshGreetingsModel", "readsDeep", "(I)Z"⟩, 29), (⟨"AshGreetingsModel", "figure", "(II)I"⟩, 29), (⟨"AshGreetingsModel", "readsOne", "(I)Z"⟩, 29), (⟨"AshGreetingsModel", "isOne", "(I)Z"⟩, 29), (⟨"AshGreetingsModel", "personTells", "(II)I"⟩, 29), (⟨"AshGreetingsModel", "isHid", "([II)Z"⟩, 29), (⟨"AshGreetingsModel", "seen", "(I)I"⟩, 29), (⟨"AshGreetingsModel", "isMet", "([II)Z"⟩, 29), (⟨"AshGreetingsModel", "nextTo", "([II)I"⟩, 29), (⟨"AshGreetingsModel", "inStreet", "(I)I"⟩, 29), (⟨"AshGreetingsModel", "remember", "()V"⟩, 29), (⟨"AshGreetingsModel", "passes", "([I)V"⟩, 29), (⟨"AshGreetingsModel", "grudgeThen", "([II)I"⟩, 29), (⟨"AshGreetingsModel", "isForgiven", "([II)Z"⟩, 29), (⟨"AshGreetingsModel", "all", "([I)I"⟩, 29)]
theorem lw_r3 : ∀ q ∈ lw_privs_3, lw_okq q := List.forall_mem_cons.mpr ⟨lw_p32, List.forall_mem_cons.mpr ⟨lw_p33, List.forall_mem_cons.mpr ⟨lw_p34, List.forall_mem_cons.mpr ⟨lw_p35, List.forall_mem_cons.mpr ⟨lw_p36, List.forall_mem_cons.mpr ⟨lw_p37, List.forall_mem_cons.mpr ⟨lw_p38, List.forall_mem_cons.mpr ⟨lw_p39, List.forall_mem_cons.mpr ⟨lw_p40, List.forall_mem_cons.mpr ⟨lw_p41, List.forall_mem_cons.mpr ⟨lw_p42, List.forall_mem_cons.mpr ⟨lw_p43, List.forall_mem_cons.mpr ⟨lw_p44, List.forall_mem_cons.mpr ⟨lw_p45, List.forall_mem_cons.mpr ⟨lw_p46, List.forall_mem_cons.mpr ⟨lw_p47, fun _ h => absurd h List.not_mem_nil⟩⟩⟩⟩⟩⟩⟩⟩⟩⟩⟩⟩⟩⟩⟩⟩
theorem lw_p48 : lw_okq (⟨"AshGreetingsModel", "becomes", "(III)I"⟩, 29) := ⟨⟨by decide +kernel, by decide +kernel⟩, List.mem_of_getElem? (i := 789) (by decide +kernel), List.mem_of_getElem? (i := 1084) (by decide +kernel), List.mem_of_getElem? (i := 1085) (by decide +kernel)⟩
theorem lw_p49 : lw_okq (⟨"AshGreetingsModel", "copyNow", "()V"⟩, 29) := ⟨⟨by decide +kernel, by decide +kernel⟩, List.mem_of_getElem? (i := 789) (by decide +kernel), List.mem_of_getElem? (i := 1104) (by decide +kernel), List.mem_of_getElem? (i := 1105) (by decide +kernel)⟩
theorem lw_p50 : lw_okq (⟨"AshGreetingsModel", "allBehind", "(I)I"⟩, 29) := ⟨⟨by decide +kernel, by decide +kernel⟩, List.mem_of_getElem? (i := 789) (by decide +kernel), List.mem_of_getElem? (i := 1108) (by decide +kernel), List.mem_of_getElem? (i := 1109) (by decide +kernel)⟩
theorem lw_p51 : lw_okq (⟨"AshGreetingsModel", "need", "(Z)I"⟩, 29) := ⟨⟨by decide +kernel, by decide +kernel⟩, List.mem_of_getElem? (i := 789) (by decide +kernel), List.mem_of_getElem? (i := 1120) (by decide +kernel), List.mem_of_getElem? (i := 1121) (by decide +kernel)⟩
theorem lw_p52 : lw_okq (⟨"AshGreetingsModel", "calm", "([I)I"⟩, 29) := ⟨⟨by decide +kernel, by decide +kernel⟩, List.mem_of_getElem? (i := 789) (by decide +kernel), List.mem_of_getElem? (i := 1124) (by decide +kernel), List.mem_of_getElem? (i := 1125) (by decide +kernel)⟩
theorem lw_p53 : lw_okq (⟨"AshGreetingsModel", "needTotals", "(II)I"⟩, 29) := ⟨⟨by decide +kernel, by decide +kernel⟩, List.mem_of_getElem? (i := 789) (by decide +kernel), List.mem_of_getElem? (i := 1144) (by decide +kernel), List.mem_of_getElem? (i := 1145) (by decide +kernel)⟩
theorem lw_p54 : lw_okq (⟨"AshGreetingsModel", "kindsBy", "(II)I"⟩, 29) := ⟨⟨by decide +kernel, by decide +kernel⟩, List.mem_of_getElem? (i := 789) (by decide +kernel), List.mem_of_getElem? (i := 1148) (by decide +kernel), List.mem_of_getElem? (i := 1149) (by decide +kernel)⟩
theorem lw_p55 : lw_okq (⟨"AshGreetingsModel", "isSo", "(I)Z"⟩, 29) := ⟨⟨by decide +kernel, by decide +kernel⟩, List.mem_of_getElem? (i := 789) (by decide +kernel), List.mem_of_getElem? (i := 1152) (by decide +kernel), List.mem_of_getElem? (i := 1153) (by decide +kernel)⟩
theorem lw_p56 : lw_okq (⟨"AshGreetingsModel", "allAs", "(III)I"⟩, 29) := ⟨⟨by decide +kernel, by decide +kernel⟩, List.mem_of_getElem? (i := 789) (by decide +kernel), List.mem_of_getElem? (i := 1167) (by decide +kernel), List.mem_of_getElem? (i := 1168) (by decide +kernel)⟩
theorem lw_p57 : lw_okq (⟨"AshGreetingsModel", "behindTurns", "(II)I"⟩, 29) := ⟨⟨by decide +kernel, by decide +kernel⟩, List.mem_of_getElem? (i := 789) (by decide +kernel), List.mem_of_getElem? (i := 1175) (by decide +kernel), List.mem_of_getElem? (i := 1176) (by decide +kernel)⟩
theorem lw_p58 : lw_okq (⟨"AshGreetingsModel", "moves", "(IZ)V"⟩, 29) := ⟨⟨by decide +kernel, by decide +kernel⟩, List.mem_of_getElem? (i := 789) (by decide +kernel), List.mem_of_getElem? (i := 1179) (by decide +kernel), List.mem_of_getElem? (i := 1180) (by decide +kernel)⟩
theorem lw_p59 : lw_okq (⟨"AshGreetingsModel", "layWinds", "(III)V"⟩, 29) := ⟨⟨by decide +kernel, by decide +kernel⟩, List.mem_of_getElem? (i := 789) (by decide +kernel), List.mem_of_getElem? (i := 1187) (by decide +kernel), List.mem_of_getElem? (i := 1188) (by decide +kernel)⟩
theorem lw_p60 : lw_okq (⟨"AshGreetingsModel", "lowest", "(JJI)I"⟩, 29) := ⟨⟨by decide +kernel, by decide +kernel⟩, List.mem_of_getElem? (i := 789) (by decide +kernel), List.mem_of_getElem? (i := 1192) (by decide +kernel), List.mem_of_getElem? (i := 1193) (by decide +kernel)⟩
theorem lw_p61 : lw_okq (⟨"AshGreetingsModel", "counted", "(I)I"⟩, 29) := ⟨⟨by decide +kernel, by decide +kernel⟩, List.mem_of_getElem? (i := 789) (by decide +kernel), List.mem_of_getElem? (i := 1214) (by decide +kernel), List.mem_of_getElem? (i := 1215) (by decide +kernel)⟩
theorem lw_p62 : lw_okq (⟨"AshGreetingsModel", "adds", "(J)V"⟩, 29) := ⟨⟨by decide +kernel, by decide +kernel⟩, List.mem_of_getElem? (i := 789) (by decide +kernel), List.mem_of_getElem? (i := 1223) (by decide +kernel), List.mem_of_getElem? (i := 1224) (by decide +kernel)⟩
def lw_privs_4 : List (MethodName × Nat) := [(⟨"AshGreetingsModel", "becomes", "(III)I"⟩, 29), (⟨"AshGreetingsModel", "copyNow", "()V"⟩, 29), (⟨"AshGreetingsModel", "allBehind", "(I)I"⟩, 29), (⟨"AshGreetingsModel", "need", "(Z)I"⟩, 29), (⟨"AshGreetingsModel", "calm", "([I)I"⟩, 29), (⟨"AshGreetingsModel", "needTotals", "(II)I"⟩, 29), (⟨"AshGreetingsModel", "kindsBy", "(II)I"⟩, 29), (⟨"AshGreetingsModel", "isSo", "(I)Z"⟩, 29), (⟨"AshGreetingsModel", "allAs", "(III)I"⟩, 29), (⟨"AshGreetingsModel", "behindTurns", "(II)I"⟩, 29), (⟨"AshGreetingsModel", "moves", "(IZ)V"⟩, 29), (⟨"AshGreetingsModel", "layWinds", "(III)V"⟩, 29), (⟨"AshGreetingsModel", "lowest", "(JJI)I"⟩, 29), (⟨"AshGreetingsModel", "counted", "(I)I"⟩, 29), (⟨"AshGreetingsModel", "adds", "(J)V"⟩, 29)]
theorem lw_r4 : ∀ q ∈ lw_privs_4, lw_okq q := List.forall_mem_cons.mpr ⟨lw_p48, List.forall_mem_cons.mpr ⟨lw_p49, List.forall_mem_cons.mpr ⟨lw_p50, List.forall_mem_cons.mpr ⟨lw_p51, List.forall_mem_cons.mpr ⟨lw_p52, List.forall_mem_cons.mpr ⟨lw_p53, List.forall_mem_cons.mpr ⟨lw_p54, List.forall_mem_cons.mpr ⟨lw_p55, List.forall_mem_cons.mpr ⟨lw_p56, List.forall_mem_cons.mpr ⟨lw_p57, List.forall_mem_cons.mpr ⟨lw_p58, List.forall_mem_cons.mpr ⟨lw_p59, List.forall_mem_cons.mpr ⟨lw_p60, List.forall_mem_cons.mpr ⟨lw_p61, List.forall_mem_cons.mpr ⟨lw_p62, fun _ h => absurd h List.not_mem_nil⟩⟩⟩⟩⟩⟩⟩⟩⟩⟩⟩⟩⟩⟩⟩
def lw_privs : List (MethodName × Nat) := lw_privs_1 ++ (lw_privs_2 ++ (lw_privs_3 ++ (lw_privs_4)))
def lw_tbl : List Cond := k2_sels lw_privs ++ tables_1
theorem lw_privs_ok : ∀ q ∈ lw_privs, lw_okq q := by
  show ∀ q ∈ lw_privs_1 ++ (lw_privs_2 ++ (lw_privs_3 ++ (lw_privs_4))), lw_okq q
  exact List.forall_mem_append.mpr ⟨lw_r1, List.forall_mem_append.mpr ⟨lw_r2, List.forall_mem_append.mpr ⟨lw_r3, lw_r4⟩⟩⟩
end
section
def RX0 : String := "AshGreetings$Brother"
def TX0 : u_T := fun k => match k with
  | _ => ("", "", "", false)
def tyX0 : Nat → FieldType := fun k => match k with
  | _ => .int
abbrev wsX00 : List Cond := u_ws RX0 TX0 0
theorem nmX0 : ∀ a, a < 0 → ∀ b, b < 0 → a ≠ b → (TX0 a).2.1 ≠ (TX0 b).2.1 := by decide +kernel
theorem tyX0_ok : ∀ k, k < 0 → parseFieldDescriptor (TX0 k).2.2.1 = some (tyX0 k) := by decide +kernel
abbrev cX0_init : ByteArray := prog_2_method_1_code
def yX0_init : MethodName := ⟨RX0, "<init>", "()V"⟩
abbrev cX0_anger : ByteArray := prog_2_method_2_code
def yX0_anger : MethodName := ⟨RX0, "anger", "()I"⟩
def RX1 : String := "AshGreetings$Devout"
def TX1 : u_T := fun k => match k with
  | _ => ("", "", "", false)
def tyX1 : Nat → FieldType := fun k => match k with
  | _ => .int
abbrev wsX10 : List Cond := u_ws RX1 TX1 0
theorem nmX1 : ∀ a, a < 0 → ∀ b, b < 0 → a ≠ b → (TX1 a).2.1 ≠ (TX1 b).2.1 := by decide +kernel
theorem tyX1_ok : ∀ k, k < 0 → parseFieldDescriptor (TX1 k).2.2.1 = some (tyX1 k) := by decide +kernel
abbrev cX1_init : ByteArray := prog_3_method_1_code
def yX1_init : MethodName := ⟨RX1, "<init>", "()V"⟩
abbrev cX1_forgiveness : ByteArray := prog_3_method_2_code
def yX1_forgiveness : MethodName := ⟨RX1, "forgiveness", "(I)I"⟩
def RX2 : String := "AshGreetings$Neighbour"
def TX2 : u_T := fun k => match k with
  | _ => ("", "", "", false)
def tyX2 : Nat → FieldType := fun k => match k with
  | _ => .int
abbrev wsX20 : List Cond := u_ws RX2 TX2 0
theorem nmX2 : ∀ a, a < 0 → ∀ b, b < 0 → a ≠ b → (TX2 a).2.1 ≠ (TX2 b).2.1 := by decide +kernel
theorem tyX2_ok : ∀ k, k < 0 → parseFieldDescriptor (TX2 k).2.2.1 = some (tyX2 k) := by decide +kernel
abbrev cX2_init : ByteArray := prog_4_method_1_code
def yX2_init : MethodName := ⟨RX2, "<init>", "()V"⟩
abbrev cX2_seenAs : ByteArray := prog_4_method_2_code
def yX2_seenAs : MethodName := ⟨RX2, "seenAs", "(I)I"⟩
abbrev cX2_forgivesAll : ByteArray := prog_4_method_3_code
def yX2_forgivesAll : MethodName := ⟨RX2, "forgivesAll", "()Z"⟩
abbrev cX2_forgiveness : ByteArray := prog_4_method_4_code
def yX2_forgiveness : MethodName := ⟨RX2, "forgiveness", "(I)I"⟩
abbrev cX2_anger : ByteArray := prog_4_method_5_code
def yX2_anger : MethodName := ⟨RX2, "anger", "()I"⟩
abbrev cX2_grudgeBehind : ByteArray := prog_4_method_6_code
def yX2_grudgeBehind : MethodName := ⟨RX2, "grudgeBehind", "(III)I"⟩
def RX3 : String := "AshGreetings$Outlook"
def TX3 : u_T := fun k => match k with
  | 0 => ("AshGreetings$Outlook", "aside", "LAshGreetings$Town;", true)
  | 1 => ("AshGreetings$Outlook", "moods", "[I", true)
  | 2 => ("AshGreetings$Outlook", "lyingNow", "[I", true)
  | 3 => ("AshGreetings$Outlook", "totals", "[[I", true)
  | 4 => ("AshGreetings$Outlook", "grudges", "[I", true)
  | 5 => ("AshGreetings$Outlook", "day", "I", false)
  | 6 => ("AshGreetings$Outlook", "told", "I", false)
  | 7 => ("AshGreetings$Outlook", "weightOfFew", "J", false)
  | 8 => ("AshGreetings$Outlook", "weightedTotal", "J", false)
  | _ => ("AshGreetings$Outlook", "weightOfAll", "J", false)
def tyX3 : Nat → FieldType := fun k => match k with
  | 0 => .object "AshGreetings$Town"
  | 1 => .array .int
  | 2 => .array .int
  | 3 => .array (.array .int)
  | 4 => .array .int
  | 5 => .int
  | 6 => .int
  | 7 => .long
  | 8 => .long
  | _ => .long
abbrev wsX30 : List Cond := u_ws RX3 TX3 10
theorem nmX3 : ∀ a, a < 10 → ∀ b, b < 10 → a ≠ b → (TX3 a).2.1 ≠ (TX3 b).2.1 := by decide +kernel
theorem tyX3_ok : ∀ k, k < 10 → parseFieldDescriptor (TX3 k).2.2.1 = some (tyX3 k) := by decide +kernel
abbrev cX3_init : ByteArray := prog_5_method_1_code
def yX3_init : MethodName := ⟨RX3, "<init>", "()V"⟩
abbrev cX3_lookAt : ByteArray := prog_5_method_2_code
def yX3_lookAt : MethodName := ⟨RX3, "lookAt", "(LAshGreetings$Town;)V"⟩
abbrev cX3_startFromNow : ByteArray := prog_5_method_3_code
def yX3_startFromNow : MethodName := ⟨RX3, "startFromNow", "()V"⟩
abbrev cX3_foreseeDay : ByteArray := prog_5_method_4_code
def yX3_foreseeDay : MethodName := ⟨RX3, "foreseeDay", "()V"⟩
abbrev cX3_total : ByteArray := prog_5_method_5_code
def yX3_total : MethodName := ⟨RX3, "total", "()I"⟩
abbrev cX3_howManyAtPeace : ByteArray := prog_5_method_6_code
def yX3_howManyAtPeace : MethodName := ⟨RX3, "howManyAtPeace", "()I"⟩
abbrev cX3_totalBehind : ByteArray := prog_5_method_7_code
def yX3_totalBehind : MethodName := ⟨RX3, "totalBehind", "(I)I"⟩
abbrev cX3_daysTillPeace : ByteArray := prog_5_method_8_code
def yX3_daysTillPeace : MethodName := ⟨RX3, "daysTillPeace", "()I"⟩
abbrev cX3_bestDepth : ByteArray := prog_5_method_9_code
def yX3_bestDepth : MethodName := ⟨RX3, "bestDepth", "(I)I"⟩
abbrev cX3_bestMove : ByteArray := prog_5_method_10_code
def yX3_bestMove : MethodName := ⟨RX3, "bestMove", "(I)I"⟩
abbrev cX3_kindsThatFit : ByteArray := prog_5_method_11_code
def yX3_kindsThatFit : MethodName := ⟨RX3, "kindsThatFit", "(ILAshGreetings$Strip;)I"⟩
abbrev cX3_heightsThatFit : ByteArray := prog_5_method_12_code
def yX3_heightsThatFit : MethodName := ⟨RX3, "heightsThatFit", "(ILAshGreetings$Strip;)I"⟩
abbrev cX3_fits : ByteArray := prog_5_method_13_code
def yX3_fits : MethodName := ⟨RX3, "fits", "(LAshGreetings$Strip;)Z"⟩
abbrev cX3_bestLook : ByteArray := prog_5_method_14_code
def yX3_bestLook : MethodName := ⟨RX3, "bestLook", "(ILAshGreetings$Strip;)I"⟩
abbrev cX3_foretellEach : ByteArray := prog_5_method_15_code
def yX3_foretellEach : MethodName := ⟨RX3, "foretellEach", "(I)V"⟩
abbrev cX3_greatestPart : ByteArray := prog_5_method_16_code
def yX3_greatestPart : MethodName := ⟨RX3, "greatestPart", "(II)I"⟩
abbrev cX3_totalByTurns : ByteArray := prog_5_method_17_code
def yX3_totalByTurns : MethodName := ⟨RX3, "totalByTurns", "(I)I"⟩
abbrev cX3_outcome : ByteArray := prog_5_method_18_code
def yX3_outcome : MethodName := ⟨RX3, "outcome", "(II)I"⟩
abbrev cX3_weighWinds : ByteArray := prog_5_method_19_code
def yX3_weighWinds : MethodName := ⟨RX3, "weighWinds", "(III)V"⟩
def RX4 : String := "AshGreetings$Priest"
def TX4 : u_T := fun k => match k with
  | _ => ("", "", "", false)
def tyX4 : Nat → FieldType := fun k => match k with
  | _ => .int
abbrev wsX40 : List Cond := u_ws RX4 TX4 0
theorem nmX4 : ∀ a, a < 0 → ∀ b, b < 0 → a ≠ b → (TX4 a).2.1 ≠ (TX4 b).2.1 := by decide +kernel
theorem tyX4_ok : ∀ k, k < 0 → parseFieldDescriptor (TX4 k).2.2.1 = some (tyX4 k) := by decide +kernel
abbrev cX4_init : ByteArray := prog_6_method_1_code
def yX4_init : MethodName := ⟨RX4, "<init>", "()V"⟩
abbrev cX4_forgivesAll : ByteArray := prog_6_method_2_code
def yX4_forgivesAll : MethodName := ⟨RX4, "forgivesAll", "()Z"⟩
def RX5 : String := "AshGreetings$Reading"
def TX5 : u_T := fun k => match k with
  | 0 => ("AshGreetings$Reading", "values", "[I", true)
  | _ => ("AshGreetings$Reading", "signs", "I", false)
def tyX5 : Nat → FieldType := fun k => match k with
  | 0 => .array .int
  | _ => .int
abbrev wsX50 : List Cond := u_ws RX5 TX5 2
theorem nmX5 : ∀ a, a < 2 → ∀ b, b < 2 → a ≠ b → (TX5 a).2.1 ≠ (TX5 b).2.1 := by decide +kernel
theorem tyX5_ok : ∀ k, k < 2 → parseFieldDescriptor (TX5 k).2.2.1 = some (tyX5 k) := by decide +kernel
abbrev cX5_init : ByteArray := prog_7_method_1_code
def yX5_init : MethodName := ⟨RX5, "<init>", "()V"⟩
abbrev cX5_faultOf : ByteArray := prog_7_method_2_code
def yX5_faultOf : MethodName := ⟨RX5, "faultOf", "(LAshGreetings$Strip;)I"⟩
abbrev cX5_howManyPeople : ByteArray := prog_7_method_3_code
def yX5_howManyPeople : MethodName := ⟨RX5, "howManyPeople", "()I"⟩
abbrev cX5_valueOf : ByteArray := prog_7_method_4_code
def yX5_valueOf : MethodName := ⟨RX5, "valueOf", "(I)I"⟩
abbrev cX5_figure : ByteArray := prog_7_method_5_code
def yX5_figure : MethodName := ⟨RX5, "figure", "(II)I"⟩
abbrev cX5_kindOf : ByteArray := prog_7_method_6_code
def yX5_kindOf : MethodName := ⟨RX5, "kindOf", "(I)I"⟩
def RX6 : String := "AshGreetings$ShortOne"
def TX6 : u_T := fun k => match k with
  | _ => ("", "", "", false)
def tyX6 : Nat → FieldType := fun k => match k with
  | _ => .int
abbrev wsX60 : List Cond := u_ws RX6 TX6 0
theorem nmX6 : ∀ a, a < 0 → ∀ b, b < 0 → a ≠ b → (TX6 a).2.1 ≠ (TX6 b).2.1 := by decide +kernel
theorem tyX6_ok : ∀ k, k < 0 → parseFieldDescriptor (TX6 k).2.2.1 = some (tyX6 k) := by decide +kernel
abbrev cX6_init : ByteArray := prog_8_method_1_code
def yX6_init : MethodName := ⟨RX6, "<init>", "()V"⟩
abbrev cX6_seenAs : ByteArray := prog_8_method_2_code
def yX6_seenAs : MethodName := ⟨RX6, "seenAs", "(I)I"⟩
def RX7 : String := "AshGreetings$Strip"
def TX7 : u_T := fun k => match k with
  | 0 => ("AshGreetings$Strip", "places", "[I", true)
  | _ => ("AshGreetings$Strip", "size", "I", false)
def tyX7 : Nat → FieldType := fun k => match k with
  | 0 => .array .int
  | _ => .int
abbrev wsX70 : List Cond := u_ws RX7 TX7 2
theorem nmX7 : ∀ a, a < 2 → ∀ b, b < 2 → a ≠ b → (TX7 a).2.1 ≠ (TX7 b).2.1 := by decide +kernel
theorem tyX7_ok : ∀ k, k < 2 → parseFieldDescriptor (TX7 k).2.2.1 = some (tyX7 k) := by decide +kernel
abbrev cX7_init : ByteArray := prog_9_method_1_code
def yX7_init : MethodName := ⟨RX7, "<init>", "(I)V"⟩
abbrev cX7_isThere : ByteArray := prog_9_method_2_code
def yX7_isThere : MethodName := ⟨RX7, "isThere", "()Z"⟩
abbrev cX7_has : ByteArray := prog_9_method_3_code
def yX7_has : MethodName := ⟨RX7, "has", "(I)Z"⟩
abbrev cX7_hasRun : ByteArray := prog_9_method_4_code
def yX7_hasRun : MethodName := ⟨RX7, "hasRun", "(II)Z"⟩
abbrev cX7_open : ByteArray := prog_9_method_5_code
def yX7_open : MethodName := ⟨RX7, "open", "(II)V"⟩
abbrev cX7_close : ByteArray := prog_9_method_6_code
def yX7_close : MethodName := ⟨RX7, "close", "()V"⟩
abbrev cX7_total : ByteArray := prog_9_method_7_code
def yX7_total : MethodName := ⟨RX7, "total", "()J"⟩
abbrev cX7_digestedInto : ByteArray := prog_9_method_8_code
def yX7_digestedInto : MethodName := ⟨RX7, "digestedInto", "(J)J"⟩
def RX8 : String := "AshGreetings$Stubborn"
def TX8 : u_T := fun k => match k with
  | _ => ("", "", "", false)
def tyX8 : Nat → FieldType := fun k => match k with
  | _ => .int
abbrev wsX80 : List Cond := u_ws RX8 TX8 0
theorem nmX8 : ∀ a, a < 0 → ∀ b, b < 0 → a ≠ b → (TX8 a).2.1 ≠ (TX8 b).2.1 := by decide +kernel
theorem tyX8_ok : ∀ k, k < 0 → parseFieldDescriptor (TX8 k).2.2.1 = some (tyX8 k) := by decide +kernel
abbrev cX8_init : ByteArray := prog_10_method_1_code
def yX8_init : MethodName := ⟨RX8, "<init>", "()V"⟩
abbrev cX8_forgiveness : ByteArray := prog_10_method_2_code
def yX8_forgiveness : MethodName := ⟨RX8, "forgiveness", "(I)I"⟩
def RX9 : String := "AshGreetings$Town"
def TX9 : u_T := fun k => match k with
  | 0 => ("AshGreetings$Town", "people", "I", false)
  | 1 => ("AshGreetings$Town", "day", "I", false)
  | 2 => ("AshGreetings$Town", "deeds", "I", false)
  | 3 => ("AshGreetings$Town", "sorts", "[LAshGreetings$Neighbour;", true)
  | 4 => ("AshGreetings$Town", "kinds", "[I", true)
  | 5 => ("AshGreetings$Town", "highs", "[I", true)
  | 6 => ("AshGreetings$Town", "foes", "[I", true)
  | 7 => ("AshGreetings$Town", "grudges", "[I", true)
  | 8 => ("AshGreetings$Town", "streets", "[I", true)
  | 9 => ("AshGreetings$Town", "deeps", "[I", true)
  | 10 => ("AshGreetings$Town", "firstGrudges", "[I", true)
  | 11 => ("AshGreetings$Town", "firstStreets", "[I", true)
  | 12 => ("AshGreetings$Town", "firstDeeps", "[I", true)
  | 13 => ("AshGreetings$Town", "deedKinds", "[I", true)
  | 14 => ("AshGreetings$Town", "deedPlaces", "[I", true)
  | _ => ("AshGreetings$Town", "deedAims", "[I", true)
def tyX9 : Nat → FieldType := fun k => match k with
  | 0 => .int
  | 1 => .int
  | 2 => .int
  | 3 => .array (.object "AshGreetings$Neighbour")
  | 4 => .array .int
  | 5 => .array .int
  | 6 => .array .int
  | 7 => .array .int
  | 8 => .array .int
  | 9 => .array .int
  | 10 => .array .int
  | 11 => .array .int
  | 12 => .array .int
  | 13 => .array .int
  | 14 => .array .int
  | _ => .array .int
abbrev wsX90 : List Cond := u_ws RX9 TX9 16
theorem nmX9 : ∀ a, a < 16 → ∀ b, b < 16 → a ≠ b → (TX9 a).2.1 ≠ (TX9 b).2.1 := by decide +kernel
theorem tyX9_ok : ∀ k, k < 16 → parseFieldDescriptor (TX9 k).2.2.1 = some (tyX9 k) := by decide +kernel
abbrev cX9_init : ByteArray := prog_11_method_1_code
def yX9_init : MethodName := ⟨RX9, "<init>", "()V"⟩
abbrev cX9_hasPeople : ByteArray := prog_11_method_2_code
def yX9_hasPeople : MethodName := ⟨RX9, "hasPeople", "()Z"⟩
abbrev cX9_sortOf : ByteArray := prog_11_method_3_code
def yX9_sortOf : MethodName := ⟨RX9, "sortOf", "(I)LAshGreetings$Neighbour;"⟩
abbrev cX9_settle : ByteArray := prog_11_method_4_code
def yX9_settle : MethodName := ⟨RX9, "settle", "(LAshGreetings$Reading;)V"⟩
abbrev cX9_further : ByteArray := prog_11_method_5_code
def yX9_further : MethodName := ⟨RX9, "further", "(II)I"⟩
abbrev cX9_startAnew : ByteArray := prog_11_method_6_code
def yX9_startAnew : MethodName := ⟨RX9, "startAnew", "()V"⟩
abbrev cX9_become : ByteArray := prog_11_method_7_code
def yX9_become : MethodName := ⟨RX9, "become", "(LAshGreetings$Town;)V"⟩
abbrev cX9_becomeAside : ByteArray := prog_11_method_8_code
def yX9_becomeAside : MethodName := ⟨RX9, "becomeAside", "(LAshGreetings$Town;)V"⟩
abbrev cX9_perform : ByteArray := prog_11_method_9_code
def yX9_perform : MethodName := ⟨RX9, "perform", "(III)V"⟩
abbrev cX9_goBackTo : ByteArray := prog_11_method_10_code
def yX9_goBackTo : MethodName := ⟨RX9, "goBackTo", "(I)V"⟩
abbrev cX9_carryOut : ByteArray := prog_11_method_11_code
def yX9_carryOut : MethodName := ⟨RX9, "carryOut", "(I)V"⟩
abbrev cX9_passDay : ByteArray := prog_11_method_12_code
def yX9_passDay : MethodName := ⟨RX9, "passDay", "()V"⟩
abbrev cX9_moodOf : ByteArray := prog_11_method_13_code
def yX9_moodOf : MethodName := ⟨RX9, "moodOf", "(I)I"⟩
abbrev cX9_facesFoe : ByteArray := prog_11_method_14_code
def yX9_facesFoe : MethodName := ⟨RX9, "facesFoe", "(I)Z"⟩
abbrev cX9_isHid : ByteArray := prog_11_method_15_code
def yX9_isHid : MethodName := ⟨RX9, "isHid", "(I)Z"⟩
abbrev cX9_meetsFoe : ByteArray := prog_11_method_16_code
def yX9_meetsFoe : MethodName := ⟨RX9, "meetsFoe", "(I)Z"⟩
abbrev cX9_factOf : ByteArray := prog_11_method_17_code
def yX9_factOf : MethodName := ⟨RX9, "factOf", "(II)I"⟩
abbrev cX9_crowdIn : ByteArray := prog_11_method_18_code
def yX9_crowdIn : MethodName := ⟨RX9, "crowdIn", "(I)I"⟩
abbrev cX9_totalGrudge : ByteArray := prog_11_method_19_code
def yX9_totalGrudge : MethodName := ⟨RX9, "totalGrudge", "()I"⟩
abbrev cX9_totalDeep : ByteArray := prog_11_method_20_code
def yX9_totalDeep : MethodName := ⟨RX9, "totalDeep", "()I"⟩
abbrev cX9_whoIsHid : ByteArray := prog_11_method_21_code
def yX9_whoIsHid : MethodName := ⟨RX9, "whoIsHid", "()I"⟩
abbrev cX9_whoIsAtPeace : ByteArray := prog_11_method_22_code
def yX9_whoIsAtPeace : MethodName := ⟨RX9, "whoIsAtPeace", "()I"⟩
def RX10 : String := "AshGreetings"
def TX10 : u_T := fun k => match k with
  | 0 => ("AshGreetings", "rows", "[LAshGreetings$Strip;", true)
  | 1 => ("AshGreetings", "texts", "[LAshGreetings$Strip;", true)
  | 2 => ("AshGreetings", "reading", "LAshGreetings$Reading;", true)
  | 3 => ("AshGreetings", "town", "LAshGreetings$Town;", true)
  | 4 => ("AshGreetings", "keptTowns", "[LAshGreetings$Town;", true)
  | 5 => ("AshGreetings", "outlook", "LAshGreetings$Outlook;", true)
  | 6 => ("AshGreetings", "timesFound", "[I", true)
  | 7 => ("AshGreetings", "lastFound", "I", false)
  | 8 => ("AshGreetings", "told", "I", false)
  | 9 => ("AshGreetings", "above", "J", false)
  | _ => ("AshGreetings", "below", "J", false)
def tyX10 : Nat → FieldType := fun k => match k with
  | 0 => .array (.object "AshGreetings$Strip")
  | 1 => .array (.object "AshGreetings$Strip")
  | 2 => .object "AshGreetings$Reading"
  | 3 => .object "AshGreetings$Town"
  | 4 => .array (.object "AshGreetings$Town")
  | 5 => .object "AshGreetings$Outlook"
  | 6 => .array .int
  | 7 => .int
  | 8 => .int
  | 9 => .long
  | _ => .long
abbrev wsX100 : List Cond := u_ws RX10 TX10 11
theorem nmX10 : ∀ a, a < 11 → ∀ b, b < 11 → a ≠ b → (TX10 a).2.1 ≠ (TX10 b).2.1 := by decide +kernel
theorem tyX10_ok : ∀ k, k < 11 → parseFieldDescriptor (TX10 k).2.2.1 = some (tyX10 k) := by decide +kernel
abbrev cX10_init : ByteArray := prog_1_method_1_code
def yX10_init : MethodName := ⟨RX10, "<init>", "()V"⟩
abbrev cX10_row : ByteArray := prog_1_method_2_code
def yX10_row : MethodName := ⟨RX10, "row", "(II)I"⟩
abbrev cX10_lay : ByteArray := prog_1_method_3_code
def yX10_lay : MethodName := ⟨RX10, "lay", "(III)I"⟩
abbrev cX10_at : ByteArray := prog_1_method_4_code
def yX10_at : MethodName := ⟨RX10, "at", "(II)I"⟩
abbrev cX10_tear : ByteArray := prog_1_method_5_code
def yX10_tear : MethodName := ⟨RX10, "tear", "(I)I"⟩
abbrev cX10_copy : ByteArray := prog_1_method_6_code
def yX10_copy : MethodName := ⟨RX10, "copy", "(IIIII)I"⟩
abbrev cX10_mean : ByteArray := prog_1_method_7_code
def yX10_mean : MethodName := ⟨RX10, "mean", "(I)I"⟩
abbrev cX10_text : ByteArray := prog_1_method_8_code
def yX10_text : MethodName := ⟨RX10, "text", "(II)I"⟩
abbrev cX10_put : ByteArray := prog_1_method_9_code
def yX10_put : MethodName := ⟨RX10, "put", "(III)I"⟩
abbrev cX10_fault : ByteArray := prog_1_method_10_code
def yX10_fault : MethodName := ⟨RX10, "fault", "(I)I"⟩
abbrev cX10_town : ByteArray := prog_1_method_11_code
def yX10_town : MethodName := ⟨RX10, "town", "(I)I"⟩
abbrev cX10_person : ByteArray := prog_1_method_12_code
def yX10_person : MethodName := ⟨RX10, "person", "(II)I"⟩
abbrev cX10_deep : ByteArray := prog_1_method_13_code
def yX10_deep : MethodName := ⟨RX10, "deep", "(I)I"⟩
abbrev cX10_mark : ByteArray := prog_1_method_14_code
def yX10_mark : MethodName := ⟨RX10, "mark", "(II)I"⟩
abbrev cX10_day : ByteArray := prog_1_method_15_code
def yX10_day : MethodName := ⟨RX10, "day", "()I"⟩
abbrev cX10_fall : ByteArray := prog_1_method_16_code
def yX10_fall : MethodName := ⟨RX10, "fall", "(II)I"⟩
abbrev cX10_wind : ByteArray := prog_1_method_17_code
def yX10_wind : MethodName := ⟨RX10, "wind", "(I)I"⟩
abbrev cX10_go : ByteArray := prog_1_method_18_code
def yX10_go : MethodName := ⟨RX10, "go", "(II)I"⟩
abbrev cX10_undo : ByteArray := prog_1_method_19_code
def yX10_undo : MethodName := ⟨RX10, "undo", "(I)I"⟩
abbrev cX10_keep : ByteArray := prog_1_method_20_code
def yX10_keep : MethodName := ⟨RX10, "keep", "(I)I"⟩
abbrev cX10_on : ByteArray := prog_1_method_21_code
def yX10_on : MethodName := ⟨RX10, "on", "(I)I"⟩
abbrev cX10_meets : ByteArray := prog_1_method_22_code
def yX10_meets : MethodName := ⟨RX10, "meets", "()I"⟩
abbrev cX10_later : ByteArray := prog_1_method_23_code
def yX10_later : MethodName := ⟨RX10, "later", "(II)I"⟩
abbrev cX10_peace : ByteArray := prog_1_method_24_code
def yX10_peace : MethodName := ⟨RX10, "peace", "()I"⟩
abbrev cX10_left : ByteArray := prog_1_method_25_code
def yX10_left : MethodName := ⟨RX10, "left", "(I)I"⟩
abbrev cX10_ash : ByteArray := prog_1_method_26_code
def yX10_ash : MethodName := ⟨RX10, "ash", "(I)I"⟩
abbrev cX10_best : ByteArray := prog_1_method_27_code
def yX10_best : MethodName := ⟨RX10, "best", "(I)I"⟩
abbrev cX10_kinds : ByteArray := prog_1_method_28_code
def yX10_kinds : MethodName := ⟨RX10, "kinds", "(II)I"⟩
abbrev cX10_highs : ByteArray := prog_1_method_29_code
def yX10_highs : MethodName := ⟨RX10, "highs", "(II)I"⟩
abbrev cX10_test : ByteArray := prog_1_method_30_code
def yX10_test : MethodName := ⟨RX10, "test", "(II)I"⟩
abbrev cX10_duel : ByteArray := prog_1_method_31_code
def yX10_duel : MethodName := ⟨RX10, "duel", "(I)I"⟩
abbrev cX10_odds : ByteArray := prog_1_method_32_code
def yX10_odds : MethodName := ⟨RX10, "odds", "(III)I"⟩
abbrev cX10_mid : ByteArray := prog_1_method_33_code
def yX10_mid : MethodName := ⟨RX10, "mid", "(II)I"⟩
abbrev cX10_lots : ByteArray := prog_1_method_34_code
def yX10_lots : MethodName := ⟨RX10, "lots", "(II)I"⟩
abbrev cX10_asked : ByteArray := prog_1_method_35_code
def yX10_asked : MethodName := ⟨RX10, "asked", "()I"⟩
abbrev cX10_upper : ByteArray := prog_1_method_36_code
def yX10_upper : MethodName := ⟨RX10, "upper", "()J"⟩
abbrev cX10_lower : ByteArray := prog_1_method_37_code
def yX10_lower : MethodName := ⟨RX10, "lower", "()J"⟩
abbrev cX10_count : ByteArray := prog_1_method_38_code
def yX10_count : MethodName := ⟨RX10, "count", "(I)I"⟩
abbrev cX10_finding : ByteArray := prog_1_method_39_code
def yX10_finding : MethodName := ⟨RX10, "finding", "()I"⟩
abbrev cX10_findings : ByteArray := prog_1_method_40_code
def yX10_findings : MethodName := ⟨RX10, "findings", "(I)I"⟩
abbrev cX10_digest : ByteArray := prog_1_method_41_code
def yX10_digest : MethodName := ⟨RX10, "digest", "()J"⟩
abbrev cX10_isRow : ByteArray := prog_1_method_42_code
def yX10_isRow : MethodName := ⟨RX10, "isRow", "(I)Z"⟩
abbrev cX10_isText : ByteArray := prog_1_method_43_code
def yX10_isText : MethodName := ⟨RX10, "isText", "(I)Z"⟩
abbrev cX10_isStreet : ByteArray := prog_1_method_44_code
def yX10_isStreet : MethodName := ⟨RX10, "isStreet", "(I)Z"⟩
abbrev cX10_isPerson : ByteArray := prog_1_method_45_code
def yX10_isPerson : MethodName := ⟨RX10, "isPerson", "(I)Z"⟩
abbrev cX10_isKeepingPlace : ByteArray := prog_1_method_46_code
def yX10_isKeepingPlace : MethodName := ⟨RX10, "isKeepingPlace", "(I)Z"⟩
abbrev cX10_areChances : ByteArray := prog_1_method_47_code
def yX10_areChances : MethodName := ⟨RX10, "areChances", "(II)Z"⟩
abbrev cX10_isOfKind : ByteArray := prog_1_method_48_code
def yX10_isOfKind : MethodName := ⟨RX10, "isOfKind", "(LAshGreetings$Neighbour;I)Z"⟩
abbrev cX10_foundOut : ByteArray := prog_1_method_49_code
def yX10_foundOut : MethodName := ⟨RX10, "foundOut", "(I)I"⟩
abbrev cX10_refusalOfPlace : ByteArray := prog_1_method_50_code
def yX10_refusalOfPlace : MethodName := ⟨RX10, "refusalOfPlace", "(LAshGreetings$Strip;I)I"⟩
abbrev cX10_refusalOfRecord : ByteArray := prog_1_method_51_code
def yX10_refusalOfRecord : MethodName := ⟨RX10, "refusalOfRecord", "(II)I"⟩
abbrev cX10_passOn : ByteArray := prog_1_method_52_code
def yX10_passOn : MethodName := ⟨RX10, "passOn", "(I)I"⟩
abbrev cX10_tellInLowestTerms : ByteArray := prog_1_method_53_code
def yX10_tellInLowestTerms : MethodName := ⟨RX10, "tellInLowestTerms", "(JJ)V"⟩
abbrev cX10_greatestShared : ByteArray := prog_1_method_54_code
def yX10_greatestShared : MethodName := ⟨RX10, "greatestShared", "(JJ)J"⟩
abbrev cX10_performByLot : ByteArray := prog_1_method_55_code
def yX10_performByLot : MethodName := ⟨RX10, "performByLot", "(J)V"⟩
abbrev cX10_howManyAreThere : ByteArray := prog_1_method_56_code
def yX10_howManyAreThere : MethodName := ⟨RX10, "howManyAreThere", "([LAshGreetings$Strip;)I"⟩
abbrev cX10_howManyAreKept : ByteArray := prog_1_method_57_code
def yX10_howManyAreKept : MethodName := ⟨RX10, "howManyAreKept", "()I"⟩
abbrev cX10_howManyOfKind : ByteArray := prog_1_method_58_code
def yX10_howManyOfKind : MethodName := ⟨RX10, "howManyOfKind", "(I)I"⟩
def RX11 : String := "AshGreetingsModel"
def TX11 : u_T := fun k => match k with
  | 0 => ("AshGreetingsModel", "told", "I", false)
  | 1 => ("AshGreetingsModel", "above", "J", false)
  | 2 => ("AshGreetingsModel", "below", "J", false)
  | 3 => ("AshGreetingsModel", "latest", "I", false)
  | 4 => ("AshGreetingsModel", "came", "[I", true)
  | 5 => ("AshGreetingsModel", "sizes", "[I", true)
  | 6 => ("AshGreetingsModel", "rows", "[I", true)
  | 7 => ("AshGreetingsModel", "copied", "[I", true)
  | 8 => ("AshGreetingsModel", "textSizes", "[I", true)
  | 9 => ("AshGreetingsModel", "bytes", "[B", true)
  | 10 => ("AshGreetingsModel", "readAt", "I", false)
  | 11 => ("AshGreetingsModel", "readMany", "I", false)
  | 12 => ("AshGreetingsModel", "readDeep", "[I", true)
  | 13 => ("AshGreetingsModel", "readOne", "[I", true)
  | 14 => ("AshGreetingsModel", "n", "I", false)
  | 15 => ("AshGreetingsModel", "kind", "[I", true)
  | 16 => ("AshGreetingsModel", "high", "[I", true)
  | 17 => ("AshGreetingsModel", "foe", "[I", true)
  | 18 => ("AshGreetingsModel", "now", "[I", true)
  | 19 => ("AshGreetingsModel", "tried", "[I", true)
  | 20 => ("AshGreetingsModel", "deedMany", "I", false)
  | 21 => ("AshGreetingsModel", "log", "[I", true)
  | 22 => ("AshGreetingsModel", "keptMany", "[I", true)
  | 23 => ("AshGreetingsModel", "kept", "[I", true)
  | 24 => ("AshGreetingsModel", "come", "[I", true)
  | 25 => ("AshGreetingsModel", "whole", "J", false)
  | 26 => ("AshGreetingsModel", "fewSum", "J", false)
  | 27 => ("AshGreetingsModel", "allSum", "J", false)
  | _ => ("AshGreetingsModel", "h", "J", false)
def tyX11 : Nat → FieldType := fun k => match k with
  | 0 => .int
  | 1 => .long
  | 2 => .long
  | 3 => .int
  | 4 => .array .int
  | 5 => .array .int
  | 6 => .array .int
  | 7 => .array .int
  | 8 => .array .int
  | 9 => .array .byte
  | 10 => .int
  | 11 => .int
  | 12 => .array .int
  | 13 => .array .int
  | 14 => .int
  | 15 => .array .int
  | 16 => .array .int
  | 17 => .array .int
  | 18 => .array .int
  | 19 => .array .int
  | 20 => .int
  | 21 => .array .int
  | 22 => .array .int
  | 23 => .array .int
  | 24 => .array .int
  | 25 => .long
  | 26 => .long
  | 27 => .long
  | _ => .long
abbrev wsX110 : List Cond := u_ws RX11 TX11 29
theorem nmX11 : ∀ a, a < 29 → ∀ b, b < 29 → a ≠ b → (TX11 a).2.1 ≠ (TX11 b).2.1 := by decide +kernel
theorem tyX11_ok : ∀ k, k < 29 → parseFieldDescriptor (TX11 k).2.2.1 = some (tyX11 k) := by decide +kernel
abbrev cX11_init : ByteArray := prog_13_method_1_code
def yX11_init : MethodName := ⟨RX11, "<init>", "()V"⟩
abbrev cX11_in : ByteArray := prog_13_method_2_code
def yX11_in : MethodName := ⟨RX11, "in", "(III)Z"⟩
abbrev cX11_has : ByteArray := prog_13_method_3_code
def yX11_has : MethodName := ⟨RX11, "has", "(II)Z"⟩
abbrev cX11_bits : ByteArray := prog_13_method_4_code
def yX11_bits : MethodName := ⟨RX11, "bits", "(I)I"⟩
abbrev cX11_found : ByteArray := prog_13_method_5_code
def yX11_found : MethodName := ⟨RX11, "found", "(I)I"⟩
abbrev cX11_tells : ByteArray := prog_13_method_6_code
def yX11_tells : MethodName := ⟨RX11, "tells", "(II)I"⟩
abbrev cX11_asked : ByteArray := prog_13_method_7_code
def yX11_asked : MethodName := ⟨RX11, "asked", "()I"⟩
abbrev cX11_upper : ByteArray := prog_13_method_8_code
def yX11_upper : MethodName := ⟨RX11, "upper", "()J"⟩
abbrev cX11_lower : ByteArray := prog_13_method_9_code
def yX11_lower : MethodName := ⟨RX11, "lower", "()J"⟩
abbrev cX11_lowest : ByteArray := prog_13_method_10_code
def yX11_lowest : MethodName := ⟨RX11, "lowest", "(JJI)I"⟩
abbrev cX11_finding : ByteArray := prog_13_method_11_code
def yX11_finding : MethodName := ⟨RX11, "finding", "()I"⟩
abbrev cX11_findings : ByteArray := prog_13_method_12_code
def yX11_findings : MethodName := ⟨RX11, "findings", "(I)I"⟩
abbrev cX11_isRow : ByteArray := prog_13_method_13_code
def yX11_isRow : MethodName := ⟨RX11, "isRow", "(I)Z"⟩
abbrev cX11_rowAt : ByteArray := prog_13_method_14_code
def yX11_rowAt : MethodName := ⟨RX11, "rowAt", "(II)I"⟩
abbrev cX11_row : ByteArray := prog_13_method_15_code
def yX11_row : MethodName := ⟨RX11, "row", "(II)I"⟩
abbrev cX11_lay : ByteArray := prog_13_method_16_code
def yX11_lay : MethodName := ⟨RX11, "lay", "(III)I"⟩
abbrev cX11_at : ByteArray := prog_13_method_17_code
def yX11_at : MethodName := ⟨RX11, "at", "(II)I"⟩
abbrev cX11_tear : ByteArray := prog_13_method_18_code
def yX11_tear : MethodName := ⟨RX11, "tear", "(I)I"⟩
abbrev cX11_copy : ByteArray := prog_13_method_19_code
def yX11_copy : MethodName := ⟨RX11, "copy", "(IIIII)I"⟩
abbrev cX11_mean : ByteArray := prog_13_method_20_code
def yX11_mean : MethodName := ⟨RX11, "mean", "(I)I"⟩
abbrev cX11_isText : ByteArray := prog_13_method_21_code
def yX11_isText : MethodName := ⟨RX11, "isText", "(I)Z"⟩
abbrev cX11_text : ByteArray := prog_13_method_22_code
def yX11_text : MethodName := ⟨RX11, "text", "(II)I"⟩
abbrev cX11_put : ByteArray := prog_13_method_23_code
def yX11_put : MethodName := ⟨RX11, "put", "(III)I"⟩
abbrev cX11_byteAt : ByteArray := prog_13_method_24_code
def yX11_byteAt : MethodName := ⟨RX11, "byteAt", "(I)I"⟩
abbrev cX11_kindOf : ByteArray := prog_13_method_25_code
def yX11_kindOf : MethodName := ⟨RX11, "kindOf", "(I)I"⟩
abbrev cX11_figure : ByteArray := prog_13_method_26_code
def yX11_figure : MethodName := ⟨RX11, "figure", "(II)I"⟩
abbrev cX11_blanks : ByteArray := prog_13_method_27_code
def yX11_blanks : MethodName := ⟨RX11, "blanks", "(I)V"⟩
abbrev cX11_readsDeep : ByteArray := prog_13_method_28_code
def yX11_readsDeep : MethodName := ⟨RX11, "readsDeep", "(I)Z"⟩
abbrev cX11_readsOne : ByteArray := prog_13_method_29_code
def yX11_readsOne : MethodName := ⟨RX11, "readsOne", "(I)Z"⟩
abbrev cX11_faultOf : ByteArray := prog_13_method_30_code
def yX11_faultOf : MethodName := ⟨RX11, "faultOf", "(I)I"⟩
abbrev cX11_fault : ByteArray := prog_13_method_31_code
def yX11_fault : MethodName := ⟨RX11, "fault", "(I)I"⟩
abbrev cX11_town : ByteArray := prog_13_method_32_code
def yX11_town : MethodName := ⟨RX11, "town", "(I)I"⟩
abbrev cX11_isOne : ByteArray := prog_13_method_33_code
def yX11_isOne : MethodName := ⟨RX11, "isOne", "(I)Z"⟩
abbrev cX11_isStreet : ByteArray := prog_13_method_34_code
def yX11_isStreet : MethodName := ⟨RX11, "isStreet", "(I)Z"⟩
abbrev cX11_isOf : ByteArray := prog_13_method_35_code
def yX11_isOf : MethodName := ⟨RX11, "isOf", "(II)Z"⟩
abbrev cX11_seen : ByteArray := prog_13_method_36_code
def yX11_seen : MethodName := ⟨RX11, "seen", "(I)I"⟩
abbrev cX11_isHid : ByteArray := prog_13_method_37_code
def yX11_isHid : MethodName := ⟨RX11, "isHid", "([II)Z"⟩
abbrev cX11_nextTo : ByteArray := prog_13_method_38_code
def yX11_nextTo : MethodName := ⟨RX11, "nextTo", "([II)I"⟩
abbrev cX11_isMet : ByteArray := prog_13_method_39_code
def yX11_isMet : MethodName := ⟨RX11, "isMet", "([II)Z"⟩
abbrev cX11_isForgiven : ByteArray := prog_13_method_40_code
def yX11_isForgiven : MethodName := ⟨RX11, "isForgiven", "([II)Z"⟩
abbrev cX11_lessBy : ByteArray := prog_13_method_41_code
def yX11_lessBy : MethodName := ⟨RX11, "lessBy", "(II)I"⟩
abbrev cX11_grudgeThen : ByteArray := prog_13_method_42_code
def yX11_grudgeThen : MethodName := ⟨RX11, "grudgeThen", "([II)I"⟩
abbrev cX11_passes : ByteArray := prog_13_method_43_code
def yX11_passes : MethodName := ⟨RX11, "passes", "([I)V"⟩
abbrev cX11_all : ByteArray := prog_13_method_44_code
def yX11_all : MethodName := ⟨RX11, "all", "([I)I"⟩
abbrev cX11_calm : ByteArray := prog_13_method_45_code
def yX11_calm : MethodName := ⟨RX11, "calm", "([I)I"⟩
abbrev cX11_copyNow : ByteArray := prog_13_method_46_code
def yX11_copyNow : MethodName := ⟨RX11, "copyNow", "()V"⟩
abbrev cX11_allBehind : ByteArray := prog_13_method_47_code
def yX11_allBehind : MethodName := ⟨RX11, "allBehind", "(I)I"⟩
abbrev cX11_personTells : ByteArray := prog_13_method_48_code
def yX11_personTells : MethodName := ⟨RX11, "personTells", "(II)I"⟩
abbrev cX11_person : ByteArray := prog_13_method_49_code
def yX11_person : MethodName := ⟨RX11, "person", "(II)I"⟩
abbrev cX11_inStreet : ByteArray := prog_13_method_50_code
def yX11_inStreet : MethodName := ⟨RX11, "inStreet", "(I)I"⟩
abbrev cX11_deep : ByteArray := prog_13_method_51_code
def yX11_deep : MethodName := ⟨RX11, "deep", "(I)I"⟩
abbrev cX11_mark : ByteArray := prog_13_method_52_code
def yX11_mark : MethodName := ⟨RX11, "mark", "(II)I"⟩
abbrev cX11_remember : ByteArray := prog_13_method_53_code
def yX11_remember : MethodName := ⟨RX11, "remember", "()V"⟩
abbrev cX11_undo : ByteArray := prog_13_method_54_code
def yX11_undo : MethodName := ⟨RX11, "undo", "(I)I"⟩
abbrev cX11_keep : ByteArray := prog_13_method_55_code
def yX11_keep : MethodName := ⟨RX11, "keep", "(I)I"⟩
abbrev cX11_on : ByteArray := prog_13_method_56_code
def yX11_on : MethodName := ⟨RX11, "on", "(I)I"⟩
abbrev cX11_day : ByteArray := prog_13_method_57_code
def yX11_day : MethodName := ⟨RX11, "day", "()I"⟩
abbrev cX11_becomes : ByteArray := prog_13_method_58_code
def yX11_becomes : MethodName := ⟨RX11, "becomes", "(III)I"⟩
abbrev cX11_deeper : ByteArray := prog_13_method_59_code
def yX11_deeper : MethodName := ⟨RX11, "deeper", "(II)I"⟩
abbrev cX11_fall : ByteArray := prog_13_method_60_code
def yX11_fall : MethodName := ⟨RX11, "fall", "(II)I"⟩
abbrev cX11_wind : ByteArray := prog_13_method_61_code
def yX11_wind : MethodName := ⟨RX11, "wind", "(I)I"⟩
abbrev cX11_go : ByteArray := prog_13_method_62_code
def yX11_go : MethodName := ⟨RX11, "go", "(II)I"⟩
abbrev cX11_meets : ByteArray := prog_13_method_63_code
def yX11_meets : MethodName := ⟨RX11, "meets", "()I"⟩
abbrev cX11_later : ByteArray := prog_13_method_64_code
def yX11_later : MethodName := ⟨RX11, "later", "(II)I"⟩
abbrev cX11_peace : ByteArray := prog_13_method_65_code
def yX11_peace : MethodName := ⟨RX11, "peace", "()I"⟩
abbrev cX11_need : ByteArray := prog_13_method_66_code
def yX11_need : MethodName := ⟨RX11, "need", "(Z)I"⟩
abbrev cX11_left : ByteArray := prog_13_method_67_code
def yX11_left : MethodName := ⟨RX11, "left", "(I)I"⟩
abbrev cX11_ash : ByteArray := prog_13_method_68_code
def yX11_ash : MethodName := ⟨RX11, "ash", "(I)I"⟩
abbrev cX11_best : ByteArray := prog_13_method_69_code
def yX11_best : MethodName := ⟨RX11, "best", "(I)I"⟩
abbrev cX11_needTotals : ByteArray := prog_13_method_70_code
def yX11_needTotals : MethodName := ⟨RX11, "needTotals", "(II)I"⟩
abbrev cX11_isSo : ByteArray := prog_13_method_71_code
def yX11_isSo : MethodName := ⟨RX11, "isSo", "(I)Z"⟩
abbrev cX11_kindsBy : ByteArray := prog_13_method_72_code
def yX11_kindsBy : MethodName := ⟨RX11, "kindsBy", "(II)I"⟩
abbrev cX11_kinds : ByteArray := prog_13_method_73_code
def yX11_kinds : MethodName := ⟨RX11, "kinds", "(II)I"⟩
abbrev cX11_highs : ByteArray := prog_13_method_74_code
def yX11_highs : MethodName := ⟨RX11, "highs", "(II)I"⟩
abbrev cX11_allAs : ByteArray := prog_13_method_75_code
def yX11_allAs : MethodName := ⟨RX11, "allAs", "(III)I"⟩
abbrev cX11_test : ByteArray := prog_13_method_76_code
def yX11_test : MethodName := ⟨RX11, "test", "(II)I"⟩
abbrev cX11_moves : ByteArray := prog_13_method_77_code
def yX11_moves : MethodName := ⟨RX11, "moves", "(IZ)V"⟩
abbrev cX11_behindTurns : ByteArray := prog_13_method_78_code
def yX11_behindTurns : MethodName := ⟨RX11, "behindTurns", "(II)I"⟩
abbrev cX11_duel : ByteArray := prog_13_method_79_code
def yX11_duel : MethodName := ⟨RX11, "duel", "(I)I"⟩
abbrev cX11_layWinds : ByteArray := prog_13_method_80_code
def yX11_layWinds : MethodName := ⟨RX11, "layWinds", "(III)V"⟩
abbrev cX11_odds : ByteArray := prog_13_method_81_code
def yX11_odds : MethodName := ⟨RX11, "odds", "(III)I"⟩
abbrev cX11_mid : ByteArray := prog_13_method_82_code
def yX11_mid : MethodName := ⟨RX11, "mid", "(II)I"⟩
abbrev cX11_lots : ByteArray := prog_13_method_83_code
def yX11_lots : MethodName := ⟨RX11, "lots", "(II)I"⟩
abbrev cX11_counted : ByteArray := prog_13_method_84_code
def yX11_counted : MethodName := ⟨RX11, "counted", "(I)I"⟩
abbrev cX11_count : ByteArray := prog_13_method_85_code
def yX11_count : MethodName := ⟨RX11, "count", "(I)I"⟩
abbrev cX11_adds : ByteArray := prog_13_method_86_code
def yX11_adds : MethodName := ⟨RX11, "adds", "(J)V"⟩
abbrev cX11_digest : ByteArray := prog_13_method_87_code
def yX11_digest : MethodName := ⟨RX11, "digest", "()J"⟩
def RJ9 : String := "java/lang/Math"
def TJ9 : u_T := fun k => match k with
  | _ => ("", "", "", false)
def tyJ9 : Nat → FieldType := fun k => match k with
  | _ => .int
abbrev wsJ90 : List Cond := u_ws RJ9 TJ9 0
theorem nmJ9 : ∀ a, a < 0 → ∀ b, b < 0 → a ≠ b → (TJ9 a).2.1 ≠ (TJ9 b).2.1 := by decide +kernel
theorem tyJ9_ok : ∀ k, k < 0 → parseFieldDescriptor (TJ9 k).2.2.1 = some (tyJ9 k) := by decide +kernel
abbrev cJ9_max_7cf53 : ByteArray := prog_14_method_65_code
def yJ9_max_7cf53 : MethodName := ⟨RJ9, "max", "(II)I"⟩
abbrev cJ9_min_7cf53 : ByteArray := prog_14_method_69_code
def yJ9_min_7cf53 : MethodName := ⟨RJ9, "min", "(II)I"⟩
def RJ10 : String := "java/lang/System"
def TJ10 : u_T := fun k => match k with
  | _ => ("", "", "", false)
def tyJ10 : Nat → FieldType := fun k => match k with
  | _ => .int
abbrev wsJ100 : List Cond := u_ws RJ10 TJ10 0
theorem nmJ10 : ∀ a, a < 0 → ∀ b, b < 0 → a ≠ b → (TJ10 a).2.1 ≠ (TJ10 b).2.1 := by decide +kernel
theorem tyJ10_ok : ∀ k, k < 0 → parseFieldDescriptor (TJ10 k).2.2.1 = some (tyJ10 k) := by decide +kernel
def RJ7 : String := "java/util/Arrays"
def TJ7 : u_T := fun k => match k with
  | _ => ("", "", "", false)
def tyJ7 : Nat → FieldType := fun k => match k with
  | _ => .int
abbrev wsJ70 : List Cond := u_ws RJ7 TJ7 0
theorem nmJ7 : ∀ a, a < 0 → ∀ b, b < 0 → a ≠ b → (TJ7 a).2.1 ≠ (TJ7 b).2.1 := by decide +kernel
theorem tyJ7_ok : ∀ k, k < 0 → parseFieldDescriptor (TJ7 k).2.2.1 = some (tyJ7 k) := by decide +kernel
abbrev cJ7_fill_53178 : ByteArray := prog_16_method_103_code
def yJ7_fill_53178 : MethodName := ⟨RJ7, "fill", "([II)V"⟩
def RL : String := "AshGreetingsLaw"
abbrev cL_law : ByteArray := code
def yL_law : MethodName := ⟨RL, "law", "([I)Z"⟩
abbrev vwCl : List vw_C := [(RX0, TX0, 0), (RX1, TX1, 0), (RX2, TX2, 0), (RX3, TX3, 10), (RX4, TX4, 0), (RX5, TX5, 2), (RX6, TX6, 0), (RX7, TX7, 2), (RX8, TX8, 0), (RX9, TX9, 16), (RX10, TX10, 11), (RX11, TX11, 29)]
/-- the words that all methods stand on -/
def tb : List Cond := lw_tbl.filter goodWord
theorem tb_at {w : Cond} {i : Nat} (h : lw_tbl[i]? = some w) (hg : goodWord w = true) : w ∈ tb := List.mem_filter.mpr ⟨List.mem_of_getElem? h, hg⟩
theorem tb_in {ws : List Cond} (ps : List Nat) (hp : ws = ps.filterMap (fun i => lw_tbl[i]?)) (h : ws.all goodWord = true) : ∀ w ∈ ws, w ∈ tb := by
  intro w hw
  have h1 := List.all_eq_true.mp h w hw
  rw [hp] at hw
  obtain ⟨i, -, hi⟩ := List.mem_filterMap.mp hw
  exact tb_at hi h1
theorem tb_good {w : Cond} (h : w ∈ tb) : goodWord w = true := (List.mem_filter.mp h).2
theorem tb_lw {w : Cond} (h : w ∈ tb) : w ∈ lw_tbl := (List.mem_filter.mp h).1
/-- a method: its name, bytes, locals, type -/
abbrev MI : Type := MethodName × ByteArray × Nat × Option FieldType
abbrev mX0_init : MI := (yX0_init, cX0_init, 1, none)
abbrev mX0_anger : MI := (yX0_anger, cX0_anger, 1, (some .int))
abbrev mX1_init : MI := (yX1_init, cX1_init, 1, none)
abbrev mX1_forgiveness : MI := (yX1_forgiveness, cX1_forgiveness, 2, (some .int))
abbrev mX2_init : MI := (yX2_init, cX2_init, 1, none)
abbrev mX2_seenAs : MI := (yX2_seenAs, cX2_seenAs, 2, (some .int))
abbrev mX2_forgivesAll : MI := (yX2_forgivesAll, cX2_forgivesAll, 1, (some .boolean))
abbrev mX2_forgiveness : MI := (yX2_forgiveness, cX2_forgiveness, 2, (some .int))
abbrev mX2_anger : MI := (yX2_anger, cX2_anger, 1, (some .int))
abbrev mX2_grudgeBehind : MI := (yX2_grudgeBehind, cX2_grudgeBehind, 4, (some .int))
abbrev mX3_init : MI := (yX3_init, cX3_init, 1, none)
abbrev mX3_lookAt : MI := (yX3_lookAt, cX3_lookAt, 2, none)
abbrev mX3_startFromNow : MI := (yX3_startFromNow, cX3_startFromNow, 2, none)
abbrev mX3_foreseeDay : MI := (yX3_foreseeDay, cX3_foreseeDay, 2, none)
abbrev mX3_total : MI := (yX3_total, cX3_total, 3, (some .int))
abbrev mX3_howManyAtPeace : MI := (yX3_howManyAtPeace, cX3_howManyAtPeace, 3, (some .int))
abbrev mX3_totalBehind : MI := (yX3_totalBehind, cX3_totalBehind, 3, (some .int))
abbrev mX3_daysTillPeace : MI := (yX3_daysTillPeace, cX3_daysTillPeace, 4, (some .int))
abbrev mX3_bestDepth : MI := (yX3_bestDepth, cX3_bestDepth, 5, (some .int))
abbrev mX3_bestMove : MI := (yX3_bestMove, cX3_bestMove, 8, (some .int))
abbrev mX3_kindsThatFit : MI := (yX3_kindsThatFit, cX3_kindsThatFit, 6, (some .int))
abbrev mX3_heightsThatFit : MI := (yX3_heightsThatFit, cX3_heightsThatFit, 6, (some .int))
abbrev mX3_fits : MI := (yX3_fits, cX3_fits, 3, (some .boolean))
abbrev mX3_bestLook : MI := (yX3_bestLook, cX3_bestLook, 7, (some .int))
abbrev mX3_foretellEach : MI := (yX3_foretellEach, cX3_foretellEach, 4, none)
abbrev mX3_greatestPart : MI := (yX3_greatestPart, cX3_greatestPart, 8, (some .int))
abbrev mX3_totalByTurns : MI := (yX3_totalByTurns, cX3_totalByTurns, 2, (some .int))
abbrev mX3_outcome : MI := (yX3_outcome, cX3_outcome, 9, (some .int))
abbrev mX3_weighWinds : MI := (yX3_weighWinds, cX3_weighWinds, 9, none)
abbrev mX4_init : MI := (yX4_init, cX4_init, 1, none)
abbrev mX4_forgivesAll : MI := (yX4_forgivesAll, cX4_forgivesAll, 1, (some .boolean))
abbrev mX5_init : MI := (yX5_init, cX5_init, 1, none)
abbrev mX5_faultOf : MI := (yX5_faultOf, cX5_faultOf, 5, (some .int))
abbrev mX5_howManyPeople : MI := (yX5_howManyPeople, cX5_howManyPeople, 1, (some .int))
abbrev mX5_valueOf : MI := (yX5_valueOf, cX5_valueOf, 3, (some .int))
abbrev mX5_figure : MI := (yX5_figure, cX5_figure, 3, (some .int))
abbrev mX5_kindOf : MI := (yX5_kindOf, cX5_kindOf, 2, (some .int))
abbrev mX6_init : MI := (yX6_init, cX6_init, 1, none)
abbrev mX6_seenAs : MI := (yX6_seenAs, cX6_seenAs, 2, (some .int))
abbrev mX7_init : MI := (yX7_init, cX7_init, 2, none)
abbrev mX7_isThere : MI := (yX7_isThere, cX7_isThere, 1, (some .boolean))
abbrev mX7_has : MI := (yX7_has, cX7_has, 2, (some .boolean))
abbrev mX7_hasRun : MI := (yX7_hasRun, cX7_hasRun, 3, (some .boolean))
abbrev mX7_open : MI := (yX7_open, cX7_open, 3, none)
abbrev mX7_close : MI := (yX7_close, cX7_close, 1, none)
abbrev mX7_total : MI := (yX7_total, cX7_total, 4, (some .long))
abbrev mX7_digestedInto : MI := (yX7_digestedInto, cX7_digestedInto, 6, (some .long))
abbrev mX8_init : MI := (yX8_init, cX8_init, 1, none)
abbrev mX8_forgiveness : MI := (yX8_forgiveness, cX8_forgiveness, 2, (some .int))
abbrev mX9_init : MI := (yX9_init, cX9_init, 1, none)
abbrev mX9_hasPeople : MI := (yX9_hasPeople, cX9_hasPeople, 1, (some .boolean))
abbrev mX9_sortOf : MI := (yX9_sortOf, cX9_sortOf, 2, (some (.object "AshGreetings$Neighbour")))
abbrev mX9_settle : MI := (yX9_settle, cX9_settle, 4, none)
abbrev mX9_further : MI := (yX9_further, cX9_further, 4, (some .int))
abbrev mX9_startAnew : MI := (yX9_startAnew, cX9_startAnew, 1, none)
abbrev mX9_become : MI := (yX9_become, cX9_become, 2, none)
abbrev mX9_becomeAside : MI := (yX9_becomeAside, cX9_becomeAside, 2, none)
abbrev mX9_perform : MI := (yX9_perform, cX9_perform, 4, none)
abbrev mX9_goBackTo : MI := (yX9_goBackTo, cX9_goBackTo, 3, none)
abbrev mX9_carryOut : MI := (yX9_carryOut, cX9_carryOut, 3, none)
abbrev mX9_passDay : MI := (yX9_passDay, cX9_passDay, 2, none)
abbrev mX9_moodOf : MI := (yX9_moodOf, cX9_moodOf, 2, (some .int))
abbrev mX9_facesFoe : MI := (yX9_facesFoe, cX9_facesFoe, 2, (some .boolean))
abbrev mX9_isHid : MI := (yX9_isHid, cX9_isHid, 2, (some .boolean))
abbrev mX9_meetsFoe : MI := (yX9_meetsFoe, cX9_meetsFoe, 6, (some .boolean))
abbrev mX9_factOf : MI := (yX9_factOf, cX9_factOf, 3, (some .int))
abbrev mX9_crowdIn : MI := (yX9_crowdIn, cX9_crowdIn, 4, (some .int))
abbrev mX9_totalGrudge : MI := (yX9_totalGrudge, cX9_totalGrudge, 3, (some .int))
abbrev mX9_totalDeep : MI := (yX9_totalDeep, cX9_totalDeep, 3, (some .int))
abbrev mX9_whoIsHid : MI := (yX9_whoIsHid, cX9_whoIsHid, 3, (some .int))
abbrev mX9_whoIsAtPeace : MI := (yX9_whoIsAtPeace, cX9_whoIsAtPeace, 3, (some .int))
abbrev mX10_init : MI := (yX10_init, cX10_init, 2, none)
abbrev mX10_row : MI := (yX10_row, cX10_row, 3, (some .int))
abbrev mX10_lay : MI := (yX10_lay, cX10_lay, 5, (some .int))
abbrev mX10_at : MI := (yX10_at, cX10_at, 4, (some .int))
abbrev mX10_tear : MI := (yX10_tear, cX10_tear, 2, (some .int))
abbrev mX10_copy : MI := (yX10_copy, cX10_copy, 6, (some .int))
abbrev mX10_mean : MI := (yX10_mean, cX10_mean, 3, (some .int))
abbrev mX10_text : MI := (yX10_text, cX10_text, 3, (some .int))
abbrev mX10_put : MI := (yX10_put, cX10_put, 6, (some .int))
abbrev mX10_fault : MI := (yX10_fault, cX10_fault, 2, (some .int))
abbrev mX10_town : MI := (yX10_town, cX10_town, 3, (some .int))
abbrev mX10_person : MI := (yX10_person, cX10_person, 3, (some .int))
abbrev mX10_deep : MI := (yX10_deep, cX10_deep, 2, (some .int))
abbrev mX10_mark : MI := (yX10_mark, cX10_mark, 3, (some .int))
abbrev mX10_day : MI := (yX10_day, cX10_day, 1, (some .int))
abbrev mX10_fall : MI := (yX10_fall, cX10_fall, 3, (some .int))
abbrev mX10_wind : MI := (yX10_wind, cX10_wind, 3, (some .int))
abbrev mX10_go : MI := (yX10_go, cX10_go, 4, (some .int))
abbrev mX10_undo : MI := (yX10_undo, cX10_undo, 3, (some .int))
abbrev mX10_keep : MI := (yX10_keep, cX10_keep, 2, (some .int))
abbrev mX10_on : MI := (yX10_on, cX10_on, 2, (some .int))
abbrev mX10_meets : MI := (yX10_meets, cX10_meets, 5, (some .int))
abbrev mX10_later : MI := (yX10_later, cX10_later, 3, (some .int))
abbrev mX10_peace : MI := (yX10_peace, cX10_peace, 1, (some .int))
abbrev mX10_left : MI := (yX10_left, cX10_left, 3, (some .int))
abbrev mX10_ash : MI := (yX10_ash, cX10_ash, 2, (some .int))
abbrev mX10_best : MI := (yX10_best, cX10_best, 2, (some .int))
abbrev mX10_kinds : MI := (yX10_kinds, cX10_kinds, 4, (some .int))
abbrev mX10_highs : MI := (yX10_highs, cX10_highs, 4, (some .int))
abbrev mX10_test : MI := (yX10_test, cX10_test, 4, (some .int))
abbrev mX10_duel : MI := (yX10_duel, cX10_duel, 2, (some .int))
abbrev mX10_odds : MI := (yX10_odds, cX10_odds, 4, (some .int))
abbrev mX10_mid : MI := (yX10_mid, cX10_mid, 3, (some .int))
abbrev mX10_lots : MI := (yX10_lots, cX10_lots, 6, (some .int))
abbrev mX10_asked : MI := (yX10_asked, cX10_asked, 1, (some .int))
abbrev mX10_upper : MI := (yX10_upper, cX10_upper, 1, (some .long))
abbrev mX10_lower : MI := (yX10_lower, cX10_lower, 1, (some .long))
abbrev mX10_count : MI := (yX10_count, cX10_count, 2, (some .int))
abbrev mX10_finding : MI := (yX10_finding, cX10_finding, 1, (some .int))
abbrev mX10_findings : MI := (yX10_findings, cX10_findings, 2, (some .int))
abbrev mX10_digest : MI := (yX10_digest, cX10_digest, 5, (some .long))
abbrev mX10_isRow : MI := (yX10_isRow, cX10_isRow, 2, (some .boolean))
abbrev mX10_isText : MI := (yX10_isText, cX10_isText, 2, (some .boolean))
abbrev mX10_isStreet : MI := (yX10_isStreet, cX10_isStreet, 2, (some .boolean))
abbrev mX10_isPerson : MI := (yX10_isPerson, cX10_isPerson, 2, (some .boolean))
abbrev mX10_isKeepingPlace : MI := (yX10_isKeepingPlace, cX10_isKeepingPlace, 2, (some .boolean))
abbrev mX10_areChances : MI := (yX10_areChances, cX10_areChances, 3, (some .boolean))
abbrev mX10_isOfKind : MI := (yX10_isOfKind, cX10_isOfKind, 3, (some .boolean))
abbrev mX10_foundOut : MI := (yX10_foundOut, cX10_foundOut, 2, (some .int))
abbrev mX10_refusalOfPlace : MI := (yX10_refusalOfPlace, cX10_refusalOfPlace, 3, (some .int))
abbrev mX10_refusalOfRecord : MI := (yX10_refusalOfRecord, cX10_refusalOfRecord, 5, (some .int))
abbrev mX10_passOn : MI := (yX10_passOn, cX10_passOn, 2, (some .int))
abbrev mX10_tellInLowestTerms : MI := (yX10_tellInLowestTerms, cX10_tellInLowestTerms, 7, none)
abbrev mX10_greatestShared : MI := (yX10_greatestShared, cX10_greatestShared, 11, (some .long))
abbrev mX10_performByLot : MI := (yX10_performByLot, cX10_performByLot, 6, none)
abbrev mX10_howManyAreThere : MI := (yX10_howManyAreThere, cX10_howManyAreThere, 6, (some .int))
abbrev mX10_howManyAreKept : MI := (yX10_howManyAreKept, cX10_howManyAreKept, 3, (some .int))
abbrev mX10_howManyOfKind : MI := (yX10_howManyOfKind, cX10_howManyOfKind, 4, (some .int))
abbrev mX11_init : MI := (yX11_init, cX11_init, 2, none)
abbrev mX11_in : MI := (yX11_in, cX11_in, 3, (some .boolean))
abbrev mX11_has : MI := (yX11_has, cX11_has, 2, (some .boolean))
abbrev mX11_bits : MI := (yX11_bits, cX11_bits, 3, (some .int))
abbrev mX11_found : MI := (yX11_found, cX11_found, 2, (some .int))
abbrev mX11_tells : MI := (yX11_tells, cX11_tells, 3, (some .int))
abbrev mX11_asked : MI := (yX11_asked, cX11_asked, 1, (some .int))
abbrev mX11_upper : MI := (yX11_upper, cX11_upper, 1, (some .long))
abbrev mX11_lower : MI := (yX11_lower, cX11_lower, 1, (some .long))
abbrev mX11_lowest : MI := (yX11_lowest, cX11_lowest, 12, (some .int))
abbrev mX11_finding : MI := (yX11_finding, cX11_finding, 1, (some .int))
abbrev mX11_findings : MI := (yX11_findings, cX11_findings, 2, (some .int))
abbrev mX11_isRow : MI := (yX11_isRow, cX11_isRow, 1, (some .boolean))
abbrev mX11_rowAt : MI := (yX11_rowAt, cX11_rowAt, 3, (some .int))
abbrev mX11_row : MI := (yX11_row, cX11_row, 4, (some .int))
abbrev mX11_lay : MI := (yX11_lay, cX11_lay, 5, (some .int))
abbrev mX11_at : MI := (yX11_at, cX11_at, 3, (some .int))
abbrev mX11_tear : MI := (yX11_tear, cX11_tear, 2, (some .int))
abbrev mX11_copy : MI := (yX11_copy, cX11_copy, 7, (some .int))
abbrev mX11_mean : MI := (yX11_mean, cX11_mean, 5, (some .int))
abbrev mX11_isText : MI := (yX11_isText, cX11_isText, 1, (some .boolean))
abbrev mX11_text : MI := (yX11_text, cX11_text, 4, (some .int))
abbrev mX11_put : MI := (yX11_put, cX11_put, 5, (some .int))
abbrev mX11_byteAt : MI := (yX11_byteAt, cX11_byteAt, 2, (some .int))
abbrev mX11_kindOf : MI := (yX11_kindOf, cX11_kindOf, 1, (some .int))
abbrev mX11_figure : MI := (yX11_figure, cX11_figure, 4, (some .int))
abbrev mX11_blanks : MI := (yX11_blanks, cX11_blanks, 2, none)
abbrev mX11_readsDeep : MI := (yX11_readsDeep, cX11_readsDeep, 3, (some .boolean))
abbrev mX11_readsOne : MI := (yX11_readsOne, cX11_readsOne, 5, (some .boolean))
abbrev mX11_faultOf : MI := (yX11_faultOf, cX11_faultOf, 2, (some .int))
abbrev mX11_fault : MI := (yX11_fault, cX11_fault, 2, (some .int))
abbrev mX11_town : MI := (yX11_town, cX11_town, 3, (some .int))
abbrev mX11_isOne : MI := (yX11_isOne, cX11_isOne, 2, (some .boolean))
abbrev mX11_isStreet : MI := (yX11_isStreet, cX11_isStreet, 1, (some .boolean))
abbrev mX11_isOf : MI := (yX11_isOf, cX11_isOf, 2, (some .boolean))
abbrev mX11_seen : MI := (yX11_seen, cX11_seen, 3, (some .int))
abbrev mX11_isHid : MI := (yX11_isHid, cX11_isHid, 3, (some .boolean))
abbrev mX11_nextTo : MI := (yX11_nextTo, cX11_nextTo, 8, (some .int))
abbrev mX11_isMet : MI := (yX11_isMet, cX11_isMet, 4, (some .boolean))
abbrev mX11_isForgiven : MI := (yX11_isForgiven, cX11_isForgiven, 3, (some .boolean))
abbrev mX11_lessBy : MI := (yX11_lessBy, cX11_lessBy, 2, (some .int))
abbrev mX11_grudgeThen : MI := (yX11_grudgeThen, cX11_grudgeThen, 5, (some .int))
abbrev mX11_passes : MI := (yX11_passes, cX11_passes, 3, none)
abbrev mX11_all : MI := (yX11_all, cX11_all, 4, (some .int))
abbrev mX11_calm : MI := (yX11_calm, cX11_calm, 4, (some .int))
abbrev mX11_copyNow : MI := (yX11_copyNow, cX11_copyNow, 2, none)
abbrev mX11_allBehind : MI := (yX11_allBehind, cX11_allBehind, 3, (some .int))
abbrev mX11_personTells : MI := (yX11_personTells, cX11_personTells, 3, (some .int))
abbrev mX11_person : MI := (yX11_person, cX11_person, 3, (some .int))
abbrev mX11_inStreet : MI := (yX11_inStreet, cX11_inStreet, 4, (some .int))
abbrev mX11_deep : MI := (yX11_deep, cX11_deep, 2, (some .int))
abbrev mX11_mark : MI := (yX11_mark, cX11_mark, 4, (some .int))
abbrev mX11_remember : MI := (yX11_remember, cX11_remember, 2, none)
abbrev mX11_undo : MI := (yX11_undo, cX11_undo, 4, (some .int))
abbrev mX11_keep : MI := (yX11_keep, cX11_keep, 3, (some .int))
abbrev mX11_on : MI := (yX11_on, cX11_on, 3, (some .int))
abbrev mX11_day : MI := (yX11_day, cX11_day, 1, (some .int))
abbrev mX11_becomes : MI := (yX11_becomes, cX11_becomes, 4, (some .int))
abbrev mX11_deeper : MI := (yX11_deeper, cX11_deeper, 2, (some .int))
abbrev mX11_fall : MI := (yX11_fall, cX11_fall, 4, (some .int))
abbrev mX11_wind : MI := (yX11_wind, cX11_wind, 2, (some .int))
abbrev mX11_go : MI := (yX11_go, cX11_go, 4, (some .int))
abbrev mX11_meets : MI := (yX11_meets, cX11_meets, 5, (some .int))
abbrev mX11_later : MI := (yX11_later, cX11_later, 4, (some .int))
abbrev mX11_peace : MI := (yX11_peace, cX11_peace, 4, (some .int))
abbrev mX11_need : MI := (yX11_need, cX11_need, 2, (some .int))
abbrev mX11_left : MI := (yX11_left, cX11_left, 4, (some .int))
abbrev mX11_ash : MI := (yX11_ash, cX11_ash, 7, (some .int))
abbrev mX11_best : MI := (yX11_best, cX11_best, 7, (some .int))
abbrev mX11_needTotals : MI := (yX11_needTotals, cX11_needTotals, 5, (some .int))
abbrev mX11_isSo : MI := (yX11_isSo, cX11_isSo, 4, (some .boolean))
abbrev mX11_kindsBy : MI := (yX11_kindsBy, cX11_kindsBy, 6, (some .int))
abbrev mX11_kinds : MI := (yX11_kinds, cX11_kinds, 4, (some .int))
abbrev mX11_highs : MI := (yX11_highs, cX11_highs, 7, (some .int))
abbrev mX11_allAs : MI := (yX11_allAs, cX11_allAs, 6, (some .int))
abbrev mX11_test : MI := (yX11_test, cX11_test, 12, (some .int))
abbrev mX11_moves : MI := (yX11_moves, cX11_moves, 3, none)
abbrev mX11_behindTurns : MI := (yX11_behindTurns, cX11_behindTurns, 5, (some .int))
abbrev mX11_duel : MI := (yX11_duel, cX11_duel, 9, (some .int))
abbrev mX11_layWinds : MI := (yX11_layWinds, cX11_layWinds, 8, none)
abbrev mX11_odds : MI := (yX11_odds, cX11_odds, 5, (some .int))
abbrev mX11_mid : MI := (yX11_mid, cX11_mid, 4, (some .int))
abbrev mX11_lots : MI := (yX11_lots, cX11_lots, 9, (some .int))
abbrev mX11_counted : MI := (yX11_counted, cX11_counted, 4, (some .int))
abbrev mX11_count : MI := (yX11_count, cX11_count, 2, (some .int))
abbrev mX11_adds : MI := (yX11_adds, cX11_adds, 3, none)
abbrev mX11_digest : MI := (yX11_digest, cX11_digest, 3, (some .long))
abbrev mJ9_max_7cf53 : MI := (yJ9_max_7cf53, cJ9_max_7cf53, 2, (some .int))
abbrev mJ9_min_7cf53 : MI := (yJ9_min_7cf53, cJ9_min_7cf53, 2, (some .int))
abbrev mJ7_fill_53178 : MI := (yJ7_fill_53178, cJ7_fill_53178, 4, none)
abbrev mL_law : MI := (yL_law, cL_law, 4, (some .boolean))
end
section
theorem dX0_init_0 : decode cX0_init 0 = .ok (.aload_n 0, 1) := by decide +kernel
theorem dX0_init_1 : decode cX0_init 1 = .ok (.invokespecial 1, 3) := by decide +kernel
theorem dX0_init_4 : decode cX0_init 4 = .ok (.return_, 1) := by decide +kernel
theorem dX0_anger_0 : decode cX0_anger 0 = .ok (.iconst 0, 1) := by decide +kernel
theorem dX0_anger_1 : decode cX0_anger 1 = .ok (.ireturn, 1) := by decide +kernel
theorem dX1_init_0 : decode cX1_init 0 = .ok (.aload_n 0, 1) := by decide +kernel
theorem dX1_init_1 : decode cX1_init 1 = .ok (.invokespecial 1, 3) := by decide +kernel
theorem dX1_init_4 : decode cX1_init 4 = .ok (.return_, 1) := by decide +kernel
theorem dX1_forgiveness_0 : decode cX1_forgiveness 0 = .ok (.iconst 2, 1) := by decide +kernel
theorem dX1_forgiveness_1 : decode cX1_forgiveness 1 = .ok (.ireturn, 1) := by decide +kernel
theorem dX2_init_0 : decode cX2_init 0 = .ok (.aload_n 0, 1) := by decide +kernel
theorem dX2_init_1 : decode cX2_init 1 = .ok (.invokespecial 3, 3) := by decide +kernel
theorem dX2_init_4 : decode cX2_init 4 = .ok (.return_, 1) := by decide +kernel
theorem dX2_seenAs_0 : decode cX2_seenAs 0 = .ok (.iload_n 1, 1) := by decide +kernel
theorem dX2_seenAs_1 : decode cX2_seenAs 1 = .ok (.ireturn, 1) := by decide +kernel
theorem dX2_forgivesAll_0 : decode cX2_forgivesAll 0 = .ok (.iconst 0, 1) := by decide +kernel
theorem dX2_forgivesAll_1 : decode cX2_forgivesAll 1 = .ok (.ireturn, 1) := by decide +kernel
theorem dX2_forgiveness_0 : decode cX2_forgiveness 0 = .ok (.iconst 1, 1) := by decide +kernel
theorem dX2_forgiveness_1 : decode cX2_forgiveness 1 = .ok (.ireturn, 1) := by decide +kernel
theorem dX2_anger_0 : decode cX2_anger 0 = .ok (.iconst 1, 1) := by decide +kernel
theorem dX2_anger_1 : decode cX2_anger 1 = .ok (.ireturn, 1) := by decide +kernel
theorem dX2_grudgeBehind_0 : decode cX2_grudgeBehind 0 = .ok (.iload_n 2, 1) := by decide +kernel
theorem dX2_grudgeBehind_1 : decode cX2_grudgeBehind 1 = .ok (.iconst 1, 1) := by decide +kernel
theorem dX2_grudgeBehind_2 : decode cX2_grudgeBehind 2 = .ok (.if_icmp .ne 15, 3) := by decide +kernel
theorem dX2_grudgeBehind_5 : decode cX2_grudgeBehind 5 = .ok (.iconst 0, 1) := by decide +kernel
theorem dX2_grudgeBehind_6 : decode cX2_grudgeBehind 6 = .ok (.iload_n 1, 1) := by decide +kernel
theorem dX2_grudgeBehind_7 : decode cX2_grudgeBehind 7 = .ok (.aload_n 0, 1) := by decide +kernel
theorem dX2_grudgeBehind_8 : decode cX2_grudgeBehind 8 = .ok (.iload_n 3, 1) := by decide +kernel
theorem dX2_grudgeBehind_9 : decode cX2_grudgeBehind 9 = .ok (.invokevirtual 9, 3) := by decide +kernel
theorem dX2_grudgeBehind_12 : decode cX2_grudgeBehind 12 = .ok (.isub, 1) := by decide +kernel
theorem dX2_grudgeBehind_13 : decode cX2_grudgeBehind 13 = .ok (.invokestatic 15, 3) := by decide +kernel
theorem dX2_grudgeBehind_16 : decode cX2_grudgeBehind 16 = .ok (.ireturn, 1) := by decide +kernel
theorem dX2_grudgeBehind_17 : decode cX2_grudgeBehind 17 = .ok (.iload_n 2, 1) := by decide +kernel
theorem dX2_grudgeBehind_18 : decode cX2_grudgeBehind 18 = .ok (.iconst 2, 1) := by decide +kernel
theorem dX2_grudgeBehind_19 : decode cX2_grudgeBehind 19 = .ok (.if_icmp .ne 15, 3) := by decide +kernel
theorem dX2_grudgeBehind_22 : decode cX2_grudgeBehind 22 = .ok (.bipush 9, 2) := by decide +kernel
theorem dX2_grudgeBehind_24 : decode cX2_grudgeBehind 24 = .ok (.iload_n 1, 1) := by decide +kernel
theorem dX2_grudgeBehind_25 : decode cX2_grudgeBehind 25 = .ok (.aload_n 0, 1) := by decide +kernel
theorem dX2_grudgeBehind_26 : decode cX2_grudgeBehind 26 = .ok (.invokevirtual 21, 3) := by decide +kernel
theorem dX2_grudgeBehind_29 : decode cX2_grudgeBehind 29 = .ok (.iadd, 1) := by decide +kernel
theorem dX2_grudgeBehind_30 : decode cX2_grudgeBehind 30 = .ok (.invokestatic 25, 3) := by decide +kernel
theorem dX2_grudgeBehind_33 : decode cX2_grudgeBehind 33 = .ok (.ireturn, 1) := by decide +kernel
theorem dX2_grudgeBehind_34 : decode cX2_grudgeBehind 34 = .ok (.iload_n 1, 1) := by decide +kernel
theorem dX2_grudgeBehind_35 : decode cX2_grudgeBehind 35 = .ok (.ireturn, 1) := by decide +kernel
theorem dX4_init_0 : decode cX4_init 0 = .ok (.aload_n 0, 1) := by decide +kernel
theorem dX4_init_1 : decode cX4_init 1 = .ok (.invokespecial 1, 3) := by decide +kernel
theorem dX4_init_4 : decode cX4_init 4 = .ok (.return_, 1) := by decide +kernel
theorem dX4_forgivesAll_0 : decode cX4_forgivesAll 0 = .ok (.iconst 1, 1) := by decide +kernel
theorem dX4_forgivesAll_1 : decode cX4_forgivesAll 1 = .ok (.ireturn, 1) := by decide +kernel
theorem dX5_init_0 : decode cX5_init 0 = .ok (.aload_n 0, 1) := by decide +kernel
theorem dX5_init_1 : decode cX5_init 1 = .ok (.invokespecial 3, 3) := by decide +kernel
theorem dX5_init_4 : decode cX5_init 4 = .ok (.aload_n 0, 1) := by decide +kernel
theorem dX5_init_5 : decode cX5_init 5 = .ok (.bipush 40, 2) := by decide +kernel
theorem dX5_init_7 : decode cX5_init 7 = .ok (.newarray .int, 2) := by decide +kernel
theorem dX5_init_9 : decode cX5_init 9 = .ok (.putfield 9, 3) := by decide +kernel
theorem dX5_init_12 : decode cX5_init 12 = .ok (.return_, 1) := by decide +kernel
theorem dX5_faultOf_0 : decode cX5_faultOf 0 = .ok (.aload_n 0, 1) := by decide +kernel
theorem dX5_faultOf_1 : decode cX5_faultOf 1 = .ok (.iconst 0, 1) := by decide +kernel
theorem dX5_faultOf_2 : decode cX5_faultOf 2 = .ok (.putfield 15, 3) := by decide +kernel
theorem dX5_faultOf_5 : decode cX5_faultOf 5 = .ok (.iconst 0, 1) := by decide +kernel
theorem dX5_faultOf_6 : decode cX5_faultOf 6 = .ok (.istore_n 2, 1) := by decide +kernel
theorem dX5_faultOf_7 : decode cX5_faultOf 7 = .ok (.iload_n 2, 1) := by decide +kernel
theorem dX5_faultOf_8 : decode cX5_faultOf 8 = .ok (.aload_n 1, 1) := by decide +kernel
theorem dX5_faultOf_9 : decode cX5_faultOf 9 = .ok (.getfield 19, 3) := by decide +kernel
theorem dX5_faultOf_12 : decode cX5_faultOf 12 = .ok (.if_icmp .ge 69, 3) := by decide +kernel
theorem dX5_faultOf_15 : decode cX5_faultOf 15 = .ok (.aload_n 1, 1) := by decide +kernel
theorem dX5_faultOf_16 : decode cX5_faultOf 16 = .ok (.getfield 24, 3) := by decide +kernel
theorem dX5_faultOf_19 : decode cX5_faultOf 19 = .ok (.iload_n 2, 1) := by decide +kernel
theorem dX5_faultOf_20 : decode cX5_faultOf 20 = .ok (.iaload, 1) := by decide +kernel
theorem dX5_faultOf_21 : decode cX5_faultOf 21 = .ok (.istore_n 3, 1) := by decide +kernel
theorem dX5_faultOf_22 : decode cX5_faultOf 22 = .ok (.iload_n 3, 1) := by decide +kernel
theorem dX5_faultOf_23 : decode cX5_faultOf 23 = .ok (.bipush 32, 2) := by decide +kernel
theorem dX5_faultOf_25 : decode cX5_faultOf 25 = .ok (.if_icmp .ne 15, 3) := by decide +kernel
theorem dX5_faultOf_28 : decode cX5_faultOf 28 = .ok (.aload_n 0, 1) := by decide +kernel
theorem dX5_faultOf_29 : decode cX5_faultOf 29 = .ok (.getfield 15, 3) := by decide +kernel
theorem dX5_faultOf_32 : decode cX5_faultOf 32 = .ok (.iconst 5, 1) := by decide +kernel
theorem dX5_faultOf_33 : decode cX5_faultOf 33 = .ok (.irem, 1) := by decide +kernel
theorem dX5_faultOf_34 : decode cX5_faultOf 34 = .ok (.ifCond .ne 6, 3) := by decide +kernel
theorem dX5_faultOf_37 : decode cX5_faultOf 37 = .ok (.goto 38, 3) := by decide +kernel
theorem dX5_faultOf_40 : decode cX5_faultOf 40 = .ok (.aload_n 0, 1) := by decide +kernel
theorem dX5_faultOf_41 : decode cX5_faultOf 41 = .ok (.iload_n 3, 1) := by decide +kernel
theorem dX5_faultOf_42 : decode cX5_faultOf 42 = .ok (.invokevirtual 27, 3) := by decide +kernel
theorem dX5_faultOf_45 : decode cX5_faultOf 45 = .ok (.istore 4, 2) := by decide +kernel
theorem dX5_faultOf_47 : decode cX5_faultOf 47 = .ok (.iload 4, 2) := by decide +kernel
theorem dX5_faultOf_49 : decode cX5_faultOf 49 = .ok (.ifCond .ge 5, 3) := by decide +kernel
theorem dX5_faultOf_52 : decode cX5_faultOf 52 = .ok (.iload_n 2, 1) := by decide +kernel
theorem dX5_faultOf_53 : decode cX5_faultOf 53 = .ok (.ireturn, 1) := by decide +kernel
theorem dX5_faultOf_54 : decode cX5_faultOf 54 = .ok (.aload_n 0, 1) := by decide +kernel
theorem dX5_faultOf_55 : decode cX5_faultOf 55 = .ok (.getfield 9, 3) := by decide +kernel
theorem dX5_faultOf_58 : decode cX5_faultOf 58 = .ok (.aload_n 0, 1) := by decide +kernel
theorem dX5_faultOf_59 : decode cX5_faultOf 59 = .ok (.getfield 15, 3) := by decide +kernel
theorem dX5_faultOf_62 : decode cX5_faultOf 62 = .ok (.iload 4, 2) := by decide +kernel
theorem dX5_faultOf_64 : decode cX5_faultOf 64 = .ok (.iastore, 1) := by decide +kernel
theorem dX5_faultOf_65 : decode cX5_faultOf 65 = .ok (.aload_n 0, 1) := by decide +kernel
theorem dX5_faultOf_66 : decode cX5_faultOf 66 = .ok (.dup, 1) := by decide +kernel
theorem dX5_faultOf_67 : decode cX5_faultOf 67 = .ok (.getfield 15, 3) := by decide +kernel
theorem dX5_faultOf_70 : decode cX5_faultOf 70 = .ok (.iconst 1, 1) := by decide +kernel
theorem dX5_faultOf_71 : decode cX5_faultOf 71 = .ok (.iadd, 1) := by decide +kernel
theorem dX5_faultOf_72 : decode cX5_faultOf 72 = .ok (.putfield 15, 3) := by decide +kernel
theorem dX5_faultOf_75 : decode cX5_faultOf 75 = .ok (.iinc 2 1, 3) := by decide +kernel
theorem dX5_faultOf_78 : decode cX5_faultOf 78 = .ok (.goto (-71), 3) := by decide +kernel
theorem dX5_faultOf_81 : decode cX5_faultOf 81 = .ok (.aload_n 0, 1) := by decide +kernel
theorem dX5_faultOf_82 : decode cX5_faultOf 82 = .ok (.getfield 15, 3) := by decide +kernel
theorem dX5_faultOf_85 : decode cX5_faultOf 85 = .ok (.iconst 5, 1) := by decide +kernel
theorem dX5_faultOf_86 : decode cX5_faultOf 86 = .ok (.irem, 1) := by decide +kernel
theorem dX5_faultOf_87 : decode cX5_faultOf 87 = .ok (.ifCond .ne 15, 3) := by decide +kernel
theorem dX5_faultOf_90 : decode cX5_faultOf 90 = .ok (.aload_n 0, 1) := by decide +kernel
theorem dX5_faultOf_91 : decode cX5_faultOf 91 = .ok (.invokevirtual 31, 3) := by decide +kernel
theorem dX5_faultOf_94 : decode cX5_faultOf 94 = .ok (.iconst 2, 1) := by decide +kernel
theorem dX5_faultOf_95 : decode cX5_faultOf 95 = .ok (.if_icmp .lt 7, 3) := by decide +kernel
theorem dX5_faultOf_98 : decode cX5_faultOf 98 = .ok (.iconst 1, 1) := by decide +kernel
theorem dX5_faultOf_99 : decode cX5_faultOf 99 = .ok (.goto 4, 3) := by decide +kernel
theorem dX5_faultOf_102 : decode cX5_faultOf 102 = .ok (.iconst 0, 1) := by decide +kernel
theorem dX5_faultOf_103 : decode cX5_faultOf 103 = .ok (.istore_n 2, 1) := by decide +kernel
theorem dX5_faultOf_104 : decode cX5_faultOf 104 = .ok (.iload_n 2, 1) := by decide +kernel
theorem dX5_faultOf_105 : decode cX5_faultOf 105 = .ok (.ifCond .eq 8, 3) := by decide +kernel
theorem dX5_faultOf_108 : decode cX5_faultOf 108 = .ok (.bipush (-9), 2) := by decide +kernel
theorem dX5_faultOf_110 : decode cX5_faultOf 110 = .ok (.goto 7, 3) := by decide +kernel
theorem dX5_faultOf_113 : decode cX5_faultOf 113 = .ok (.aload_n 1, 1) := by decide +kernel
theorem dX5_faultOf_114 : decode cX5_faultOf 114 = .ok (.getfield 19, 3) := by decide +kernel
theorem dX5_faultOf_117 : decode cX5_faultOf 117 = .ok (.ireturn, 1) := by decide +kernel
theorem dX5_howManyPeople_0 : decode cX5_howManyPeople 0 = .ok (.aload_n 0, 1) := by decide +kernel
theorem dX5_howManyPeople_1 : decode cX5_howManyPeople 1 = .ok (.getfield 15, 3) := by decide +kernel
theorem dX5_howManyPeople_4 : decode cX5_howManyPeople 4 = .ok (.iconst 5, 1) := by decide +kernel
theorem dX5_howManyPeople_5 : decode cX5_howManyPeople 5 = .ok (.idiv, 1) := by decide +kernel
theorem dX5_howManyPeople_6 : decode cX5_howManyPeople 6 = .ok (.iconst 1, 1) := by decide +kernel
theorem dX5_howManyPeople_7 : decode cX5_howManyPeople 7 = .ok (.isub, 1) := by decide +kernel
theorem dX5_howManyPeople_8 : decode cX5_howManyPeople 8 = .ok (.ireturn, 1) := by decide +kernel
theorem dX5_valueOf_0 : decode cX5_valueOf 0 = .ok (.aload_n 0, 1) := by decide +kernel
theorem dX5_valueOf_1 : decode cX5_valueOf 1 = .ok (.getfield 15, 3) := by decide +kernel
theorem dX5_valueOf_4 : decode cX5_valueOf 4 = .ok (.aload_n 0, 1) := by decide +kernel
theorem dX5_valueOf_5 : decode cX5_valueOf 5 = .ok (.getfield 9, 3) := by decide +kernel
theorem dX5_valueOf_8 : decode cX5_valueOf 8 = .ok (.arraylength, 1) := by decide +kernel
theorem dX5_valueOf_9 : decode cX5_valueOf 9 = .ok (.if_icmp .lt 5, 3) := by decide +kernel
theorem dX5_valueOf_12 : decode cX5_valueOf 12 = .ok (.iconst (-1), 1) := by decide +kernel
theorem dX5_valueOf_13 : decode cX5_valueOf 13 = .ok (.ireturn, 1) := by decide +kernel
theorem dX5_valueOf_14 : decode cX5_valueOf 14 = .ok (.aload_n 0, 1) := by decide +kernel
theorem dX5_valueOf_15 : decode cX5_valueOf 15 = .ok (.getfield 15, 3) := by decide +kernel
theorem dX5_valueOf_18 : decode cX5_valueOf 18 = .ok (.iconst 5, 1) := by decide +kernel
theorem dX5_valueOf_19 : decode cX5_valueOf 19 = .ok (.if_icmp .ge 10, 3) := by decide +kernel
theorem dX5_valueOf_22 : decode cX5_valueOf 22 = .ok (.iload_n 1, 1) := by decide +kernel
theorem dX5_valueOf_23 : decode cX5_valueOf 23 = .ok (.bipush 9, 2) := by decide +kernel
theorem dX5_valueOf_25 : decode cX5_valueOf 25 = .ok (.invokestatic 35, 3) := by decide +kernel
theorem dX5_valueOf_28 : decode cX5_valueOf 28 = .ok (.ireturn, 1) := by decide +kernel
theorem dX5_valueOf_29 : decode cX5_valueOf 29 = .ok (.aload_n 0, 1) := by decide +kernel
theorem dX5_valueOf_30 : decode cX5_valueOf 30 = .ok (.getfield 15, 3) := by decide +kernel
theorem dX5_valueOf_33 : decode cX5_valueOf 33 = .ok (.iconst 5, 1) := by decide +kernel
theorem dX5_valueOf_34 : decode cX5_valueOf 34 = .ok (.irem, 1) := by decide +kernel
theorem dX5_valueOf_35 : decode cX5_valueOf 35 = .ok (.istore_n 2, 1) := by decide +kernel
theorem dX5_valueOf_36 : decode cX5_valueOf 36 = .ok (.iload_n 2, 1) := by decide +kernel
theorem dX5_valueOf_37 : decode cX5_valueOf 37 = .ok (.ifCond .ne 8, 3) := by decide +kernel
theorem dX5_valueOf_40 : decode cX5_valueOf 40 = .ok (.iload_n 1, 1) := by decide +kernel
theorem dX5_valueOf_41 : decode cX5_valueOf 41 = .ok (.invokestatic 39, 3) := by decide +kernel
theorem dX5_valueOf_44 : decode cX5_valueOf 44 = .ok (.ireturn, 1) := by decide +kernel
theorem dX5_valueOf_45 : decode cX5_valueOf 45 = .ok (.iload_n 1, 1) := by decide +kernel
theorem dX5_valueOf_46 : decode cX5_valueOf 46 = .ok (.iload_n 2, 1) := by decide +kernel
theorem dX5_valueOf_47 : decode cX5_valueOf 47 = .ok (.iconst 4, 1) := by decide +kernel
theorem dX5_valueOf_48 : decode cX5_valueOf 48 = .ok (.if_icmp .ne 7, 3) := by decide +kernel
theorem dX5_valueOf_51 : decode cX5_valueOf 51 = .ok (.iconst 4, 1) := by decide +kernel
theorem dX5_valueOf_52 : decode cX5_valueOf 52 = .ok (.goto 5, 3) := by decide +kernel
theorem dX5_valueOf_55 : decode cX5_valueOf 55 = .ok (.bipush 9, 2) := by decide +kernel
theorem dX5_valueOf_57 : decode cX5_valueOf 57 = .ok (.invokestatic 35, 3) := by decide +kernel
theorem dX5_valueOf_60 : decode cX5_valueOf 60 = .ok (.ireturn, 1) := by decide +kernel
theorem dX5_figure_0 : decode cX5_figure 0 = .ok (.iload_n 0, 1) := by decide +kernel
theorem dX5_figure_1 : decode cX5_figure 1 = .ok (.bipush 48, 2) := by decide +kernel
theorem dX5_figure_3 : decode cX5_figure 3 = .ok (.isub, 1) := by decide +kernel
theorem dX5_figure_4 : decode cX5_figure 4 = .ok (.istore_n 2, 1) := by decide +kernel
theorem dX5_figure_5 : decode cX5_figure 5 = .ok (.iload_n 2, 1) := by decide +kernel
theorem dX5_figure_6 : decode cX5_figure 6 = .ok (.ifCond .lt 12, 3) := by decide +kernel
theorem dX5_figure_9 : decode cX5_figure 9 = .ok (.iload_n 2, 1) := by decide +kernel
theorem dX5_figure_10 : decode cX5_figure 10 = .ok (.iload_n 1, 1) := by decide +kernel
theorem dX5_figure_11 : decode cX5_figure 11 = .ok (.if_icmp .gt 7, 3) := by decide +kernel
theorem dX5_figure_14 : decode cX5_figure 14 = .ok (.iload_n 2, 1) := by decide +kernel
theorem dX5_figure_15 : decode cX5_figure 15 = .ok (.goto 4, 3) := by decide +kernel
theorem dX5_figure_18 : decode cX5_figure 18 = .ok (.iconst (-1), 1) := by decide +kernel
theorem dX5_figure_19 : decode cX5_figure 19 = .ok (.ireturn, 1) := by decide +kernel
theorem dX5_kindOf_0 : decode cX5_kindOf 0 = .ok (.iconst 0, 1) := by decide +kernel
theorem dX5_kindOf_1 : decode cX5_kindOf 1 = .ok (.istore_n 1, 1) := by decide +kernel
theorem dX5_kindOf_2 : decode cX5_kindOf 2 = .ok (.iload_n 1, 1) := by decide +kernel
theorem dX5_kindOf_3 : decode cX5_kindOf 3 = .ok (.getstatic 42, 3) := by decide +kernel
theorem dX5_kindOf_6 : decode cX5_kindOf 6 = .ok (.arraylength, 1) := by decide +kernel
theorem dX5_kindOf_7 : decode cX5_kindOf 7 = .ok (.if_icmp .ge 20, 3) := by decide +kernel
theorem dX5_kindOf_10 : decode cX5_kindOf 10 = .ok (.getstatic 42, 3) := by decide +kernel
theorem dX5_kindOf_13 : decode cX5_kindOf 13 = .ok (.iload_n 1, 1) := by decide +kernel
theorem dX5_kindOf_14 : decode cX5_kindOf 14 = .ok (.caload, 1) := by decide +kernel
theorem dX5_kindOf_15 : decode cX5_kindOf 15 = .ok (.iload_n 0, 1) := by decide +kernel
theorem dX5_kindOf_16 : decode cX5_kindOf 16 = .ok (.if_icmp .ne 5, 3) := by decide +kernel
theorem dX5_kindOf_19 : decode cX5_kindOf 19 = .ok (.iload_n 1, 1) := by decide +kernel
theorem dX5_kindOf_20 : decode cX5_kindOf 20 = .ok (.ireturn, 1) := by decide +kernel
theorem dX5_kindOf_21 : decode cX5_kindOf 21 = .ok (.iinc 1 1, 3) := by decide +kernel
theorem dX5_kindOf_24 : decode cX5_kindOf 24 = .ok (.goto (-22), 3) := by decide +kernel
theorem dX5_kindOf_27 : decode cX5_kindOf 27 = .ok (.iconst (-1), 1) := by decide +kernel
theorem dX5_kindOf_28 : decode cX5_kindOf 28 = .ok (.ireturn, 1) := by decide +kernel
theorem dX6_init_0 : decode cX6_init 0 = .ok (.aload_n 0, 1) := by decide +kernel
theorem dX6_init_1 : decode cX6_init 1 = .ok (.invokespecial 1, 3) := by decide +kernel
theorem dX6_init_4 : decode cX6_init 4 = .ok (.return_, 1) := by decide +kernel
theorem dX6_seenAs_0 : decode cX6_seenAs 0 = .ok (.iload_n 1, 1) := by decide +kernel
theorem dX6_seenAs_1 : decode cX6_seenAs 1 = .ok (.iconst 2, 1) := by decide +kernel
theorem dX6_seenAs_2 : decode cX6_seenAs 2 = .ok (.if_icmp .le 9, 3) := by decide +kernel
theorem dX6_seenAs_5 : decode cX6_seenAs 5 = .ok (.iload_n 1, 1) := by decide +kernel
theorem dX6_seenAs_6 : decode cX6_seenAs 6 = .ok (.iconst 2, 1) := by decide +kernel
theorem dX6_seenAs_7 : decode cX6_seenAs 7 = .ok (.isub, 1) := by decide +kernel
theorem dX6_seenAs_8 : decode cX6_seenAs 8 = .ok (.goto 4, 3) := by decide +kernel
theorem dX6_seenAs_11 : decode cX6_seenAs 11 = .ok (.iconst 0, 1) := by decide +kernel
theorem dX6_seenAs_12 : decode cX6_seenAs 12 = .ok (.ireturn, 1) := by decide +kernel
theorem dX7_init_0 : decode cX7_init 0 = .ok (.aload_n 0, 1) := by decide +kernel
theorem dX7_init_1 : decode cX7_init 1 = .ok (.invokespecial 1, 3) := by decide +kernel
theorem dX7_init_4 : decode cX7_init 4 = .ok (.aload_n 0, 1) := by decide +kernel
theorem dX7_init_5 : decode cX7_init 5 = .ok (.iconst (-1), 1) := by decide +kernel
theorem dX7_init_6 : decode cX7_init 6 = .ok (.putfield 7, 3) := by decide +kernel
theorem dX7_init_9 : decode cX7_init 9 = .ok (.aload_n 0, 1) := by decide +kernel
theorem dX7_init_10 : decode cX7_init 10 = .ok (.iconst 0, 1) := by decide +kernel
theorem dX7_init_11 : decode cX7_init 11 = .ok (.iload_n 1, 1) := by decide +kernel
theorem dX7_init_12 : decode cX7_init 12 = .ok (.invokestatic 13, 3) := by decide +kernel
theorem dX7_init_15 : decode cX7_init 15 = .ok (.newarray .int, 2) := by decide +kernel
theorem dX7_init_17 : decode cX7_init 17 = .ok (.putfield 19, 3) := by decide +kernel
theorem dX7_init_20 : decode cX7_init 20 = .ok (.return_, 1) := by decide +kernel
theorem dX7_isThere_0 : decode cX7_isThere 0 = .ok (.aload_n 0, 1) := by decide +kernel
theorem dX7_isThere_1 : decode cX7_isThere 1 = .ok (.getfield 7, 3) := by decide +kernel
theorem dX7_isThere_4 : decode cX7_isThere 4 = .ok (.ifCond .lt 7, 3) := by decide +kernel
theorem dX7_isThere_7 : decode cX7_isThere 7 = .ok (.iconst 1, 1) := by decide +kernel
theorem dX7_isThere_8 : decode cX7_isThere 8 = .ok (.goto 4, 3) := by decide +kernel
theorem dX7_isThere_11 : decode cX7_isThere 11 = .ok (.iconst 0, 1) := by decide +kernel
theorem dX7_isThere_12 : decode cX7_isThere 12 = .ok (.ireturn, 1) := by decide +kernel
theorem dX7_has_0 : decode cX7_has 0 = .ok (.iload_n 1, 1) := by decide +kernel
theorem dX7_has_1 : decode cX7_has 1 = .ok (.ifCond .lt 15, 3) := by decide +kernel
theorem dX7_has_4 : decode cX7_has 4 = .ok (.iload_n 1, 1) := by decide +kernel
theorem dX7_has_5 : decode cX7_has 5 = .ok (.aload_n 0, 1) := by decide +kernel
theorem dX7_has_6 : decode cX7_has 6 = .ok (.getfield 7, 3) := by decide +kernel
theorem dX7_has_9 : decode cX7_has 9 = .ok (.if_icmp .ge 7, 3) := by decide +kernel
theorem dX7_has_12 : decode cX7_has 12 = .ok (.iconst 1, 1) := by decide +kernel
theorem dX7_has_13 : decode cX7_has 13 = .ok (.goto 4, 3) := by decide +kernel
theorem dX7_has_16 : decode cX7_has 16 = .ok (.iconst 0, 1) := by decide +kernel
theorem dX7_has_17 : decode cX7_has 17 = .ok (.ireturn, 1) := by decide +kernel
theorem dX7_hasRun_0 : decode cX7_hasRun 0 = .ok (.iload_n 1, 1) := by decide +kernel
theorem dX7_hasRun_1 : decode cX7_hasRun 1 = .ok (.ifCond .lt 29, 3) := by decide +kernel
theorem dX7_hasRun_4 : decode cX7_hasRun 4 = .ok (.iload_n 2, 1) := by decide +kernel
theorem dX7_hasRun_5 : decode cX7_hasRun 5 = .ok (.ifCond .lt 25, 3) := by decide +kernel
theorem dX7_hasRun_8 : decode cX7_hasRun 8 = .ok (.iload_n 2, 1) := by decide +kernel
theorem dX7_hasRun_9 : decode cX7_hasRun 9 = .ok (.aload_n 0, 1) := by decide +kernel
theorem dX7_hasRun_10 : decode cX7_hasRun 10 = .ok (.getfield 7, 3) := by decide +kernel
theorem dX7_hasRun_13 : decode cX7_hasRun 13 = .ok (.if_icmp .gt 17, 3) := by decide +kernel
theorem dX7_hasRun_16 : decode cX7_hasRun 16 = .ok (.iload_n 1, 1) := by decide +kernel
theorem dX7_hasRun_17 : decode cX7_hasRun 17 = .ok (.aload_n 0, 1) := by decide +kernel
theorem dX7_hasRun_18 : decode cX7_hasRun 18 = .ok (.getfield 7, 3) := by decide +kernel
theorem dX7_hasRun_21 : decode cX7_hasRun 21 = .ok (.iload_n 2, 1) := by decide +kernel
theorem dX7_hasRun_22 : decode cX7_hasRun 22 = .ok (.isub, 1) := by decide +kernel
theorem dX7_hasRun_23 : decode cX7_hasRun 23 = .ok (.if_icmp .gt 7, 3) := by decide +kernel
theorem dX7_hasRun_26 : decode cX7_hasRun 26 = .ok (.iconst 1, 1) := by decide +kernel
theorem dX7_hasRun_27 : decode cX7_hasRun 27 = .ok (.goto 4, 3) := by decide +kernel
theorem dX7_hasRun_30 : decode cX7_hasRun 30 = .ok (.iconst 0, 1) := by decide +kernel
theorem dX7_hasRun_31 : decode cX7_hasRun 31 = .ok (.ireturn, 1) := by decide +kernel
theorem dX7_open_0 : decode cX7_open 0 = .ok (.aload_n 0, 1) := by decide +kernel
theorem dX7_open_1 : decode cX7_open 1 = .ok (.iload_n 1, 1) := by decide +kernel
theorem dX7_open_2 : decode cX7_open 2 = .ok (.aload_n 0, 1) := by decide +kernel
theorem dX7_open_3 : decode cX7_open 3 = .ok (.getfield 19, 3) := by decide +kernel
theorem dX7_open_6 : decode cX7_open 6 = .ok (.arraylength, 1) := by decide +kernel
theorem dX7_open_7 : decode cX7_open 7 = .ok (.invokestatic 23, 3) := by decide +kernel
theorem dX7_open_10 : decode cX7_open 10 = .ok (.putfield 7, 3) := by decide +kernel
theorem dX7_open_13 : decode cX7_open 13 = .ok (.aload_n 0, 1) := by decide +kernel
theorem dX7_open_14 : decode cX7_open 14 = .ok (.getfield 19, 3) := by decide +kernel
theorem dX7_open_17 : decode cX7_open 17 = .ok (.iload_n 2, 1) := by decide +kernel
theorem dX7_open_18 : decode cX7_open 18 = .ok (.invokestatic 26, 3) := by decide +kernel
theorem dX7_open_21 : decode cX7_open 21 = .ok (.return_, 1) := by decide +kernel
theorem dX7_close_0 : decode cX7_close 0 = .ok (.aload_n 0, 1) := by decide +kernel
theorem dX7_close_1 : decode cX7_close 1 = .ok (.iconst (-1), 1) := by decide +kernel
theorem dX7_close_2 : decode cX7_close 2 = .ok (.putfield 7, 3) := by decide +kernel
theorem dX7_close_5 : decode cX7_close 5 = .ok (.return_, 1) := by decide +kernel
theorem dX7_total_0 : decode cX7_total 0 = .ok (.lconst 0, 1) := by decide +kernel
theorem dX7_total_1 : decode cX7_total 1 = .ok (.lstore_n 1, 1) := by decide +kernel
theorem dX7_total_2 : decode cX7_total 2 = .ok (.iconst 0, 1) := by decide +kernel
theorem dX7_total_3 : decode cX7_total 3 = .ok (.istore_n 3, 1) := by decide +kernel
theorem dX7_total_4 : decode cX7_total 4 = .ok (.iload_n 3, 1) := by decide +kernel
theorem dX7_total_5 : decode cX7_total 5 = .ok (.aload_n 0, 1) := by decide +kernel
theorem dX7_total_6 : decode cX7_total 6 = .ok (.getfield 7, 3) := by decide +kernel
theorem dX7_total_9 : decode cX7_total 9 = .ok (.if_icmp .ge 19, 3) := by decide +kernel
theorem dX7_total_12 : decode cX7_total 12 = .ok (.lload_n 1, 1) := by decide +kernel
theorem dX7_total_13 : decode cX7_total 13 = .ok (.aload_n 0, 1) := by decide +kernel
theorem dX7_total_14 : decode cX7_total 14 = .ok (.getfield 19, 3) := by decide +kernel
theorem dX7_total_17 : decode cX7_total 17 = .ok (.iload_n 3, 1) := by decide +kernel
theorem dX7_total_18 : decode cX7_total 18 = .ok (.iaload, 1) := by decide +kernel
theorem dX7_total_19 : decode cX7_total 19 = .ok (.i2l, 1) := by decide +kernel
theorem dX7_total_20 : decode cX7_total 20 = .ok (.ladd, 1) := by decide +kernel
theorem dX7_total_21 : decode cX7_total 21 = .ok (.lstore_n 1, 1) := by decide +kernel
theorem dX7_total_22 : decode cX7_total 22 = .ok (.iinc 3 1, 3) := by decide +kernel
theorem dX7_total_25 : decode cX7_total 25 = .ok (.goto (-21), 3) := by decide +kernel
theorem dX7_total_28 : decode cX7_total 28 = .ok (.lload_n 1, 1) := by decide +kernel
theorem dX7_total_29 : decode cX7_total 29 = .ok (.lreturn, 1) := by decide +kernel
theorem dX7_digestedInto_0 : decode cX7_digestedInto 0 = .ok (.ldc2_w 32, 3) := by decide +kernel
theorem dX7_digestedInto_3 : decode cX7_digestedInto 3 = .ok (.lload_n 1, 1) := by decide +kernel
theorem dX7_digestedInto_4 : decode cX7_digestedInto 4 = .ok (.lmul, 1) := by decide +kernel
theorem dX7_digestedInto_5 : decode cX7_digestedInto 5 = .ok (.aload_n 0, 1) := by decide +kernel
theorem dX7_digestedInto_6 : decode cX7_digestedInto 6 = .ok (.getfield 7, 3) := by decide +kernel
theorem dX7_digestedInto_9 : decode cX7_digestedInto 9 = .ok (.i2l, 1) := by decide +kernel
theorem dX7_digestedInto_10 : decode cX7_digestedInto 10 = .ok (.ladd, 1) := by decide +kernel
theorem dX7_digestedInto_11 : decode cX7_digestedInto 11 = .ok (.lstore_n 3, 1) := by decide +kernel
theorem dX7_digestedInto_12 : decode cX7_digestedInto 12 = .ok (.iconst 0, 1) := by decide +kernel
theorem dX7_digestedInto_13 : decode cX7_digestedInto 13 = .ok (.istore 5, 2) := by decide +kernel
theorem dX7_digestedInto_15 : decode cX7_digestedInto 15 = .ok (.iload 5, 2) := by decide +kernel
theorem dX7_digestedInto_17 : decode cX7_digestedInto 17 = .ok (.aload_n 0, 1) := by decide +kernel
theorem dX7_digestedInto_18 : decode cX7_digestedInto 18 = .ok (.getfield 7, 3) := by decide +kernel
theorem dX7_digestedInto_21 : decode cX7_digestedInto 21 = .ok (.if_icmp .ge 24, 3) := by decide +kernel
theorem dX7_digestedInto_24 : decode cX7_digestedInto 24 = .ok (.ldc2_w 32, 3) := by decide +kernel
theorem dX7_digestedInto_27 : decode cX7_digestedInto 27 = .ok (.lload_n 3, 1) := by decide +kernel
theorem dX7_digestedInto_28 : decode cX7_digestedInto 28 = .ok (.lmul, 1) := by decide +kernel
theorem dX7_digestedInto_29 : decode cX7_digestedInto 29 = .ok (.aload_n 0, 1) := by decide +kernel
theorem dX7_digestedInto_30 : decode cX7_digestedInto 30 = .ok (.getfield 19, 3) := by decide +kernel
theorem dX7_digestedInto_33 : decode cX7_digestedInto 33 = .ok (.iload 5, 2) := by decide +kernel
theorem dX7_digestedInto_35 : decode cX7_digestedInto 35 = .ok (.iaload, 1) := by decide +kernel
theorem dX7_digestedInto_36 : decode cX7_digestedInto 36 = .ok (.i2l, 1) := by decide +kernel
theorem dX7_digestedInto_37 : decode cX7_digestedInto 37 = .ok (.ladd, 1) := by decide +kernel
theorem dX7_digestedInto_38 : decode cX7_digestedInto 38 = .ok (.lstore_n 3, 1) := by decide +kernel
theorem dX7_digestedInto_39 : decode cX7_digestedInto 39 = .ok (.iinc 5 1, 3) := by decide +kernel
theorem dX7_digestedInto_42 : decode cX7_digestedInto 42 = .ok (.goto (-27), 3) := by decide +kernel
theorem dX7_digestedInto_45 : decode cX7_digestedInto 45 = .ok (.lload_n 3, 1) := by decide +kernel
theorem dX7_digestedInto_46 : decode cX7_digestedInto 46 = .ok (.lreturn, 1) := by decide +kernel
theorem dX8_init_0 : decode cX8_init 0 = .ok (.aload_n 0, 1) := by decide +kernel
theorem dX8_init_1 : decode cX8_init 1 = .ok (.invokespecial 1, 3) := by decide +kernel
theorem dX8_init_4 : decode cX8_init 4 = .ok (.return_, 1) := by decide +kernel
theorem dX8_forgiveness_0 : decode cX8_forgiveness 0 = .ok (.iload_n 1, 1) := by decide +kernel
theorem dX8_forgiveness_1 : decode cX8_forgiveness 1 = .ok (.iconst 2, 1) := by decide +kernel
theorem dX8_forgiveness_2 : decode cX8_forgiveness 2 = .ok (.irem, 1) := by decide +kernel
theorem dX8_forgiveness_3 : decode cX8_forgiveness 3 = .ok (.ifCond .ne 7, 3) := by decide +kernel
theorem dX8_forgiveness_6 : decode cX8_forgiveness 6 = .ok (.iconst 1, 1) := by decide +kernel
theorem dX8_forgiveness_7 : decode cX8_forgiveness 7 = .ok (.goto 4, 3) := by decide +kernel
theorem dX8_forgiveness_10 : decode cX8_forgiveness 10 = .ok (.iconst 0, 1) := by decide +kernel
theorem dX8_forgiveness_11 : decode cX8_forgiveness 11 = .ok (.ireturn, 1) := by decide +kernel
theorem dJ9_max_7cf53_0 : decode cJ9_max_7cf53 0 = .ok (.iload_n 0, 1) := by decide +kernel
theorem dJ9_max_7cf53_1 : decode cJ9_max_7cf53 1 = .ok (.iload_n 1, 1) := by decide +kernel
theorem dJ9_max_7cf53_2 : decode cJ9_max_7cf53 2 = .ok (.if_icmp .lt 7, 3) := by decide +kernel
theorem dJ9_max_7cf53_5 : decode cJ9_max_7cf53 5 = .ok (.iload_n 0, 1) := by decide +kernel
theorem dJ9_max_7cf53_6 : decode cJ9_max_7cf53 6 = .ok (.goto 4, 3) := by decide +kernel
theorem dJ9_max_7cf53_9 : decode cJ9_max_7cf53 9 = .ok (.iload_n 1, 1) := by decide +kernel
theorem dJ9_max_7cf53_10 : decode cJ9_max_7cf53 10 = .ok (.ireturn, 1) := by decide +kernel
theorem dJ9_min_7cf53_0 : decode cJ9_min_7cf53 0 = .ok (.iload_n 0, 1) := by decide +kernel
theorem dJ9_min_7cf53_1 : decode cJ9_min_7cf53 1 = .ok (.iload_n 1, 1) := by decide +kernel
theorem dJ9_min_7cf53_2 : decode cJ9_min_7cf53 2 = .ok (.if_icmp .gt 7, 3) := by decide +kernel
theorem dJ9_min_7cf53_5 : decode cJ9_min_7cf53 5 = .ok (.iload_n 0, 1) := by decide +kernel
theorem dJ9_min_7cf53_6 : decode cJ9_min_7cf53 6 = .ok (.goto 4, 3) := by decide +kernel
theorem dJ9_min_7cf53_9 : decode cJ9_min_7cf53 9 = .ok (.iload_n 1, 1) := by decide +kernel
theorem dJ9_min_7cf53_10 : decode cJ9_min_7cf53 10 = .ok (.ireturn, 1) := by decide +kernel
theorem dJ7_fill_53178_0 : decode cJ7_fill_53178 0 = .ok (.iconst 0, 1) := by decide +kernel
theorem dJ7_fill_53178_1 : decode cJ7_fill_53178 1 = .ok (.istore_n 2, 1) := by decide +kernel
theorem dJ7_fill_53178_2 : decode cJ7_fill_53178 2 = .ok (.aload_n 0, 1) := by decide +kernel
theorem dJ7_fill_53178_3 : decode cJ7_fill_53178 3 = .ok (.arraylength, 1) := by decide +kernel
theorem dJ7_fill_53178_4 : decode cJ7_fill_53178 4 = .ok (.istore_n 3, 1) := by decide +kernel
theorem dJ7_fill_53178_5 : decode cJ7_fill_53178 5 = .ok (.iload_n 2, 1) := by decide +kernel
theorem dJ7_fill_53178_6 : decode cJ7_fill_53178 6 = .ok (.iload_n 3, 1) := by decide +kernel
theorem dJ7_fill_53178_7 : decode cJ7_fill_53178 7 = .ok (.if_icmp .ge 13, 3) := by decide +kernel
theorem dJ7_fill_53178_10 : decode cJ7_fill_53178 10 = .ok (.aload_n 0, 1) := by decide +kernel
theorem dJ7_fill_53178_11 : decode cJ7_fill_53178 11 = .ok (.iload_n 2, 1) := by decide +kernel
theorem dJ7_fill_53178_12 : decode cJ7_fill_53178 12 = .ok (.iload_n 1, 1) := by decide +kernel
theorem dJ7_fill_53178_13 : decode cJ7_fill_53178 13 = .ok (.iastore, 1) := by decide +kernel
theorem dJ7_fill_53178_14 : decode cJ7_fill_53178 14 = .ok (.iinc 2 1, 3) := by decide +kernel
theorem dJ7_fill_53178_17 : decode cJ7_fill_53178 17 = .ok (.goto (-12), 3) := by decide +kernel
theorem dJ7_fill_53178_20 : decode cJ7_fill_53178 20 = .ok (.return_, 1) := by decide +kernel
theorem dX3_init_0 : decode cX3_init 0 = .ok (.aload_n 0, 1) := by decide +kernel
theorem dX3_init_1 : decode cX3_init 1 = .ok (.invokespecial 3, 3) := by decide +kernel
theorem dX3_init_4 : decode cX3_init 4 = .ok (.aload_n 0, 1) := by decide +kernel
theorem dX3_init_5 : decode cX3_init 5 = .ok (.new 9, 3) := by decide +kernel
theorem dX3_init_8 : decode cX3_init 8 = .ok (.dup, 1) := by decide +kernel
theorem dX3_init_9 : decode cX3_init 9 = .ok (.invokespecial 11, 3) := by decide +kernel
theorem dX3_init_12 : decode cX3_init 12 = .ok (.putfield 12, 3) := by decide +kernel
theorem dX3_init_15 : decode cX3_init 15 = .ok (.aload_n 0, 1) := by decide +kernel
theorem dX3_init_16 : decode cX3_init 16 = .ok (.bipush 7, 2) := by decide +kernel
theorem dX3_init_18 : decode cX3_init 18 = .ok (.newarray .int, 2) := by decide +kernel
theorem dX3_init_20 : decode cX3_init 20 = .ok (.putfield 18, 3) := by decide +kernel
theorem dX3_init_23 : decode cX3_init 23 = .ok (.aload_n 0, 1) := by decide +kernel
theorem dX3_init_24 : decode cX3_init 24 = .ok (.iconst 5, 1) := by decide +kernel
theorem dX3_init_25 : decode cX3_init 25 = .ok (.newarray .int, 2) := by decide +kernel
theorem dX3_init_27 : decode cX3_init 27 = .ok (.putfield 22, 3) := by decide +kernel
theorem dX3_init_30 : decode cX3_init 30 = .ok (.aload_n 0, 1) := by decide +kernel
theorem dX3_init_31 : decode cX3_init 31 = .ok (.bipush 6, 2) := by decide +kernel
theorem dX3_init_33 : decode cX3_init 33 = .ok (.bipush 21, 2) := by decide +kernel
theorem dX3_init_35 : decode cX3_init 35 = .ok (.multianewarray 25 2, 4) := by decide +kernel
theorem dX3_init_39 : decode cX3_init 39 = .ok (.putfield 27, 3) := by decide +kernel
theorem dX3_init_42 : decode cX3_init 42 = .ok (.aload_n 0, 1) := by decide +kernel
theorem dX3_init_43 : decode cX3_init 43 = .ok (.bipush 7, 2) := by decide +kernel
theorem dX3_init_45 : decode cX3_init 45 = .ok (.newarray .int, 2) := by decide +kernel
theorem dX3_init_47 : decode cX3_init 47 = .ok (.putfield 30, 3) := by decide +kernel
theorem dX3_init_50 : decode cX3_init 50 = .ok (.aload_n 0, 1) := by decide +kernel
theorem dX3_init_51 : decode cX3_init 51 = .ok (.iconst 0, 1) := by decide +kernel
theorem dX3_init_52 : decode cX3_init 52 = .ok (.putfield 33, 3) := by decide +kernel
theorem dX3_init_55 : decode cX3_init 55 = .ok (.aload_n 0, 1) := by decide +kernel
theorem dX3_init_56 : decode cX3_init 56 = .ok (.iconst 0, 1) := by decide +kernel
theorem dX3_init_57 : decode cX3_init 57 = .ok (.putfield 37, 3) := by decide +kernel
theorem dX3_init_60 : decode cX3_init 60 = .ok (.aload_n 0, 1) := by decide +kernel
theorem dX3_init_61 : decode cX3_init 61 = .ok (.lconst 0, 1) := by decide +kernel
theorem dX3_init_62 : decode cX3_init 62 = .ok (.putfield 40, 3) := by decide +kernel
theorem dX3_init_65 : decode cX3_init 65 = .ok (.aload_n 0, 1) := by decide +kernel
theorem dX3_init_66 : decode cX3_init 66 = .ok (.lconst 0, 1) := by decide +kernel
theorem dX3_init_67 : decode cX3_init 67 = .ok (.putfield 44, 3) := by decide +kernel
theorem dX3_init_70 : decode cX3_init 70 = .ok (.aload_n 0, 1) := by decide +kernel
theorem dX3_init_71 : decode cX3_init 71 = .ok (.lconst 1, 1) := by decide +kernel
theorem dX3_init_72 : decode cX3_init 72 = .ok (.putfield 47, 3) := by decide +kernel
theorem dX3_init_75 : decode cX3_init 75 = .ok (.return_, 1) := by decide +kernel
theorem dX3_lookAt_0 : decode cX3_lookAt 0 = .ok (.aload_n 0, 1) := by decide +kernel
theorem dX3_lookAt_1 : decode cX3_lookAt 1 = .ok (.getfield 12, 3) := by decide +kernel
theorem dX3_lookAt_4 : decode cX3_lookAt 4 = .ok (.aload_n 1, 1) := by decide +kernel
theorem dX3_lookAt_5 : decode cX3_lookAt 5 = .ok (.invokevirtual 50, 3) := by decide +kernel
theorem dX3_lookAt_8 : decode cX3_lookAt 8 = .ok (.return_, 1) := by decide +kernel
theorem dX3_startFromNow_0 : decode cX3_startFromNow 0 = .ok (.aload_n 0, 1) := by decide +kernel
theorem dX3_startFromNow_1 : decode cX3_startFromNow 1 = .ok (.aload_n 0, 1) := by decide +kernel
theorem dX3_startFromNow_2 : decode cX3_startFromNow 2 = .ok (.getfield 12, 3) := by decide +kernel
theorem dX3_startFromNow_5 : decode cX3_startFromNow 5 = .ok (.getfield 54, 3) := by decide +kernel
theorem dX3_startFromNow_8 : decode cX3_startFromNow 8 = .ok (.putfield 33, 3) := by decide +kernel
theorem dX3_startFromNow_11 : decode cX3_startFromNow 11 = .ok (.iconst 0, 1) := by decide +kernel
theorem dX3_startFromNow_12 : decode cX3_startFromNow 12 = .ok (.istore_n 1, 1) := by decide +kernel
theorem dX3_startFromNow_13 : decode cX3_startFromNow 13 = .ok (.iload_n 1, 1) := by decide +kernel
theorem dX3_startFromNow_14 : decode cX3_startFromNow 14 = .ok (.aload_n 0, 1) := by decide +kernel
theorem dX3_startFromNow_15 : decode cX3_startFromNow 15 = .ok (.getfield 12, 3) := by decide +kernel
theorem dX3_startFromNow_18 : decode cX3_startFromNow 18 = .ok (.getfield 55, 3) := by decide +kernel
theorem dX3_startFromNow_21 : decode cX3_startFromNow 21 = .ok (.if_icmp .ge 38, 3) := by decide +kernel
theorem dX3_startFromNow_24 : decode cX3_startFromNow 24 = .ok (.aload_n 0, 1) := by decide +kernel
theorem dX3_startFromNow_25 : decode cX3_startFromNow 25 = .ok (.getfield 18, 3) := by decide +kernel
theorem dX3_startFromNow_28 : decode cX3_startFromNow 28 = .ok (.iload_n 1, 1) := by decide +kernel
theorem dX3_startFromNow_29 : decode cX3_startFromNow 29 = .ok (.aload_n 0, 1) := by decide +kernel
theorem dX3_startFromNow_30 : decode cX3_startFromNow 30 = .ok (.getfield 12, 3) := by decide +kernel
theorem dX3_startFromNow_33 : decode cX3_startFromNow 33 = .ok (.iload_n 1, 1) := by decide +kernel
theorem dX3_startFromNow_34 : decode cX3_startFromNow 34 = .ok (.invokevirtual 58, 3) := by decide +kernel
theorem dX3_startFromNow_37 : decode cX3_startFromNow 37 = .ok (.iastore, 1) := by decide +kernel
theorem dX3_startFromNow_38 : decode cX3_startFromNow 38 = .ok (.aload_n 0, 1) := by decide +kernel
theorem dX3_startFromNow_39 : decode cX3_startFromNow 39 = .ok (.getfield 30, 3) := by decide +kernel
theorem dX3_startFromNow_42 : decode cX3_startFromNow 42 = .ok (.iload_n 1, 1) := by decide +kernel
theorem dX3_startFromNow_43 : decode cX3_startFromNow 43 = .ok (.aload_n 0, 1) := by decide +kernel
theorem dX3_startFromNow_44 : decode cX3_startFromNow 44 = .ok (.getfield 12, 3) := by decide +kernel
theorem dX3_startFromNow_47 : decode cX3_startFromNow 47 = .ok (.getfield 62, 3) := by decide +kernel
theorem dX3_startFromNow_50 : decode cX3_startFromNow 50 = .ok (.iload_n 1, 1) := by decide +kernel
theorem dX3_startFromNow_51 : decode cX3_startFromNow 51 = .ok (.iaload, 1) := by decide +kernel
theorem dX3_startFromNow_52 : decode cX3_startFromNow 52 = .ok (.iastore, 1) := by decide +kernel
theorem dX3_startFromNow_53 : decode cX3_startFromNow 53 = .ok (.iinc 1 1, 3) := by decide +kernel
theorem dX3_startFromNow_56 : decode cX3_startFromNow 56 = .ok (.goto (-43), 3) := by decide +kernel
theorem dX3_startFromNow_59 : decode cX3_startFromNow 59 = .ok (.return_, 1) := by decide +kernel
theorem dX3_foreseeDay_0 : decode cX3_foreseeDay 0 = .ok (.iconst 0, 1) := by decide +kernel
theorem dX3_foreseeDay_1 : decode cX3_foreseeDay 1 = .ok (.istore_n 1, 1) := by decide +kernel
theorem dX3_foreseeDay_2 : decode cX3_foreseeDay 2 = .ok (.iload_n 1, 1) := by decide +kernel
theorem dX3_foreseeDay_3 : decode cX3_foreseeDay 3 = .ok (.aload_n 0, 1) := by decide +kernel
theorem dX3_foreseeDay_4 : decode cX3_foreseeDay 4 = .ok (.getfield 12, 3) := by decide +kernel
theorem dX3_foreseeDay_7 : decode cX3_foreseeDay 7 = .ok (.getfield 55, 3) := by decide +kernel
theorem dX3_foreseeDay_10 : decode cX3_foreseeDay 10 = .ok (.if_icmp .ge 42, 3) := by decide +kernel
theorem dX3_foreseeDay_13 : decode cX3_foreseeDay 13 = .ok (.aload_n 0, 1) := by decide +kernel
theorem dX3_foreseeDay_14 : decode cX3_foreseeDay 14 = .ok (.getfield 30, 3) := by decide +kernel
theorem dX3_foreseeDay_17 : decode cX3_foreseeDay 17 = .ok (.iload_n 1, 1) := by decide +kernel
theorem dX3_foreseeDay_18 : decode cX3_foreseeDay 18 = .ok (.aload_n 0, 1) := by decide +kernel
theorem dX3_foreseeDay_19 : decode cX3_foreseeDay 19 = .ok (.getfield 12, 3) := by decide +kernel
theorem dX3_foreseeDay_22 : decode cX3_foreseeDay 22 = .ok (.iload_n 1, 1) := by decide +kernel
theorem dX3_foreseeDay_23 : decode cX3_foreseeDay 23 = .ok (.invokevirtual 63, 3) := by decide +kernel
theorem dX3_foreseeDay_26 : decode cX3_foreseeDay 26 = .ok (.aload_n 0, 1) := by decide +kernel
theorem dX3_foreseeDay_27 : decode cX3_foreseeDay 27 = .ok (.getfield 30, 3) := by decide +kernel
theorem dX3_foreseeDay_30 : decode cX3_foreseeDay 30 = .ok (.iload_n 1, 1) := by decide +kernel
theorem dX3_foreseeDay_31 : decode cX3_foreseeDay 31 = .ok (.iaload, 1) := by decide +kernel
theorem dX3_foreseeDay_32 : decode cX3_foreseeDay 32 = .ok (.aload_n 0, 1) := by decide +kernel
theorem dX3_foreseeDay_33 : decode cX3_foreseeDay 33 = .ok (.getfield 18, 3) := by decide +kernel
theorem dX3_foreseeDay_36 : decode cX3_foreseeDay 36 = .ok (.iload_n 1, 1) := by decide +kernel
theorem dX3_foreseeDay_37 : decode cX3_foreseeDay 37 = .ok (.iaload, 1) := by decide +kernel
theorem dX3_foreseeDay_38 : decode cX3_foreseeDay 38 = .ok (.aload_n 0, 1) := by decide +kernel
theorem dX3_foreseeDay_39 : decode cX3_foreseeDay 39 = .ok (.getfield 33, 3) := by decide +kernel
theorem dX3_foreseeDay_42 : decode cX3_foreseeDay 42 = .ok (.invokevirtual 67, 3) := by decide +kernel
theorem dX3_foreseeDay_45 : decode cX3_foreseeDay 45 = .ok (.iastore, 1) := by decide +kernel
theorem dX3_foreseeDay_46 : decode cX3_foreseeDay 46 = .ok (.iinc 1 1, 3) := by decide +kernel
theorem dX3_foreseeDay_49 : decode cX3_foreseeDay 49 = .ok (.goto (-47), 3) := by decide +kernel
theorem dX3_foreseeDay_52 : decode cX3_foreseeDay 52 = .ok (.aload_n 0, 1) := by decide +kernel
theorem dX3_foreseeDay_53 : decode cX3_foreseeDay 53 = .ok (.dup, 1) := by decide +kernel
theorem dX3_foreseeDay_54 : decode cX3_foreseeDay 54 = .ok (.getfield 33, 3) := by decide +kernel
theorem dX3_foreseeDay_57 : decode cX3_foreseeDay 57 = .ok (.iconst 1, 1) := by decide +kernel
theorem dX3_foreseeDay_58 : decode cX3_foreseeDay 58 = .ok (.iadd, 1) := by decide +kernel
theorem dX3_foreseeDay_59 : decode cX3_foreseeDay 59 = .ok (.putfield 33, 3) := by decide +kernel
theorem dX3_foreseeDay_62 : decode cX3_foreseeDay 62 = .ok (.return_, 1) := by decide +kernel
theorem dX3_total_0 : decode cX3_total 0 = .ok (.iconst 0, 1) := by decide +kernel
theorem dX3_total_1 : decode cX3_total 1 = .ok (.istore_n 1, 1) := by decide +kernel
theorem dX3_total_2 : decode cX3_total 2 = .ok (.iconst 0, 1) := by decide +kernel
theorem dX3_total_3 : decode cX3_total 3 = .ok (.istore_n 2, 1) := by decide +kernel
theorem dX3_total_4 : decode cX3_total 4 = .ok (.iload_n 2, 1) := by decide +kernel
theorem dX3_total_5 : decode cX3_total 5 = .ok (.aload_n 0, 1) := by decide +kernel
theorem dX3_total_6 : decode cX3_total 6 = .ok (.getfield 12, 3) := by decide +kernel
theorem dX3_total_9 : decode cX3_total 9 = .ok (.getfield 55, 3) := by decide +kernel
theorem dX3_total_12 : decode cX3_total 12 = .ok (.if_icmp .ge 18, 3) := by decide +kernel
theorem dX3_total_15 : decode cX3_total 15 = .ok (.iload_n 1, 1) := by decide +kernel
theorem dX3_total_16 : decode cX3_total 16 = .ok (.aload_n 0, 1) := by decide +kernel
theorem dX3_total_17 : decode cX3_total 17 = .ok (.getfield 30, 3) := by decide +kernel
theorem dX3_total_20 : decode cX3_total 20 = .ok (.iload_n 2, 1) := by decide +kernel
theorem dX3_total_21 : decode cX3_total 21 = .ok (.iaload, 1) := by decide +kernel
theorem dX3_total_22 : decode cX3_total 22 = .ok (.iadd, 1) := by decide +kernel
theorem dX3_total_23 : decode cX3_total 23 = .ok (.istore_n 1, 1) := by decide +kernel
theorem dX3_total_24 : decode cX3_total 24 = .ok (.iinc 2 1, 3) := by decide +kernel
theorem dX3_total_27 : decode cX3_total 27 = .ok (.goto (-23), 3) := by decide +kernel
theorem dX3_total_30 : decode cX3_total 30 = .ok (.iload_n 1, 1) := by decide +kernel
theorem dX3_total_31 : decode cX3_total 31 = .ok (.ireturn, 1) := by decide +kernel
theorem dX3_howManyAtPeace_0 : decode cX3_howManyAtPeace 0 = .ok (.iconst 0, 1) := by decide +kernel
theorem dX3_howManyAtPeace_1 : decode cX3_howManyAtPeace 1 = .ok (.istore_n 1, 1) := by decide +kernel
theorem dX3_howManyAtPeace_2 : decode cX3_howManyAtPeace 2 = .ok (.iconst 0, 1) := by decide +kernel
theorem dX3_howManyAtPeace_3 : decode cX3_howManyAtPeace 3 = .ok (.istore_n 2, 1) := by decide +kernel
theorem dX3_howManyAtPeace_4 : decode cX3_howManyAtPeace 4 = .ok (.iload_n 2, 1) := by decide +kernel
theorem dX3_howManyAtPeace_5 : decode cX3_howManyAtPeace 5 = .ok (.aload_n 0, 1) := by decide +kernel
theorem dX3_howManyAtPeace_6 : decode cX3_howManyAtPeace 6 = .ok (.getfield 12, 3) := by decide +kernel
theorem dX3_howManyAtPeace_9 : decode cX3_howManyAtPeace 9 = .ok (.getfield 55, 3) := by decide +kernel
theorem dX3_howManyAtPeace_12 : decode cX3_howManyAtPeace 12 = .ok (.if_icmp .ge 21, 3) := by decide +kernel
theorem dX3_howManyAtPeace_15 : decode cX3_howManyAtPeace 15 = .ok (.aload_n 0, 1) := by decide +kernel
theorem dX3_howManyAtPeace_16 : decode cX3_howManyAtPeace 16 = .ok (.getfield 30, 3) := by decide +kernel
theorem dX3_howManyAtPeace_19 : decode cX3_howManyAtPeace 19 = .ok (.iload_n 2, 1) := by decide +kernel
theorem dX3_howManyAtPeace_20 : decode cX3_howManyAtPeace 20 = .ok (.iaload, 1) := by decide +kernel
theorem dX3_howManyAtPeace_21 : decode cX3_howManyAtPeace 21 = .ok (.ifCond .ne 6, 3) := by decide +kernel
theorem dX3_howManyAtPeace_24 : decode cX3_howManyAtPeace 24 = .ok (.iinc 1 1, 3) := by decide +kernel
theorem dX3_howManyAtPeace_27 : decode cX3_howManyAtPeace 27 = .ok (.iinc 2 1, 3) := by decide +kernel
theorem dX3_howManyAtPeace_30 : decode cX3_howManyAtPeace 30 = .ok (.goto (-26), 3) := by decide +kernel
theorem dX3_howManyAtPeace_33 : decode cX3_howManyAtPeace 33 = .ok (.iload_n 1, 1) := by decide +kernel
theorem dX3_howManyAtPeace_34 : decode cX3_howManyAtPeace 34 = .ok (.ireturn, 1) := by decide +kernel
theorem dX3_totalBehind_0 : decode cX3_totalBehind 0 = .ok (.aload_n 0, 1) := by decide +kernel
theorem dX3_totalBehind_1 : decode cX3_totalBehind 1 = .ok (.invokevirtual 73, 3) := by decide +kernel
theorem dX3_totalBehind_4 : decode cX3_totalBehind 4 = .ok (.iconst 0, 1) := by decide +kernel
theorem dX3_totalBehind_5 : decode cX3_totalBehind 5 = .ok (.istore_n 2, 1) := by decide +kernel
theorem dX3_totalBehind_6 : decode cX3_totalBehind 6 = .ok (.iload_n 2, 1) := by decide +kernel
theorem dX3_totalBehind_7 : decode cX3_totalBehind 7 = .ok (.iload_n 1, 1) := by decide +kernel
theorem dX3_totalBehind_8 : decode cX3_totalBehind 8 = .ok (.if_icmp .ge 13, 3) := by decide +kernel
theorem dX3_totalBehind_11 : decode cX3_totalBehind 11 = .ok (.aload_n 0, 1) := by decide +kernel
theorem dX3_totalBehind_12 : decode cX3_totalBehind 12 = .ok (.invokevirtual 76, 3) := by decide +kernel
theorem dX3_totalBehind_15 : decode cX3_totalBehind 15 = .ok (.iinc 2 1, 3) := by decide +kernel
theorem dX3_totalBehind_18 : decode cX3_totalBehind 18 = .ok (.goto (-12), 3) := by decide +kernel
theorem dX3_totalBehind_21 : decode cX3_totalBehind 21 = .ok (.aload_n 0, 1) := by decide +kernel
theorem dX3_totalBehind_22 : decode cX3_totalBehind 22 = .ok (.invokevirtual 79, 3) := by decide +kernel
theorem dX3_totalBehind_25 : decode cX3_totalBehind 25 = .ok (.ireturn, 1) := by decide +kernel
theorem dX3_daysTillPeace_0 : decode cX3_daysTillPeace 0 = .ok (.iconst 0, 1) := by decide +kernel
theorem dX3_daysTillPeace_1 : decode cX3_daysTillPeace 1 = .ok (.istore_n 1, 1) := by decide +kernel
theorem dX3_daysTillPeace_2 : decode cX3_daysTillPeace 2 = .ok (.aload_n 0, 1) := by decide +kernel
theorem dX3_daysTillPeace_3 : decode cX3_daysTillPeace 3 = .ok (.invokevirtual 73, 3) := by decide +kernel
theorem dX3_daysTillPeace_6 : decode cX3_daysTillPeace 6 = .ok (.iconst 0, 1) := by decide +kernel
theorem dX3_daysTillPeace_7 : decode cX3_daysTillPeace 7 = .ok (.istore_n 2, 1) := by decide +kernel
theorem dX3_daysTillPeace_8 : decode cX3_daysTillPeace 8 = .ok (.iload_n 2, 1) := by decide +kernel
theorem dX3_daysTillPeace_9 : decode cX3_daysTillPeace 9 = .ok (.bipush 120, 2) := by decide +kernel
theorem dX3_daysTillPeace_11 : decode cX3_daysTillPeace 11 = .ok (.if_icmp .gt 35, 3) := by decide +kernel
theorem dX3_daysTillPeace_14 : decode cX3_daysTillPeace 14 = .ok (.aload_n 0, 1) := by decide +kernel
theorem dX3_daysTillPeace_15 : decode cX3_daysTillPeace 15 = .ok (.invokevirtual 79, 3) := by decide +kernel
theorem dX3_daysTillPeace_18 : decode cX3_daysTillPeace 18 = .ok (.istore_n 3, 1) := by decide +kernel
theorem dX3_daysTillPeace_19 : decode cX3_daysTillPeace 19 = .ok (.iload_n 1, 1) := by decide +kernel
theorem dX3_daysTillPeace_20 : decode cX3_daysTillPeace 20 = .ok (.iload_n 3, 1) := by decide +kernel
theorem dX3_daysTillPeace_21 : decode cX3_daysTillPeace 21 = .ok (.invokestatic 83, 3) := by decide +kernel
theorem dX3_daysTillPeace_24 : decode cX3_daysTillPeace 24 = .ok (.istore_n 1, 1) := by decide +kernel
theorem dX3_daysTillPeace_25 : decode cX3_daysTillPeace 25 = .ok (.iload_n 3, 1) := by decide +kernel
theorem dX3_daysTillPeace_26 : decode cX3_daysTillPeace 26 = .ok (.ifCond .ne 10, 3) := by decide +kernel
theorem dX3_daysTillPeace_29 : decode cX3_daysTillPeace 29 = .ok (.aload_n 0, 1) := by decide +kernel
theorem dX3_daysTillPeace_30 : decode cX3_daysTillPeace 30 = .ok (.iload_n 1, 1) := by decide +kernel
theorem dX3_daysTillPeace_31 : decode cX3_daysTillPeace 31 = .ok (.putfield 37, 3) := by decide +kernel
theorem dX3_daysTillPeace_34 : decode cX3_daysTillPeace 34 = .ok (.iload_n 2, 1) := by decide +kernel
theorem dX3_daysTillPeace_35 : decode cX3_daysTillPeace 35 = .ok (.ireturn, 1) := by decide +kernel
theorem dX3_daysTillPeace_36 : decode cX3_daysTillPeace 36 = .ok (.aload_n 0, 1) := by decide +kernel
theorem dX3_daysTillPeace_37 : decode cX3_daysTillPeace 37 = .ok (.invokevirtual 76, 3) := by decide +kernel
theorem dX3_daysTillPeace_40 : decode cX3_daysTillPeace 40 = .ok (.iinc 2 1, 3) := by decide +kernel
theorem dX3_daysTillPeace_43 : decode cX3_daysTillPeace 43 = .ok (.goto (-35), 3) := by decide +kernel
theorem dX3_daysTillPeace_46 : decode cX3_daysTillPeace 46 = .ok (.bipush (-9), 2) := by decide +kernel
theorem dX3_daysTillPeace_48 : decode cX3_daysTillPeace 48 = .ok (.ireturn, 1) := by decide +kernel
theorem dX3_bestDepth_0 : decode cX3_bestDepth 0 = .ok (.bipush (-9), 2) := by decide +kernel
theorem dX3_bestDepth_2 : decode cX3_bestDepth 2 = .ok (.istore_n 2, 1) := by decide +kernel
theorem dX3_bestDepth_3 : decode cX3_bestDepth 3 = .ok (.iconst 0, 1) := by decide +kernel
theorem dX3_bestDepth_4 : decode cX3_bestDepth 4 = .ok (.istore_n 3, 1) := by decide +kernel
theorem dX3_bestDepth_5 : decode cX3_bestDepth 5 = .ok (.iload_n 3, 1) := by decide +kernel
theorem dX3_bestDepth_6 : decode cX3_bestDepth 6 = .ok (.bipush 9, 2) := by decide +kernel
theorem dX3_bestDepth_8 : decode cX3_bestDepth 8 = .ok (.if_icmp .gt 50, 3) := by decide +kernel
theorem dX3_bestDepth_11 : decode cX3_bestDepth 11 = .ok (.aload_n 0, 1) := by decide +kernel
theorem dX3_bestDepth_12 : decode cX3_bestDepth 12 = .ok (.getfield 12, 3) := by decide +kernel
theorem dX3_bestDepth_15 : decode cX3_bestDepth 15 = .ok (.getfield 89, 3) := by decide +kernel
theorem dX3_bestDepth_18 : decode cX3_bestDepth 18 = .ok (.iload_n 3, 1) := by decide +kernel
theorem dX3_bestDepth_19 : decode cX3_bestDepth 19 = .ok (.invokestatic 92, 3) := by decide +kernel
theorem dX3_bestDepth_22 : decode cX3_bestDepth 22 = .ok (.aload_n 0, 1) := by decide +kernel
theorem dX3_bestDepth_23 : decode cX3_bestDepth 23 = .ok (.iload_n 1, 1) := by decide +kernel
theorem dX3_bestDepth_24 : decode cX3_bestDepth 24 = .ok (.invokevirtual 98, 3) := by decide +kernel
theorem dX3_bestDepth_27 : decode cX3_bestDepth 27 = .ok (.istore 4, 2) := by decide +kernel
theorem dX3_bestDepth_29 : decode cX3_bestDepth 29 = .ok (.iload_n 2, 1) := by decide +kernel
theorem dX3_bestDepth_30 : decode cX3_bestDepth 30 = .ok (.bipush (-9), 2) := by decide +kernel
theorem dX3_bestDepth_32 : decode cX3_bestDepth 32 = .ok (.if_icmp .eq 12, 3) := by decide +kernel
theorem dX3_bestDepth_35 : decode cX3_bestDepth 35 = .ok (.iload 4, 2) := by decide +kernel
theorem dX3_bestDepth_37 : decode cX3_bestDepth 37 = .ok (.aload_n 0, 1) := by decide +kernel
theorem dX3_bestDepth_38 : decode cX3_bestDepth 38 = .ok (.getfield 37, 3) := by decide +kernel
theorem dX3_bestDepth_41 : decode cX3_bestDepth 41 = .ok (.if_icmp .ge 11, 3) := by decide +kernel
theorem dX3_bestDepth_44 : decode cX3_bestDepth 44 = .ok (.iload_n 3, 1) := by decide +kernel
theorem dX3_bestDepth_45 : decode cX3_bestDepth 45 = .ok (.istore_n 2, 1) := by decide +kernel
theorem dX3_bestDepth_46 : decode cX3_bestDepth 46 = .ok (.aload_n 0, 1) := by decide +kernel
theorem dX3_bestDepth_47 : decode cX3_bestDepth 47 = .ok (.iload 4, 2) := by decide +kernel
theorem dX3_bestDepth_49 : decode cX3_bestDepth 49 = .ok (.putfield 37, 3) := by decide +kernel
theorem dX3_bestDepth_52 : decode cX3_bestDepth 52 = .ok (.iinc 3 1, 3) := by decide +kernel
theorem dX3_bestDepth_55 : decode cX3_bestDepth 55 = .ok (.goto (-50), 3) := by decide +kernel
theorem dX3_bestDepth_58 : decode cX3_bestDepth 58 = .ok (.iload_n 2, 1) := by decide +kernel
theorem dX3_bestDepth_59 : decode cX3_bestDepth 59 = .ok (.ireturn, 1) := by decide +kernel
theorem dX3_bestMove_0 : decode cX3_bestMove 0 = .ok (.bipush (-9), 2) := by decide +kernel
theorem dX3_bestMove_2 : decode cX3_bestMove 2 = .ok (.istore_n 2, 1) := by decide +kernel
theorem dX3_bestMove_3 : decode cX3_bestMove 3 = .ok (.aload_n 0, 1) := by decide +kernel
theorem dX3_bestMove_4 : decode cX3_bestMove 4 = .ok (.iload_n 1, 1) := by decide +kernel
theorem dX3_bestMove_5 : decode cX3_bestMove 5 = .ok (.invokevirtual 98, 3) := by decide +kernel
theorem dX3_bestMove_8 : decode cX3_bestMove 8 = .ok (.istore_n 3, 1) := by decide +kernel
theorem dX3_bestMove_9 : decode cX3_bestMove 9 = .ok (.iconst 0, 1) := by decide +kernel
theorem dX3_bestMove_10 : decode cX3_bestMove 10 = .ok (.istore 4, 2) := by decide +kernel
theorem dX3_bestMove_12 : decode cX3_bestMove 12 = .ok (.iload 4, 2) := by decide +kernel
theorem dX3_bestMove_14 : decode cX3_bestMove 14 = .ok (.aload_n 0, 1) := by decide +kernel
theorem dX3_bestMove_15 : decode cX3_bestMove 15 = .ok (.getfield 12, 3) := by decide +kernel
theorem dX3_bestMove_18 : decode cX3_bestMove 18 = .ok (.getfield 55, 3) := by decide +kernel
theorem dX3_bestMove_21 : decode cX3_bestMove 21 = .ok (.if_icmp .ge 85, 3) := by decide +kernel
theorem dX3_bestMove_24 : decode cX3_bestMove 24 = .ok (.aload_n 0, 1) := by decide +kernel
theorem dX3_bestMove_25 : decode cX3_bestMove 25 = .ok (.getfield 12, 3) := by decide +kernel
theorem dX3_bestMove_28 : decode cX3_bestMove 28 = .ok (.getfield 101, 3) := by decide +kernel
theorem dX3_bestMove_31 : decode cX3_bestMove 31 = .ok (.iload 4, 2) := by decide +kernel
theorem dX3_bestMove_33 : decode cX3_bestMove 33 = .ok (.iaload, 1) := by decide +kernel
theorem dX3_bestMove_34 : decode cX3_bestMove 34 = .ok (.istore 5, 2) := by decide +kernel
theorem dX3_bestMove_36 : decode cX3_bestMove 36 = .ok (.iconst 0, 1) := by decide +kernel
theorem dX3_bestMove_37 : decode cX3_bestMove 37 = .ok (.istore 6, 2) := by decide +kernel
theorem dX3_bestMove_39 : decode cX3_bestMove 39 = .ok (.iload 6, 2) := by decide +kernel
theorem dX3_bestMove_41 : decode cX3_bestMove 41 = .ok (.iconst 5, 1) := by decide +kernel
theorem dX3_bestMove_42 : decode cX3_bestMove 42 = .ok (.if_icmp .ge 46, 3) := by decide +kernel
theorem dX3_bestMove_45 : decode cX3_bestMove 45 = .ok (.aload_n 0, 1) := by decide +kernel
theorem dX3_bestMove_46 : decode cX3_bestMove 46 = .ok (.getfield 12, 3) := by decide +kernel
theorem dX3_bestMove_49 : decode cX3_bestMove 49 = .ok (.getfield 101, 3) := by decide +kernel
theorem dX3_bestMove_52 : decode cX3_bestMove 52 = .ok (.iload 4, 2) := by decide +kernel
theorem dX3_bestMove_54 : decode cX3_bestMove 54 = .ok (.iload 6, 2) := by decide +kernel
theorem dX3_bestMove_56 : decode cX3_bestMove 56 = .ok (.iastore, 1) := by decide +kernel
theorem dX3_bestMove_57 : decode cX3_bestMove 57 = .ok (.aload_n 0, 1) := by decide +kernel
theorem dX3_bestMove_58 : decode cX3_bestMove 58 = .ok (.iload_n 1, 1) := by decide +kernel
theorem dX3_bestMove_59 : decode cX3_bestMove 59 = .ok (.invokevirtual 98, 3) := by decide +kernel
theorem dX3_bestMove_62 : decode cX3_bestMove 62 = .ok (.istore 7, 2) := by decide +kernel
theorem dX3_bestMove_64 : decode cX3_bestMove 64 = .ok (.iload 7, 2) := by decide +kernel
theorem dX3_bestMove_66 : decode cX3_bestMove 66 = .ok (.iload_n 3, 1) := by decide +kernel
theorem dX3_bestMove_67 : decode cX3_bestMove 67 = .ok (.if_icmp .ge 15, 3) := by decide +kernel
theorem dX3_bestMove_70 : decode cX3_bestMove 70 = .ok (.iload 7, 2) := by decide +kernel
theorem dX3_bestMove_72 : decode cX3_bestMove 72 = .ok (.istore_n 3, 1) := by decide +kernel
theorem dX3_bestMove_73 : decode cX3_bestMove 73 = .ok (.bipush 10, 2) := by decide +kernel
theorem dX3_bestMove_75 : decode cX3_bestMove 75 = .ok (.iload 4, 2) := by decide +kernel
theorem dX3_bestMove_77 : decode cX3_bestMove 77 = .ok (.imul, 1) := by decide +kernel
theorem dX3_bestMove_78 : decode cX3_bestMove 78 = .ok (.iload 6, 2) := by decide +kernel
theorem dX3_bestMove_80 : decode cX3_bestMove 80 = .ok (.iadd, 1) := by decide +kernel
theorem dX3_bestMove_81 : decode cX3_bestMove 81 = .ok (.istore_n 2, 1) := by decide +kernel
theorem dX3_bestMove_82 : decode cX3_bestMove 82 = .ok (.iinc 6 1, 3) := by decide +kernel
theorem dX3_bestMove_85 : decode cX3_bestMove 85 = .ok (.goto (-46), 3) := by decide +kernel
theorem dX3_bestMove_88 : decode cX3_bestMove 88 = .ok (.aload_n 0, 1) := by decide +kernel
theorem dX3_bestMove_89 : decode cX3_bestMove 89 = .ok (.getfield 12, 3) := by decide +kernel
theorem dX3_bestMove_92 : decode cX3_bestMove 92 = .ok (.getfield 101, 3) := by decide +kernel
theorem dX3_bestMove_95 : decode cX3_bestMove 95 = .ok (.iload 4, 2) := by decide +kernel
theorem dX3_bestMove_97 : decode cX3_bestMove 97 = .ok (.iload 5, 2) := by decide +kernel
theorem dX3_bestMove_99 : decode cX3_bestMove 99 = .ok (.iastore, 1) := by decide +kernel
theorem dX3_bestMove_100 : decode cX3_bestMove 100 = .ok (.iinc 4 1, 3) := by decide +kernel
theorem dX3_bestMove_103 : decode cX3_bestMove 103 = .ok (.goto (-91), 3) := by decide +kernel
theorem dX3_bestMove_106 : decode cX3_bestMove 106 = .ok (.aload_n 0, 1) := by decide +kernel
theorem dX3_bestMove_107 : decode cX3_bestMove 107 = .ok (.iload_n 3, 1) := by decide +kernel
theorem dX3_bestMove_108 : decode cX3_bestMove 108 = .ok (.putfield 37, 3) := by decide +kernel
theorem dX3_bestMove_111 : decode cX3_bestMove 111 = .ok (.iload_n 2, 1) := by decide +kernel
theorem dX3_bestMove_112 : decode cX3_bestMove 112 = .ok (.ireturn, 1) := by decide +kernel
theorem dX3_kindsThatFit_0 : decode cX3_kindsThatFit 0 = .ok (.aload_n 0, 1) := by decide +kernel
theorem dX3_kindsThatFit_1 : decode cX3_kindsThatFit 1 = .ok (.getfield 12, 3) := by decide +kernel
theorem dX3_kindsThatFit_4 : decode cX3_kindsThatFit 4 = .ok (.getfield 104, 3) := by decide +kernel
theorem dX3_kindsThatFit_7 : decode cX3_kindsThatFit 7 = .ok (.iload_n 1, 1) := by decide +kernel
theorem dX3_kindsThatFit_8 : decode cX3_kindsThatFit 8 = .ok (.iaload, 1) := by decide +kernel
theorem dX3_kindsThatFit_9 : decode cX3_kindsThatFit 9 = .ok (.istore_n 3, 1) := by decide +kernel
theorem dX3_kindsThatFit_10 : decode cX3_kindsThatFit 10 = .ok (.iconst 0, 1) := by decide +kernel
theorem dX3_kindsThatFit_11 : decode cX3_kindsThatFit 11 = .ok (.istore 4, 2) := by decide +kernel
theorem dX3_kindsThatFit_13 : decode cX3_kindsThatFit 13 = .ok (.iconst 0, 1) := by decide +kernel
theorem dX3_kindsThatFit_14 : decode cX3_kindsThatFit 14 = .ok (.istore 5, 2) := by decide +kernel
theorem dX3_kindsThatFit_16 : decode cX3_kindsThatFit 16 = .ok (.iload 5, 2) := by decide +kernel
theorem dX3_kindsThatFit_18 : decode cX3_kindsThatFit 18 = .ok (.bipush 6, 2) := by decide +kernel
theorem dX3_kindsThatFit_20 : decode cX3_kindsThatFit 20 = .ok (.if_icmp .ge 37, 3) := by decide +kernel
theorem dX3_kindsThatFit_23 : decode cX3_kindsThatFit 23 = .ok (.aload_n 0, 1) := by decide +kernel
theorem dX3_kindsThatFit_24 : decode cX3_kindsThatFit 24 = .ok (.getfield 12, 3) := by decide +kernel
theorem dX3_kindsThatFit_27 : decode cX3_kindsThatFit 27 = .ok (.getfield 104, 3) := by decide +kernel
theorem dX3_kindsThatFit_30 : decode cX3_kindsThatFit 30 = .ok (.iload_n 1, 1) := by decide +kernel
theorem dX3_kindsThatFit_31 : decode cX3_kindsThatFit 31 = .ok (.iload 5, 2) := by decide +kernel
theorem dX3_kindsThatFit_33 : decode cX3_kindsThatFit 33 = .ok (.iastore, 1) := by decide +kernel
theorem dX3_kindsThatFit_34 : decode cX3_kindsThatFit 34 = .ok (.aload_n 0, 1) := by decide +kernel
theorem dX3_kindsThatFit_35 : decode cX3_kindsThatFit 35 = .ok (.aload_n 2, 1) := by decide +kernel
theorem dX3_kindsThatFit_36 : decode cX3_kindsThatFit 36 = .ok (.invokevirtual 107, 3) := by decide +kernel
theorem dX3_kindsThatFit_39 : decode cX3_kindsThatFit 39 = .ok (.ifCond .eq 12, 3) := by decide +kernel
theorem dX3_kindsThatFit_42 : decode cX3_kindsThatFit 42 = .ok (.iload 4, 2) := by decide +kernel
theorem dX3_kindsThatFit_44 : decode cX3_kindsThatFit 44 = .ok (.iconst 1, 1) := by decide +kernel
theorem dX3_kindsThatFit_45 : decode cX3_kindsThatFit 45 = .ok (.iload 5, 2) := by decide +kernel
theorem dX3_kindsThatFit_47 : decode cX3_kindsThatFit 47 = .ok (.ishl, 1) := by decide +kernel
theorem dX3_kindsThatFit_48 : decode cX3_kindsThatFit 48 = .ok (.ior, 1) := by decide +kernel
theorem dX3_kindsThatFit_49 : decode cX3_kindsThatFit 49 = .ok (.istore 4, 2) := by decide +kernel
theorem dX3_kindsThatFit_51 : decode cX3_kindsThatFit 51 = .ok (.iinc 5 1, 3) := by decide +kernel
theorem dX3_kindsThatFit_54 : decode cX3_kindsThatFit 54 = .ok (.goto (-38), 3) := by decide +kernel
theorem dX3_kindsThatFit_57 : decode cX3_kindsThatFit 57 = .ok (.aload_n 0, 1) := by decide +kernel
theorem dX3_kindsThatFit_58 : decode cX3_kindsThatFit 58 = .ok (.getfield 12, 3) := by decide +kernel
theorem dX3_kindsThatFit_61 : decode cX3_kindsThatFit 61 = .ok (.getfield 104, 3) := by decide +kernel
theorem dX3_kindsThatFit_64 : decode cX3_kindsThatFit 64 = .ok (.iload_n 1, 1) := by decide +kernel
theorem dX3_kindsThatFit_65 : decode cX3_kindsThatFit 65 = .ok (.iload_n 3, 1) := by decide +kernel
theorem dX3_kindsThatFit_66 : decode cX3_kindsThatFit 66 = .ok (.iastore, 1) := by decide +kernel
theorem dX3_kindsThatFit_67 : decode cX3_kindsThatFit 67 = .ok (.iload 4, 2) := by decide +kernel
theorem dX3_kindsThatFit_69 : decode cX3_kindsThatFit 69 = .ok (.ireturn, 1) := by decide +kernel
theorem dX3_heightsThatFit_0 : decode cX3_heightsThatFit 0 = .ok (.aload_n 0, 1) := by decide +kernel
theorem dX3_heightsThatFit_1 : decode cX3_heightsThatFit 1 = .ok (.getfield 12, 3) := by decide +kernel
theorem dX3_heightsThatFit_4 : decode cX3_heightsThatFit 4 = .ok (.getfield 111, 3) := by decide +kernel
theorem dX3_heightsThatFit_7 : decode cX3_heightsThatFit 7 = .ok (.iload_n 1, 1) := by decide +kernel
theorem dX3_heightsThatFit_8 : decode cX3_heightsThatFit 8 = .ok (.iaload, 1) := by decide +kernel
theorem dX3_heightsThatFit_9 : decode cX3_heightsThatFit 9 = .ok (.istore_n 3, 1) := by decide +kernel
theorem dX3_heightsThatFit_10 : decode cX3_heightsThatFit 10 = .ok (.iconst 0, 1) := by decide +kernel
theorem dX3_heightsThatFit_11 : decode cX3_heightsThatFit 11 = .ok (.istore 4, 2) := by decide +kernel
theorem dX3_heightsThatFit_13 : decode cX3_heightsThatFit 13 = .ok (.iconst 0, 1) := by decide +kernel
theorem dX3_heightsThatFit_14 : decode cX3_heightsThatFit 14 = .ok (.istore 5, 2) := by decide +kernel
theorem dX3_heightsThatFit_16 : decode cX3_heightsThatFit 16 = .ok (.iload 5, 2) := by decide +kernel
theorem dX3_heightsThatFit_18 : decode cX3_heightsThatFit 18 = .ok (.bipush 9, 2) := by decide +kernel
theorem dX3_heightsThatFit_20 : decode cX3_heightsThatFit 20 = .ok (.if_icmp .gt 37, 3) := by decide +kernel
theorem dX3_heightsThatFit_23 : decode cX3_heightsThatFit 23 = .ok (.aload_n 0, 1) := by decide +kernel
theorem dX3_heightsThatFit_24 : decode cX3_heightsThatFit 24 = .ok (.getfield 12, 3) := by decide +kernel
theorem dX3_heightsThatFit_27 : decode cX3_heightsThatFit 27 = .ok (.getfield 111, 3) := by decide +kernel
theorem dX3_heightsThatFit_30 : decode cX3_heightsThatFit 30 = .ok (.iload_n 1, 1) := by decide +kernel
theorem dX3_heightsThatFit_31 : decode cX3_heightsThatFit 31 = .ok (.iload 5, 2) := by decide +kernel
theorem dX3_heightsThatFit_33 : decode cX3_heightsThatFit 33 = .ok (.iastore, 1) := by decide +kernel
theorem dX3_heightsThatFit_34 : decode cX3_heightsThatFit 34 = .ok (.aload_n 0, 1) := by decide +kernel
theorem dX3_heightsThatFit_35 : decode cX3_heightsThatFit 35 = .ok (.aload_n 2, 1) := by decide +kernel
theorem dX3_heightsThatFit_36 : decode cX3_heightsThatFit 36 = .ok (.invokevirtual 107, 3) := by decide +kernel
theorem dX3_heightsThatFit_39 : decode cX3_heightsThatFit 39 = .ok (.ifCond .eq 12, 3) := by decide +kernel
theorem dX3_heightsThatFit_42 : decode cX3_heightsThatFit 42 = .ok (.iload 4, 2) := by decide +kernel
theorem dX3_heightsThatFit_44 : decode cX3_heightsThatFit 44 = .ok (.iconst 1, 1) := by decide +kernel
theorem dX3_heightsThatFit_45 : decode cX3_heightsThatFit 45 = .ok (.iload 5, 2) := by decide +kernel
theorem dX3_heightsThatFit_47 : decode cX3_heightsThatFit 47 = .ok (.ishl, 1) := by decide +kernel
theorem dX3_heightsThatFit_48 : decode cX3_heightsThatFit 48 = .ok (.ior, 1) := by decide +kernel
theorem dX3_heightsThatFit_49 : decode cX3_heightsThatFit 49 = .ok (.istore 4, 2) := by decide +kernel
theorem dX3_heightsThatFit_51 : decode cX3_heightsThatFit 51 = .ok (.iinc 5 1, 3) := by decide +kernel
theorem dX3_heightsThatFit_54 : decode cX3_heightsThatFit 54 = .ok (.goto (-38), 3) := by decide +kernel
theorem dX3_heightsThatFit_57 : decode cX3_heightsThatFit 57 = .ok (.aload_n 0, 1) := by decide +kernel
theorem dX3_heightsThatFit_58 : decode cX3_heightsThatFit 58 = .ok (.getfield 12, 3) := by decide +kernel
theorem dX3_heightsThatFit_61 : decode cX3_heightsThatFit 61 = .ok (.getfield 111, 3) := by decide +kernel
theorem dX3_heightsThatFit_64 : decode cX3_heightsThatFit 64 = .ok (.iload_n 1, 1) := by decide +kernel
theorem dX3_heightsThatFit_65 : decode cX3_heightsThatFit 65 = .ok (.iload_n 3, 1) := by decide +kernel
theorem dX3_heightsThatFit_66 : decode cX3_heightsThatFit 66 = .ok (.iastore, 1) := by decide +kernel
theorem dX3_heightsThatFit_67 : decode cX3_heightsThatFit 67 = .ok (.iload 4, 2) := by decide +kernel
theorem dX3_heightsThatFit_69 : decode cX3_heightsThatFit 69 = .ok (.ireturn, 1) := by decide +kernel
theorem dX3_fits_0 : decode cX3_fits 0 = .ok (.aload_n 0, 1) := by decide +kernel
theorem dX3_fits_1 : decode cX3_fits 1 = .ok (.invokevirtual 73, 3) := by decide +kernel
theorem dX3_fits_4 : decode cX3_fits 4 = .ok (.iconst 0, 1) := by decide +kernel
theorem dX3_fits_5 : decode cX3_fits 5 = .ok (.istore_n 2, 1) := by decide +kernel
theorem dX3_fits_6 : decode cX3_fits 6 = .ok (.iload_n 2, 1) := by decide +kernel
theorem dX3_fits_7 : decode cX3_fits 7 = .ok (.aload_n 1, 1) := by decide +kernel
theorem dX3_fits_8 : decode cX3_fits 8 = .ok (.getfield 114, 3) := by decide +kernel
theorem dX3_fits_11 : decode cX3_fits 11 = .ok (.if_icmp .ge 28, 3) := by decide +kernel
theorem dX3_fits_14 : decode cX3_fits 14 = .ok (.aload_n 0, 1) := by decide +kernel
theorem dX3_fits_15 : decode cX3_fits 15 = .ok (.invokevirtual 76, 3) := by decide +kernel
theorem dX3_fits_18 : decode cX3_fits 18 = .ok (.aload_n 0, 1) := by decide +kernel
theorem dX3_fits_19 : decode cX3_fits 19 = .ok (.invokevirtual 79, 3) := by decide +kernel
theorem dX3_fits_22 : decode cX3_fits 22 = .ok (.aload_n 1, 1) := by decide +kernel
theorem dX3_fits_23 : decode cX3_fits 23 = .ok (.getfield 119, 3) := by decide +kernel
theorem dX3_fits_26 : decode cX3_fits 26 = .ok (.iload_n 2, 1) := by decide +kernel
theorem dX3_fits_27 : decode cX3_fits 27 = .ok (.iaload, 1) := by decide +kernel
theorem dX3_fits_28 : decode cX3_fits 28 = .ok (.if_icmp .eq 5, 3) := by decide +kernel
theorem dX3_fits_31 : decode cX3_fits 31 = .ok (.iconst 0, 1) := by decide +kernel
theorem dX3_fits_32 : decode cX3_fits 32 = .ok (.ireturn, 1) := by decide +kernel
theorem dX3_fits_33 : decode cX3_fits 33 = .ok (.iinc 2 1, 3) := by decide +kernel
theorem dX3_fits_36 : decode cX3_fits 36 = .ok (.goto (-30), 3) := by decide +kernel
theorem dX3_fits_39 : decode cX3_fits 39 = .ok (.iconst 1, 1) := by decide +kernel
theorem dX3_fits_40 : decode cX3_fits 40 = .ok (.ireturn, 1) := by decide +kernel
theorem dX3_bestLook_0 : decode cX3_bestLook 0 = .ok (.aload_n 0, 1) := by decide +kernel
theorem dX3_bestLook_1 : decode cX3_bestLook 1 = .ok (.iload_n 1, 1) := by decide +kernel
theorem dX3_bestLook_2 : decode cX3_bestLook 2 = .ok (.aload_n 2, 1) := by decide +kernel
theorem dX3_bestLook_3 : decode cX3_bestLook 3 = .ok (.invokevirtual 122, 3) := by decide +kernel
theorem dX3_bestLook_6 : decode cX3_bestLook 6 = .ok (.istore_n 3, 1) := by decide +kernel
theorem dX3_bestLook_7 : decode cX3_bestLook 7 = .ok (.iload_n 3, 1) := by decide +kernel
theorem dX3_bestLook_8 : decode cX3_bestLook 8 = .ok (.ifCond .ne 6, 3) := by decide +kernel
theorem dX3_bestLook_11 : decode cX3_bestLook 11 = .ok (.bipush (-9), 2) := by decide +kernel
theorem dX3_bestLook_13 : decode cX3_bestLook 13 = .ok (.ireturn, 1) := by decide +kernel
theorem dX3_bestLook_14 : decode cX3_bestLook 14 = .ok (.aload_n 0, 1) := by decide +kernel
theorem dX3_bestLook_15 : decode cX3_bestLook 15 = .ok (.iload_n 1, 1) := by decide +kernel
theorem dX3_bestLook_16 : decode cX3_bestLook 16 = .ok (.invokevirtual 126, 3) := by decide +kernel
theorem dX3_bestLook_19 : decode cX3_bestLook 19 = .ok (.bipush (-9), 2) := by decide +kernel
theorem dX3_bestLook_21 : decode cX3_bestLook 21 = .ok (.istore 4, 2) := by decide +kernel
theorem dX3_bestLook_23 : decode cX3_bestLook 23 = .ok (.iconst 1, 1) := by decide +kernel
theorem dX3_bestLook_24 : decode cX3_bestLook 24 = .ok (.istore 5, 2) := by decide +kernel
theorem dX3_bestLook_26 : decode cX3_bestLook 26 = .ok (.iload 5, 2) := by decide +kernel
theorem dX3_bestLook_28 : decode cX3_bestLook 28 = .ok (.bipush 20, 2) := by decide +kernel
theorem dX3_bestLook_30 : decode cX3_bestLook 30 = .ok (.if_icmp .gt 44, 3) := by decide +kernel
theorem dX3_bestLook_33 : decode cX3_bestLook 33 = .ok (.aload_n 0, 1) := by decide +kernel
theorem dX3_bestLook_34 : decode cX3_bestLook 34 = .ok (.iload_n 3, 1) := by decide +kernel
theorem dX3_bestLook_35 : decode cX3_bestLook 35 = .ok (.iload 5, 2) := by decide +kernel
theorem dX3_bestLook_37 : decode cX3_bestLook 37 = .ok (.invokevirtual 130, 3) := by decide +kernel
theorem dX3_bestLook_40 : decode cX3_bestLook 40 = .ok (.istore 6, 2) := by decide +kernel
theorem dX3_bestLook_42 : decode cX3_bestLook 42 = .ok (.iload 4, 2) := by decide +kernel
theorem dX3_bestLook_44 : decode cX3_bestLook 44 = .ok (.bipush (-9), 2) := by decide +kernel
theorem dX3_bestLook_46 : decode cX3_bestLook 46 = .ok (.if_icmp .eq 12, 3) := by decide +kernel
theorem dX3_bestLook_49 : decode cX3_bestLook 49 = .ok (.iload 6, 2) := by decide +kernel
theorem dX3_bestLook_51 : decode cX3_bestLook 51 = .ok (.aload_n 0, 1) := by decide +kernel
theorem dX3_bestLook_52 : decode cX3_bestLook 52 = .ok (.getfield 37, 3) := by decide +kernel
theorem dX3_bestLook_55 : decode cX3_bestLook 55 = .ok (.if_icmp .ge 13, 3) := by decide +kernel
theorem dX3_bestLook_58 : decode cX3_bestLook 58 = .ok (.iload 5, 2) := by decide +kernel
theorem dX3_bestLook_60 : decode cX3_bestLook 60 = .ok (.istore 4, 2) := by decide +kernel
theorem dX3_bestLook_62 : decode cX3_bestLook 62 = .ok (.aload_n 0, 1) := by decide +kernel
theorem dX3_bestLook_63 : decode cX3_bestLook 63 = .ok (.iload 6, 2) := by decide +kernel
theorem dX3_bestLook_65 : decode cX3_bestLook 65 = .ok (.putfield 37, 3) := by decide +kernel
theorem dX3_bestLook_68 : decode cX3_bestLook 68 = .ok (.iinc 5 1, 3) := by decide +kernel
theorem dX3_bestLook_71 : decode cX3_bestLook 71 = .ok (.goto (-45), 3) := by decide +kernel
theorem dX3_bestLook_74 : decode cX3_bestLook 74 = .ok (.iload 4, 2) := by decide +kernel
theorem dX3_bestLook_76 : decode cX3_bestLook 76 = .ok (.ireturn, 1) := by decide +kernel
theorem dX3_foretellEach_0 : decode cX3_foretellEach 0 = .ok (.iconst 0, 1) := by decide +kernel
theorem dX3_foretellEach_1 : decode cX3_foretellEach 1 = .ok (.istore_n 2, 1) := by decide +kernel
theorem dX3_foretellEach_2 : decode cX3_foretellEach 2 = .ok (.iload_n 2, 1) := by decide +kernel
theorem dX3_foretellEach_3 : decode cX3_foretellEach 3 = .ok (.bipush 6, 2) := by decide +kernel
theorem dX3_foretellEach_5 : decode cX3_foretellEach 5 = .ok (.if_icmp .ge 53, 3) := by decide +kernel
theorem dX3_foretellEach_8 : decode cX3_foretellEach 8 = .ok (.aload_n 0, 1) := by decide +kernel
theorem dX3_foretellEach_9 : decode cX3_foretellEach 9 = .ok (.getfield 12, 3) := by decide +kernel
theorem dX3_foretellEach_12 : decode cX3_foretellEach 12 = .ok (.getfield 104, 3) := by decide +kernel
theorem dX3_foretellEach_15 : decode cX3_foretellEach 15 = .ok (.iload_n 1, 1) := by decide +kernel
theorem dX3_foretellEach_16 : decode cX3_foretellEach 16 = .ok (.iload_n 2, 1) := by decide +kernel
theorem dX3_foretellEach_17 : decode cX3_foretellEach 17 = .ok (.iastore, 1) := by decide +kernel
theorem dX3_foretellEach_18 : decode cX3_foretellEach 18 = .ok (.aload_n 0, 1) := by decide +kernel
theorem dX3_foretellEach_19 : decode cX3_foretellEach 19 = .ok (.invokevirtual 73, 3) := by decide +kernel
theorem dX3_foretellEach_22 : decode cX3_foretellEach 22 = .ok (.iconst 1, 1) := by decide +kernel
theorem dX3_foretellEach_23 : decode cX3_foretellEach 23 = .ok (.istore_n 3, 1) := by decide +kernel
theorem dX3_foretellEach_24 : decode cX3_foretellEach 24 = .ok (.iload_n 3, 1) := by decide +kernel
theorem dX3_foretellEach_25 : decode cX3_foretellEach 25 = .ok (.bipush 20, 2) := by decide +kernel
theorem dX3_foretellEach_27 : decode cX3_foretellEach 27 = .ok (.if_icmp .gt 25, 3) := by decide +kernel
theorem dX3_foretellEach_30 : decode cX3_foretellEach 30 = .ok (.aload_n 0, 1) := by decide +kernel
theorem dX3_foretellEach_31 : decode cX3_foretellEach 31 = .ok (.invokevirtual 76, 3) := by decide +kernel
theorem dX3_foretellEach_34 : decode cX3_foretellEach 34 = .ok (.aload_n 0, 1) := by decide +kernel
theorem dX3_foretellEach_35 : decode cX3_foretellEach 35 = .ok (.getfield 27, 3) := by decide +kernel
theorem dX3_foretellEach_38 : decode cX3_foretellEach 38 = .ok (.iload_n 2, 1) := by decide +kernel
theorem dX3_foretellEach_39 : decode cX3_foretellEach 39 = .ok (.aaload, 1) := by decide +kernel
theorem dX3_foretellEach_40 : decode cX3_foretellEach 40 = .ok (.iload_n 3, 1) := by decide +kernel
theorem dX3_foretellEach_41 : decode cX3_foretellEach 41 = .ok (.aload_n 0, 1) := by decide +kernel
theorem dX3_foretellEach_42 : decode cX3_foretellEach 42 = .ok (.invokevirtual 79, 3) := by decide +kernel
theorem dX3_foretellEach_45 : decode cX3_foretellEach 45 = .ok (.iastore, 1) := by decide +kernel
theorem dX3_foretellEach_46 : decode cX3_foretellEach 46 = .ok (.iinc 3 1, 3) := by decide +kernel
theorem dX3_foretellEach_49 : decode cX3_foretellEach 49 = .ok (.goto (-25), 3) := by decide +kernel
theorem dX3_foretellEach_52 : decode cX3_foretellEach 52 = .ok (.iinc 2 1, 3) := by decide +kernel
theorem dX3_foretellEach_55 : decode cX3_foretellEach 55 = .ok (.goto (-53), 3) := by decide +kernel
theorem dX3_foretellEach_58 : decode cX3_foretellEach 58 = .ok (.return_, 1) := by decide +kernel
theorem dX3_greatestPart_0 : decode cX3_greatestPart 0 = .ok (.iconst 0, 1) := by decide +kernel
theorem dX3_greatestPart_1 : decode cX3_greatestPart 1 = .ok (.istore_n 3, 1) := by decide +kernel
theorem dX3_greatestPart_2 : decode cX3_greatestPart 2 = .ok (.iconst 0, 1) := by decide +kernel
theorem dX3_greatestPart_3 : decode cX3_greatestPart 3 = .ok (.istore 4, 2) := by decide +kernel
theorem dX3_greatestPart_5 : decode cX3_greatestPart 5 = .ok (.iload 4, 2) := by decide +kernel
theorem dX3_greatestPart_7 : decode cX3_greatestPart 7 = .ok (.bipush 6, 2) := by decide +kernel
theorem dX3_greatestPart_9 : decode cX3_greatestPart 9 = .ok (.if_icmp .ge 86, 3) := by decide +kernel
theorem dX3_greatestPart_12 : decode cX3_greatestPart 12 = .ok (.iconst 0, 1) := by decide +kernel
theorem dX3_greatestPart_13 : decode cX3_greatestPart 13 = .ok (.istore 5, 2) := by decide +kernel
theorem dX3_greatestPart_15 : decode cX3_greatestPart 15 = .ok (.iconst 0, 1) := by decide +kernel
theorem dX3_greatestPart_16 : decode cX3_greatestPart 16 = .ok (.istore 6, 2) := by decide +kernel
theorem dX3_greatestPart_18 : decode cX3_greatestPart 18 = .ok (.iload 6, 2) := by decide +kernel
theorem dX3_greatestPart_20 : decode cX3_greatestPart 20 = .ok (.bipush 6, 2) := by decide +kernel
theorem dX3_greatestPart_22 : decode cX3_greatestPart 22 = .ok (.if_icmp .ge 60, 3) := by decide +kernel
theorem dX3_greatestPart_25 : decode cX3_greatestPart 25 = .ok (.iload_n 1, 1) := by decide +kernel
theorem dX3_greatestPart_26 : decode cX3_greatestPart 26 = .ok (.iload 4, 2) := by decide +kernel
theorem dX3_greatestPart_28 : decode cX3_greatestPart 28 = .ok (.ishr, 1) := by decide +kernel
theorem dX3_greatestPart_29 : decode cX3_greatestPart 29 = .ok (.iload_n 1, 1) := by decide +kernel
theorem dX3_greatestPart_30 : decode cX3_greatestPart 30 = .ok (.iload 6, 2) := by decide +kernel
theorem dX3_greatestPart_32 : decode cX3_greatestPart 32 = .ok (.ishr, 1) := by decide +kernel
theorem dX3_greatestPart_33 : decode cX3_greatestPart 33 = .ok (.iand, 1) := by decide +kernel
theorem dX3_greatestPart_34 : decode cX3_greatestPart 34 = .ok (.iconst 1, 1) := by decide +kernel
theorem dX3_greatestPart_35 : decode cX3_greatestPart 35 = .ok (.iand, 1) := by decide +kernel
theorem dX3_greatestPart_36 : decode cX3_greatestPart 36 = .ok (.iconst 1, 1) := by decide +kernel
theorem dX3_greatestPart_37 : decode cX3_greatestPart 37 = .ok (.if_icmp .ne 7, 3) := by decide +kernel
theorem dX3_greatestPart_40 : decode cX3_greatestPart 40 = .ok (.iconst 1, 1) := by decide +kernel
theorem dX3_greatestPart_41 : decode cX3_greatestPart 41 = .ok (.goto 4, 3) := by decide +kernel
theorem dX3_greatestPart_44 : decode cX3_greatestPart 44 = .ok (.iconst 0, 1) := by decide +kernel
theorem dX3_greatestPart_45 : decode cX3_greatestPart 45 = .ok (.istore 7, 2) := by decide +kernel
theorem dX3_greatestPart_47 : decode cX3_greatestPart 47 = .ok (.iload 7, 2) := by decide +kernel
theorem dX3_greatestPart_49 : decode cX3_greatestPart 49 = .ok (.ifCond .eq 27, 3) := by decide +kernel
theorem dX3_greatestPart_52 : decode cX3_greatestPart 52 = .ok (.aload_n 0, 1) := by decide +kernel
theorem dX3_greatestPart_53 : decode cX3_greatestPart 53 = .ok (.getfield 27, 3) := by decide +kernel
theorem dX3_greatestPart_56 : decode cX3_greatestPart 56 = .ok (.iload 4, 2) := by decide +kernel
theorem dX3_greatestPart_58 : decode cX3_greatestPart 58 = .ok (.aaload, 1) := by decide +kernel
theorem dX3_greatestPart_59 : decode cX3_greatestPart 59 = .ok (.iload_n 2, 1) := by decide +kernel
theorem dX3_greatestPart_60 : decode cX3_greatestPart 60 = .ok (.iaload, 1) := by decide +kernel
theorem dX3_greatestPart_61 : decode cX3_greatestPart 61 = .ok (.aload_n 0, 1) := by decide +kernel
theorem dX3_greatestPart_62 : decode cX3_greatestPart 62 = .ok (.getfield 27, 3) := by decide +kernel
theorem dX3_greatestPart_65 : decode cX3_greatestPart 65 = .ok (.iload 6, 2) := by decide +kernel
theorem dX3_greatestPart_67 : decode cX3_greatestPart 67 = .ok (.aaload, 1) := by decide +kernel
theorem dX3_greatestPart_68 : decode cX3_greatestPart 68 = .ok (.iload_n 2, 1) := by decide +kernel
theorem dX3_greatestPart_69 : decode cX3_greatestPart 69 = .ok (.iaload, 1) := by decide +kernel
theorem dX3_greatestPart_70 : decode cX3_greatestPart 70 = .ok (.if_icmp .ne 6, 3) := by decide +kernel
theorem dX3_greatestPart_73 : decode cX3_greatestPart 73 = .ok (.iinc 5 1, 3) := by decide +kernel
theorem dX3_greatestPart_76 : decode cX3_greatestPart 76 = .ok (.iinc 6 1, 3) := by decide +kernel
theorem dX3_greatestPart_79 : decode cX3_greatestPart 79 = .ok (.goto (-61), 3) := by decide +kernel
theorem dX3_greatestPart_82 : decode cX3_greatestPart 82 = .ok (.iload_n 3, 1) := by decide +kernel
theorem dX3_greatestPart_83 : decode cX3_greatestPart 83 = .ok (.iload 5, 2) := by decide +kernel
theorem dX3_greatestPart_85 : decode cX3_greatestPart 85 = .ok (.invokestatic 83, 3) := by decide +kernel
theorem dX3_greatestPart_88 : decode cX3_greatestPart 88 = .ok (.istore_n 3, 1) := by decide +kernel
theorem dX3_greatestPart_89 : decode cX3_greatestPart 89 = .ok (.iinc 4 1, 3) := by decide +kernel
theorem dX3_greatestPart_92 : decode cX3_greatestPart 92 = .ok (.goto (-87), 3) := by decide +kernel
theorem dX3_greatestPart_95 : decode cX3_greatestPart 95 = .ok (.iload_n 3, 1) := by decide +kernel
theorem dX3_greatestPart_96 : decode cX3_greatestPart 96 = .ok (.ireturn, 1) := by decide +kernel
theorem dX3_totalByTurns_0 : decode cX3_totalByTurns 0 = .ok (.aload_n 0, 1) := by decide +kernel
theorem dX3_totalByTurns_1 : decode cX3_totalByTurns 1 = .ok (.iconst 0, 1) := by decide +kernel
theorem dX3_totalByTurns_2 : decode cX3_totalByTurns 2 = .ok (.iload_n 1, 1) := by decide +kernel
theorem dX3_totalByTurns_3 : decode cX3_totalByTurns 3 = .ok (.invokevirtual 133, 3) := by decide +kernel
theorem dX3_totalByTurns_6 : decode cX3_totalByTurns 6 = .ok (.ireturn, 1) := by decide +kernel
theorem dX3_outcome_0 : decode cX3_outcome 0 = .ok (.iload_n 1, 1) := by decide +kernel
theorem dX3_outcome_1 : decode cX3_outcome 1 = .ok (.iload_n 2, 1) := by decide +kernel
theorem dX3_outcome_2 : decode cX3_outcome 2 = .ok (.if_icmp .ge 8, 3) := by decide +kernel
theorem dX3_outcome_5 : decode cX3_outcome 5 = .ok (.iload_n 1, 1) := by decide +kernel
theorem dX3_outcome_6 : decode cX3_outcome 6 = .ok (.iconst 3, 1) := by decide +kernel
theorem dX3_outcome_7 : decode cX3_outcome 7 = .ok (.if_icmp .lt 10, 3) := by decide +kernel
theorem dX3_outcome_10 : decode cX3_outcome 10 = .ok (.aload_n 0, 1) := by decide +kernel
theorem dX3_outcome_11 : decode cX3_outcome 11 = .ok (.bipush 6, 2) := by decide +kernel
theorem dX3_outcome_13 : decode cX3_outcome 13 = .ok (.invokevirtual 98, 3) := by decide +kernel
theorem dX3_outcome_16 : decode cX3_outcome 16 = .ok (.ireturn, 1) := by decide +kernel
theorem dX3_outcome_17 : decode cX3_outcome 17 = .ok (.iload_n 1, 1) := by decide +kernel
theorem dX3_outcome_18 : decode cX3_outcome 18 = .ok (.iconst 2, 1) := by decide +kernel
theorem dX3_outcome_19 : decode cX3_outcome 19 = .ok (.irem, 1) := by decide +kernel
theorem dX3_outcome_20 : decode cX3_outcome 20 = .ok (.ifCond .ne 7, 3) := by decide +kernel
theorem dX3_outcome_23 : decode cX3_outcome 23 = .ok (.iconst 1, 1) := by decide +kernel
theorem dX3_outcome_24 : decode cX3_outcome 24 = .ok (.goto 4, 3) := by decide +kernel
theorem dX3_outcome_27 : decode cX3_outcome 27 = .ok (.iconst 0, 1) := by decide +kernel
theorem dX3_outcome_28 : decode cX3_outcome 28 = .ok (.istore_n 3, 1) := by decide +kernel
theorem dX3_outcome_29 : decode cX3_outcome 29 = .ok (.aload_n 0, 1) := by decide +kernel
theorem dX3_outcome_30 : decode cX3_outcome 30 = .ok (.iload_n 1, 1) := by decide +kernel
theorem dX3_outcome_31 : decode cX3_outcome 31 = .ok (.iconst 1, 1) := by decide +kernel
theorem dX3_outcome_32 : decode cX3_outcome 32 = .ok (.iadd, 1) := by decide +kernel
theorem dX3_outcome_33 : decode cX3_outcome 33 = .ok (.iload_n 2, 1) := by decide +kernel
theorem dX3_outcome_34 : decode cX3_outcome 34 = .ok (.invokevirtual 133, 3) := by decide +kernel
theorem dX3_outcome_37 : decode cX3_outcome 37 = .ok (.istore 4, 2) := by decide +kernel
theorem dX3_outcome_39 : decode cX3_outcome 39 = .ok (.iconst 0, 1) := by decide +kernel
theorem dX3_outcome_40 : decode cX3_outcome 40 = .ok (.istore 5, 2) := by decide +kernel
theorem dX3_outcome_42 : decode cX3_outcome 42 = .ok (.iload 5, 2) := by decide +kernel
theorem dX3_outcome_44 : decode cX3_outcome 44 = .ok (.iconst 5, 1) := by decide +kernel
theorem dX3_outcome_45 : decode cX3_outcome 45 = .ok (.if_icmp .ge 104, 3) := by decide +kernel
theorem dX3_outcome_48 : decode cX3_outcome 48 = .ok (.aload_n 0, 1) := by decide +kernel
theorem dX3_outcome_49 : decode cX3_outcome 49 = .ok (.getfield 12, 3) := by decide +kernel
theorem dX3_outcome_52 : decode cX3_outcome 52 = .ok (.getfield 89, 3) := by decide +kernel
theorem dX3_outcome_55 : decode cX3_outcome 55 = .ok (.iload 5, 2) := by decide +kernel
theorem dX3_outcome_57 : decode cX3_outcome 57 = .ok (.iaload, 1) := by decide +kernel
theorem dX3_outcome_58 : decode cX3_outcome 58 = .ok (.istore 6, 2) := by decide +kernel
theorem dX3_outcome_60 : decode cX3_outcome 60 = .ok (.iload_n 3, 1) := by decide +kernel
theorem dX3_outcome_61 : decode cX3_outcome 61 = .ok (.ifCond .eq 15, 3) := by decide +kernel
theorem dX3_outcome_64 : decode cX3_outcome 64 = .ok (.bipush 9, 2) := by decide +kernel
theorem dX3_outcome_66 : decode cX3_outcome 66 = .ok (.iload 6, 2) := by decide +kernel
theorem dX3_outcome_68 : decode cX3_outcome 68 = .ok (.iconst 1, 1) := by decide +kernel
theorem dX3_outcome_69 : decode cX3_outcome 69 = .ok (.iadd, 1) := by decide +kernel
theorem dX3_outcome_70 : decode cX3_outcome 70 = .ok (.invokestatic 136, 3) := by decide +kernel
theorem dX3_outcome_73 : decode cX3_outcome 73 = .ok (.goto 4, 3) := by decide +kernel
theorem dX3_outcome_76 : decode cX3_outcome 76 = .ok (.iconst 0, 1) := by decide +kernel
theorem dX3_outcome_77 : decode cX3_outcome 77 = .ok (.istore 7, 2) := by decide +kernel
theorem dX3_outcome_79 : decode cX3_outcome 79 = .ok (.iload 7, 2) := by decide +kernel
theorem dX3_outcome_81 : decode cX3_outcome 81 = .ok (.iload 6, 2) := by decide +kernel
theorem dX3_outcome_83 : decode cX3_outcome 83 = .ok (.if_icmp .eq 60, 3) := by decide +kernel
theorem dX3_outcome_86 : decode cX3_outcome 86 = .ok (.aload_n 0, 1) := by decide +kernel
theorem dX3_outcome_87 : decode cX3_outcome 87 = .ok (.getfield 12, 3) := by decide +kernel
theorem dX3_outcome_90 : decode cX3_outcome 90 = .ok (.getfield 89, 3) := by decide +kernel
theorem dX3_outcome_93 : decode cX3_outcome 93 = .ok (.iload 5, 2) := by decide +kernel
theorem dX3_outcome_95 : decode cX3_outcome 95 = .ok (.iload 7, 2) := by decide +kernel
theorem dX3_outcome_97 : decode cX3_outcome 97 = .ok (.iastore, 1) := by decide +kernel
theorem dX3_outcome_98 : decode cX3_outcome 98 = .ok (.aload_n 0, 1) := by decide +kernel
theorem dX3_outcome_99 : decode cX3_outcome 99 = .ok (.iload_n 1, 1) := by decide +kernel
theorem dX3_outcome_100 : decode cX3_outcome 100 = .ok (.iconst 1, 1) := by decide +kernel
theorem dX3_outcome_101 : decode cX3_outcome 101 = .ok (.iadd, 1) := by decide +kernel
theorem dX3_outcome_102 : decode cX3_outcome 102 = .ok (.iload_n 2, 1) := by decide +kernel
theorem dX3_outcome_103 : decode cX3_outcome 103 = .ok (.invokevirtual 133, 3) := by decide +kernel
theorem dX3_outcome_106 : decode cX3_outcome 106 = .ok (.istore 8, 2) := by decide +kernel
theorem dX3_outcome_108 : decode cX3_outcome 108 = .ok (.aload_n 0, 1) := by decide +kernel
theorem dX3_outcome_109 : decode cX3_outcome 109 = .ok (.getfield 12, 3) := by decide +kernel
theorem dX3_outcome_112 : decode cX3_outcome 112 = .ok (.getfield 89, 3) := by decide +kernel
theorem dX3_outcome_115 : decode cX3_outcome 115 = .ok (.iload 5, 2) := by decide +kernel
theorem dX3_outcome_117 : decode cX3_outcome 117 = .ok (.iload 6, 2) := by decide +kernel
theorem dX3_outcome_119 : decode cX3_outcome 119 = .ok (.iastore, 1) := by decide +kernel
theorem dX3_outcome_120 : decode cX3_outcome 120 = .ok (.iload_n 3, 1) := by decide +kernel
theorem dX3_outcome_121 : decode cX3_outcome 121 = .ok (.ifCond .eq 13, 3) := by decide +kernel
theorem dX3_outcome_124 : decode cX3_outcome 124 = .ok (.iload 4, 2) := by decide +kernel
theorem dX3_outcome_126 : decode cX3_outcome 126 = .ok (.iload 8, 2) := by decide +kernel
theorem dX3_outcome_128 : decode cX3_outcome 128 = .ok (.invokestatic 136, 3) := by decide +kernel
theorem dX3_outcome_131 : decode cX3_outcome 131 = .ok (.goto 10, 3) := by decide +kernel
theorem dX3_outcome_134 : decode cX3_outcome 134 = .ok (.iload 4, 2) := by decide +kernel
theorem dX3_outcome_136 : decode cX3_outcome 136 = .ok (.iload 8, 2) := by decide +kernel
theorem dX3_outcome_138 : decode cX3_outcome 138 = .ok (.invokestatic 83, 3) := by decide +kernel
theorem dX3_outcome_141 : decode cX3_outcome 141 = .ok (.istore 4, 2) := by decide +kernel
theorem dX3_outcome_143 : decode cX3_outcome 143 = .ok (.iinc 5 1, 3) := by decide +kernel
theorem dX3_outcome_146 : decode cX3_outcome 146 = .ok (.goto (-104), 3) := by decide +kernel
theorem dX3_outcome_149 : decode cX3_outcome 149 = .ok (.iload 4, 2) := by decide +kernel
theorem dX3_outcome_151 : decode cX3_outcome 151 = .ok (.ireturn, 1) := by decide +kernel
theorem dX3_weighWinds_0 : decode cX3_weighWinds 0 = .ok (.aload_n 0, 1) := by decide +kernel
theorem dX3_weighWinds_1 : decode cX3_weighWinds 1 = .ok (.getfield 12, 3) := by decide +kernel
theorem dX3_weighWinds_4 : decode cX3_weighWinds 4 = .ok (.getfield 89, 3) := by decide +kernel
theorem dX3_weighWinds_7 : decode cX3_weighWinds 7 = .ok (.iconst 0, 1) := by decide +kernel
theorem dX3_weighWinds_8 : decode cX3_weighWinds 8 = .ok (.aload_n 0, 1) := by decide +kernel
theorem dX3_weighWinds_9 : decode cX3_weighWinds 9 = .ok (.getfield 22, 3) := by decide +kernel
theorem dX3_weighWinds_12 : decode cX3_weighWinds 12 = .ok (.iconst 0, 1) := by decide +kernel
theorem dX3_weighWinds_13 : decode cX3_weighWinds 13 = .ok (.iconst 5, 1) := by decide +kernel
theorem dX3_weighWinds_14 : decode cX3_weighWinds 14 = .ok (.invokestatic 139, 3) := by decide +kernel
theorem dX3_weighWinds_17 : decode cX3_weighWinds 17 = .ok (.aload_n 0, 1) := by decide +kernel
theorem dX3_weighWinds_18 : decode cX3_weighWinds 18 = .ok (.lconst 0, 1) := by decide +kernel
theorem dX3_weighWinds_19 : decode cX3_weighWinds 19 = .ok (.putfield 40, 3) := by decide +kernel
theorem dX3_weighWinds_22 : decode cX3_weighWinds 22 = .ok (.aload_n 0, 1) := by decide +kernel
theorem dX3_weighWinds_23 : decode cX3_weighWinds 23 = .ok (.lconst 0, 1) := by decide +kernel
theorem dX3_weighWinds_24 : decode cX3_weighWinds 24 = .ok (.putfield 44, 3) := by decide +kernel
theorem dX3_weighWinds_27 : decode cX3_weighWinds 27 = .ok (.aload_n 0, 1) := by decide +kernel
theorem dX3_weighWinds_28 : decode cX3_weighWinds 28 = .ok (.lconst 0, 1) := by decide +kernel
theorem dX3_weighWinds_29 : decode cX3_weighWinds 29 = .ok (.putfield 47, 3) := by decide +kernel
theorem dX3_weighWinds_32 : decode cX3_weighWinds 32 = .ok (.iconst 0, 1) := by decide +kernel
theorem dX3_weighWinds_33 : decode cX3_weighWinds 33 = .ok (.istore 4, 2) := by decide +kernel
theorem dX3_weighWinds_35 : decode cX3_weighWinds 35 = .ok (.iload 4, 2) := by decide +kernel
theorem dX3_weighWinds_37 : decode cX3_weighWinds 37 = .ok (.bipush 32, 2) := by decide +kernel
theorem dX3_weighWinds_39 : decode cX3_weighWinds 39 = .ok (.if_icmp .ge 152, 3) := by decide +kernel
theorem dX3_weighWinds_42 : decode cX3_weighWinds 42 = .ok (.lconst 1, 1) := by decide +kernel
theorem dX3_weighWinds_43 : decode cX3_weighWinds 43 = .ok (.lstore 5, 2) := by decide +kernel
theorem dX3_weighWinds_45 : decode cX3_weighWinds 45 = .ok (.iconst 0, 1) := by decide +kernel
theorem dX3_weighWinds_46 : decode cX3_weighWinds 46 = .ok (.istore 7, 2) := by decide +kernel
theorem dX3_weighWinds_48 : decode cX3_weighWinds 48 = .ok (.iload 7, 2) := by decide +kernel
theorem dX3_weighWinds_50 : decode cX3_weighWinds 50 = .ok (.iconst 5, 1) := by decide +kernel
theorem dX3_weighWinds_51 : decode cX3_weighWinds 51 = .ok (.if_icmp .ge 73, 3) := by decide +kernel
theorem dX3_weighWinds_54 : decode cX3_weighWinds 54 = .ok (.iload 4, 2) := by decide +kernel
theorem dX3_weighWinds_56 : decode cX3_weighWinds 56 = .ok (.iload 7, 2) := by decide +kernel
theorem dX3_weighWinds_58 : decode cX3_weighWinds 58 = .ok (.ishr, 1) := by decide +kernel
theorem dX3_weighWinds_59 : decode cX3_weighWinds 59 = .ok (.iconst 1, 1) := by decide +kernel
theorem dX3_weighWinds_60 : decode cX3_weighWinds 60 = .ok (.iand, 1) := by decide +kernel
theorem dX3_weighWinds_61 : decode cX3_weighWinds 61 = .ok (.iconst 1, 1) := by decide +kernel
theorem dX3_weighWinds_62 : decode cX3_weighWinds 62 = .ok (.if_icmp .ne 7, 3) := by decide +kernel
theorem dX3_weighWinds_65 : decode cX3_weighWinds 65 = .ok (.iconst 1, 1) := by decide +kernel
theorem dX3_weighWinds_66 : decode cX3_weighWinds 66 = .ok (.goto 4, 3) := by decide +kernel
theorem dX3_weighWinds_69 : decode cX3_weighWinds 69 = .ok (.iconst 0, 1) := by decide +kernel
theorem dX3_weighWinds_70 : decode cX3_weighWinds 70 = .ok (.istore 8, 2) := by decide +kernel
theorem dX3_weighWinds_72 : decode cX3_weighWinds 72 = .ok (.lload 5, 2) := by decide +kernel
theorem dX3_weighWinds_74 : decode cX3_weighWinds 74 = .ok (.iload 8, 2) := by decide +kernel
theorem dX3_weighWinds_76 : decode cX3_weighWinds 76 = .ok (.ifCond .eq 8, 3) := by decide +kernel
theorem dX3_weighWinds_79 : decode cX3_weighWinds 79 = .ok (.iload_n 3, 1) := by decide +kernel
theorem dX3_weighWinds_80 : decode cX3_weighWinds 80 = .ok (.i2l, 1) := by decide +kernel
theorem dX3_weighWinds_81 : decode cX3_weighWinds 81 = .ok (.goto 8, 3) := by decide +kernel
theorem dX3_weighWinds_84 : decode cX3_weighWinds 84 = .ok (.bipush 12, 2) := by decide +kernel
theorem dX3_weighWinds_86 : decode cX3_weighWinds 86 = .ok (.iload_n 3, 1) := by decide +kernel
theorem dX3_weighWinds_87 : decode cX3_weighWinds 87 = .ok (.isub, 1) := by decide +kernel
theorem dX3_weighWinds_88 : decode cX3_weighWinds 88 = .ok (.i2l, 1) := by decide +kernel
theorem dX3_weighWinds_89 : decode cX3_weighWinds 89 = .ok (.lmul, 1) := by decide +kernel
theorem dX3_weighWinds_90 : decode cX3_weighWinds 90 = .ok (.lstore 5, 2) := by decide +kernel
theorem dX3_weighWinds_92 : decode cX3_weighWinds 92 = .ok (.aload_n 0, 1) := by decide +kernel
theorem dX3_weighWinds_93 : decode cX3_weighWinds 93 = .ok (.getfield 12, 3) := by decide +kernel
theorem dX3_weighWinds_96 : decode cX3_weighWinds 96 = .ok (.getfield 89, 3) := by decide +kernel
theorem dX3_weighWinds_99 : decode cX3_weighWinds 99 = .ok (.iload 7, 2) := by decide +kernel
theorem dX3_weighWinds_101 : decode cX3_weighWinds 101 = .ok (.iload 8, 2) := by decide +kernel
theorem dX3_weighWinds_103 : decode cX3_weighWinds 103 = .ok (.ifCond .eq 7, 3) := by decide +kernel
theorem dX3_weighWinds_106 : decode cX3_weighWinds 106 = .ok (.iconst 0, 1) := by decide +kernel
theorem dX3_weighWinds_107 : decode cX3_weighWinds 107 = .ok (.goto 10, 3) := by decide +kernel
theorem dX3_weighWinds_110 : decode cX3_weighWinds 110 = .ok (.aload_n 0, 1) := by decide +kernel
theorem dX3_weighWinds_111 : decode cX3_weighWinds 111 = .ok (.getfield 22, 3) := by decide +kernel
theorem dX3_weighWinds_114 : decode cX3_weighWinds 114 = .ok (.iload 7, 2) := by decide +kernel
theorem dX3_weighWinds_116 : decode cX3_weighWinds 116 = .ok (.iaload, 1) := by decide +kernel
theorem dX3_weighWinds_117 : decode cX3_weighWinds 117 = .ok (.iastore, 1) := by decide +kernel
theorem dX3_weighWinds_118 : decode cX3_weighWinds 118 = .ok (.iinc 7 1, 3) := by decide +kernel
theorem dX3_weighWinds_121 : decode cX3_weighWinds 121 = .ok (.goto (-73), 3) := by decide +kernel
theorem dX3_weighWinds_124 : decode cX3_weighWinds 124 = .ok (.lload 5, 2) := by decide +kernel
theorem dX3_weighWinds_126 : decode cX3_weighWinds 126 = .ok (.lconst 0, 1) := by decide +kernel
theorem dX3_weighWinds_127 : decode cX3_weighWinds 127 = .ok (.lcmp, 1) := by decide +kernel
theorem dX3_weighWinds_128 : decode cX3_weighWinds 128 = .ok (.ifCond .le 57, 3) := by decide +kernel
theorem dX3_weighWinds_131 : decode cX3_weighWinds 131 = .ok (.aload_n 0, 1) := by decide +kernel
theorem dX3_weighWinds_132 : decode cX3_weighWinds 132 = .ok (.iload_n 2, 1) := by decide +kernel
theorem dX3_weighWinds_133 : decode cX3_weighWinds 133 = .ok (.invokevirtual 98, 3) := by decide +kernel
theorem dX3_weighWinds_136 : decode cX3_weighWinds 136 = .ok (.istore 7, 2) := by decide +kernel
theorem dX3_weighWinds_138 : decode cX3_weighWinds 138 = .ok (.aload_n 0, 1) := by decide +kernel
theorem dX3_weighWinds_139 : decode cX3_weighWinds 139 = .ok (.dup, 1) := by decide +kernel
theorem dX3_weighWinds_140 : decode cX3_weighWinds 140 = .ok (.getfield 47, 3) := by decide +kernel
theorem dX3_weighWinds_143 : decode cX3_weighWinds 143 = .ok (.lload 5, 2) := by decide +kernel
theorem dX3_weighWinds_145 : decode cX3_weighWinds 145 = .ok (.ladd, 1) := by decide +kernel
theorem dX3_weighWinds_146 : decode cX3_weighWinds 146 = .ok (.putfield 47, 3) := by decide +kernel
theorem dX3_weighWinds_149 : decode cX3_weighWinds 149 = .ok (.aload_n 0, 1) := by decide +kernel
theorem dX3_weighWinds_150 : decode cX3_weighWinds 150 = .ok (.dup, 1) := by decide +kernel
theorem dX3_weighWinds_151 : decode cX3_weighWinds 151 = .ok (.getfield 44, 3) := by decide +kernel
theorem dX3_weighWinds_154 : decode cX3_weighWinds 154 = .ok (.lload 5, 2) := by decide +kernel
theorem dX3_weighWinds_156 : decode cX3_weighWinds 156 = .ok (.iload 7, 2) := by decide +kernel
theorem dX3_weighWinds_158 : decode cX3_weighWinds 158 = .ok (.i2l, 1) := by decide +kernel
theorem dX3_weighWinds_159 : decode cX3_weighWinds 159 = .ok (.lmul, 1) := by decide +kernel
theorem dX3_weighWinds_160 : decode cX3_weighWinds 160 = .ok (.ladd, 1) := by decide +kernel
theorem dX3_weighWinds_161 : decode cX3_weighWinds 161 = .ok (.putfield 44, 3) := by decide +kernel
theorem dX3_weighWinds_164 : decode cX3_weighWinds 164 = .ok (.aload_n 0, 1) := by decide +kernel
theorem dX3_weighWinds_165 : decode cX3_weighWinds 165 = .ok (.dup, 1) := by decide +kernel
theorem dX3_weighWinds_166 : decode cX3_weighWinds 166 = .ok (.getfield 40, 3) := by decide +kernel
theorem dX3_weighWinds_169 : decode cX3_weighWinds 169 = .ok (.iload 7, 2) := by decide +kernel
theorem dX3_weighWinds_171 : decode cX3_weighWinds 171 = .ok (.iload_n 1, 1) := by decide +kernel
theorem dX3_weighWinds_172 : decode cX3_weighWinds 172 = .ok (.if_icmp .gt 8, 3) := by decide +kernel
theorem dX3_weighWinds_175 : decode cX3_weighWinds 175 = .ok (.lload 5, 2) := by decide +kernel
theorem dX3_weighWinds_177 : decode cX3_weighWinds 177 = .ok (.goto 4, 3) := by decide +kernel
theorem dX3_weighWinds_180 : decode cX3_weighWinds 180 = .ok (.lconst 0, 1) := by decide +kernel
theorem dX3_weighWinds_181 : decode cX3_weighWinds 181 = .ok (.ladd, 1) := by decide +kernel
theorem dX3_weighWinds_182 : decode cX3_weighWinds 182 = .ok (.putfield 40, 3) := by decide +kernel
theorem dX3_weighWinds_185 : decode cX3_weighWinds 185 = .ok (.iinc 4 1, 3) := by decide +kernel
theorem dX3_weighWinds_188 : decode cX3_weighWinds 188 = .ok (.goto (-153), 3) := by decide +kernel
theorem dX3_weighWinds_191 : decode cX3_weighWinds 191 = .ok (.return_, 1) := by decide +kernel
end
section
theorem dX9_init_0 : decode cX9_init 0 = .ok (.aload_n 0, 1) := by decide +kernel
theorem dX9_init_1 : decode cX9_init 1 = .ok (.invokespecial 3, 3) := by decide +kernel
theorem dX9_init_4 : decode cX9_init 4 = .ok (.aload_n 0, 1) := by decide +kernel
theorem dX9_init_5 : decode cX9_init 5 = .ok (.iconst 0, 1) := by decide +kernel
theorem dX9_init_6 : decode cX9_init 6 = .ok (.putfield 9, 3) := by decide +kernel
theorem dX9_init_9 : decode cX9_init 9 = .ok (.aload_n 0, 1) := by decide +kernel
theorem dX9_init_10 : decode cX9_init 10 = .ok (.iconst 0, 1) := by decide +kernel
theorem dX9_init_11 : decode cX9_init 11 = .ok (.putfield 15, 3) := by decide +kernel
theorem dX9_init_14 : decode cX9_init 14 = .ok (.aload_n 0, 1) := by decide +kernel
theorem dX9_init_15 : decode cX9_init 15 = .ok (.iconst 0, 1) := by decide +kernel
theorem dX9_init_16 : decode cX9_init 16 = .ok (.putfield 18, 3) := by decide +kernel
theorem dX9_init_19 : decode cX9_init 19 = .ok (.aload_n 0, 1) := by decide +kernel
theorem dX9_init_20 : decode cX9_init 20 = .ok (.bipush 6, 2) := by decide +kernel
theorem dX9_init_22 : decode cX9_init 22 = .ok (.anewarray 21, 3) := by decide +kernel
theorem dX9_init_25 : decode cX9_init 25 = .ok (.dup, 1) := by decide +kernel
theorem dX9_init_26 : decode cX9_init 26 = .ok (.iconst 0, 1) := by decide +kernel
theorem dX9_init_27 : decode cX9_init 27 = .ok (.new 21, 3) := by decide +kernel
theorem dX9_init_30 : decode cX9_init 30 = .ok (.dup, 1) := by decide +kernel
theorem dX9_init_31 : decode cX9_init 31 = .ok (.invokespecial 23, 3) := by decide +kernel
theorem dX9_init_34 : decode cX9_init 34 = .ok (.aastore, 1) := by decide +kernel
theorem dX9_init_35 : decode cX9_init 35 = .ok (.dup, 1) := by decide +kernel
theorem dX9_init_36 : decode cX9_init 36 = .ok (.iconst 1, 1) := by decide +kernel
theorem dX9_init_37 : decode cX9_init 37 = .ok (.new 24, 3) := by decide +kernel
theorem dX9_init_40 : decode cX9_init 40 = .ok (.dup, 1) := by decide +kernel
theorem dX9_init_41 : decode cX9_init 41 = .ok (.invokespecial 26, 3) := by decide +kernel
theorem dX9_init_44 : decode cX9_init 44 = .ok (.aastore, 1) := by decide +kernel
theorem dX9_init_45 : decode cX9_init 45 = .ok (.dup, 1) := by decide +kernel
theorem dX9_init_46 : decode cX9_init 46 = .ok (.iconst 2, 1) := by decide +kernel
theorem dX9_init_47 : decode cX9_init 47 = .ok (.new 27, 3) := by decide +kernel
theorem dX9_init_50 : decode cX9_init 50 = .ok (.dup, 1) := by decide +kernel
theorem dX9_init_51 : decode cX9_init 51 = .ok (.invokespecial 29, 3) := by decide +kernel
theorem dX9_init_54 : decode cX9_init 54 = .ok (.aastore, 1) := by decide +kernel
theorem dX9_init_55 : decode cX9_init 55 = .ok (.dup, 1) := by decide +kernel
theorem dX9_init_56 : decode cX9_init 56 = .ok (.iconst 3, 1) := by decide +kernel
theorem dX9_init_57 : decode cX9_init 57 = .ok (.new 30, 3) := by decide +kernel
theorem dX9_init_60 : decode cX9_init 60 = .ok (.dup, 1) := by decide +kernel
theorem dX9_init_61 : decode cX9_init 61 = .ok (.invokespecial 32, 3) := by decide +kernel
theorem dX9_init_64 : decode cX9_init 64 = .ok (.aastore, 1) := by decide +kernel
theorem dX9_init_65 : decode cX9_init 65 = .ok (.dup, 1) := by decide +kernel
theorem dX9_init_66 : decode cX9_init 66 = .ok (.iconst 4, 1) := by decide +kernel
theorem dX9_init_67 : decode cX9_init 67 = .ok (.new 33, 3) := by decide +kernel
theorem dX9_init_70 : decode cX9_init 70 = .ok (.dup, 1) := by decide +kernel
theorem dX9_init_71 : decode cX9_init 71 = .ok (.invokespecial 35, 3) := by decide +kernel
theorem dX9_init_74 : decode cX9_init 74 = .ok (.aastore, 1) := by decide +kernel
theorem dX9_init_75 : decode cX9_init 75 = .ok (.dup, 1) := by decide +kernel
theorem dX9_init_76 : decode cX9_init 76 = .ok (.iconst 5, 1) := by decide +kernel
theorem dX9_init_77 : decode cX9_init 77 = .ok (.new 36, 3) := by decide +kernel
theorem dX9_init_80 : decode cX9_init 80 = .ok (.dup, 1) := by decide +kernel
theorem dX9_init_81 : decode cX9_init 81 = .ok (.invokespecial 38, 3) := by decide +kernel
theorem dX9_init_84 : decode cX9_init 84 = .ok (.aastore, 1) := by decide +kernel
theorem dX9_init_85 : decode cX9_init 85 = .ok (.putfield 39, 3) := by decide +kernel
theorem dX9_init_88 : decode cX9_init 88 = .ok (.aload_n 0, 1) := by decide +kernel
theorem dX9_init_89 : decode cX9_init 89 = .ok (.bipush 7, 2) := by decide +kernel
theorem dX9_init_91 : decode cX9_init 91 = .ok (.newarray .int, 2) := by decide +kernel
theorem dX9_init_93 : decode cX9_init 93 = .ok (.putfield 43, 3) := by decide +kernel
theorem dX9_init_96 : decode cX9_init 96 = .ok (.aload_n 0, 1) := by decide +kernel
theorem dX9_init_97 : decode cX9_init 97 = .ok (.bipush 7, 2) := by decide +kernel
theorem dX9_init_99 : decode cX9_init 99 = .ok (.newarray .int, 2) := by decide +kernel
theorem dX9_init_101 : decode cX9_init 101 = .ok (.putfield 47, 3) := by decide +kernel
theorem dX9_init_104 : decode cX9_init 104 = .ok (.aload_n 0, 1) := by decide +kernel
theorem dX9_init_105 : decode cX9_init 105 = .ok (.bipush 7, 2) := by decide +kernel
theorem dX9_init_107 : decode cX9_init 107 = .ok (.newarray .int, 2) := by decide +kernel
theorem dX9_init_109 : decode cX9_init 109 = .ok (.putfield 50, 3) := by decide +kernel
theorem dX9_init_112 : decode cX9_init 112 = .ok (.aload_n 0, 1) := by decide +kernel
theorem dX9_init_113 : decode cX9_init 113 = .ok (.bipush 7, 2) := by decide +kernel
theorem dX9_init_115 : decode cX9_init 115 = .ok (.newarray .int, 2) := by decide +kernel
theorem dX9_init_117 : decode cX9_init 117 = .ok (.putfield 53, 3) := by decide +kernel
theorem dX9_init_120 : decode cX9_init 120 = .ok (.aload_n 0, 1) := by decide +kernel
theorem dX9_init_121 : decode cX9_init 121 = .ok (.bipush 7, 2) := by decide +kernel
theorem dX9_init_123 : decode cX9_init 123 = .ok (.newarray .int, 2) := by decide +kernel
theorem dX9_init_125 : decode cX9_init 125 = .ok (.putfield 56, 3) := by decide +kernel
theorem dX9_init_128 : decode cX9_init 128 = .ok (.aload_n 0, 1) := by decide +kernel
theorem dX9_init_129 : decode cX9_init 129 = .ok (.iconst 5, 1) := by decide +kernel
theorem dX9_init_130 : decode cX9_init 130 = .ok (.newarray .int, 2) := by decide +kernel
theorem dX9_init_132 : decode cX9_init 132 = .ok (.putfield 59, 3) := by decide +kernel
theorem dX9_init_135 : decode cX9_init 135 = .ok (.aload_n 0, 1) := by decide +kernel
theorem dX9_init_136 : decode cX9_init 136 = .ok (.bipush 7, 2) := by decide +kernel
theorem dX9_init_138 : decode cX9_init 138 = .ok (.newarray .int, 2) := by decide +kernel
theorem dX9_init_140 : decode cX9_init 140 = .ok (.putfield 62, 3) := by decide +kernel
theorem dX9_init_143 : decode cX9_init 143 = .ok (.aload_n 0, 1) := by decide +kernel
theorem dX9_init_144 : decode cX9_init 144 = .ok (.bipush 7, 2) := by decide +kernel
theorem dX9_init_146 : decode cX9_init 146 = .ok (.newarray .int, 2) := by decide +kernel
theorem dX9_init_148 : decode cX9_init 148 = .ok (.putfield 65, 3) := by decide +kernel
theorem dX9_init_151 : decode cX9_init 151 = .ok (.aload_n 0, 1) := by decide +kernel
theorem dX9_init_152 : decode cX9_init 152 = .ok (.iconst 5, 1) := by decide +kernel
theorem dX9_init_153 : decode cX9_init 153 = .ok (.newarray .int, 2) := by decide +kernel
theorem dX9_init_155 : decode cX9_init 155 = .ok (.putfield 68, 3) := by decide +kernel
theorem dX9_init_158 : decode cX9_init 158 = .ok (.aload_n 0, 1) := by decide +kernel
theorem dX9_init_159 : decode cX9_init 159 = .ok (.bipush 40, 2) := by decide +kernel
theorem dX9_init_161 : decode cX9_init 161 = .ok (.newarray .int, 2) := by decide +kernel
theorem dX9_init_163 : decode cX9_init 163 = .ok (.putfield 71, 3) := by decide +kernel
theorem dX9_init_166 : decode cX9_init 166 = .ok (.aload_n 0, 1) := by decide +kernel
theorem dX9_init_167 : decode cX9_init 167 = .ok (.bipush 40, 2) := by decide +kernel
theorem dX9_init_169 : decode cX9_init 169 = .ok (.newarray .int, 2) := by decide +kernel
theorem dX9_init_171 : decode cX9_init 171 = .ok (.putfield 74, 3) := by decide +kernel
theorem dX9_init_174 : decode cX9_init 174 = .ok (.aload_n 0, 1) := by decide +kernel
theorem dX9_init_175 : decode cX9_init 175 = .ok (.bipush 40, 2) := by decide +kernel
theorem dX9_init_177 : decode cX9_init 177 = .ok (.newarray .int, 2) := by decide +kernel
theorem dX9_init_179 : decode cX9_init 179 = .ok (.putfield 77, 3) := by decide +kernel
theorem dX9_init_182 : decode cX9_init 182 = .ok (.return_, 1) := by decide +kernel
theorem dX9_hasPeople_0 : decode cX9_hasPeople 0 = .ok (.aload_n 0, 1) := by decide +kernel
theorem dX9_hasPeople_1 : decode cX9_hasPeople 1 = .ok (.getfield 9, 3) := by decide +kernel
theorem dX9_hasPeople_4 : decode cX9_hasPeople 4 = .ok (.ifCond .le 7, 3) := by decide +kernel
theorem dX9_hasPeople_7 : decode cX9_hasPeople 7 = .ok (.iconst 1, 1) := by decide +kernel
theorem dX9_hasPeople_8 : decode cX9_hasPeople 8 = .ok (.goto 4, 3) := by decide +kernel
theorem dX9_hasPeople_11 : decode cX9_hasPeople 11 = .ok (.iconst 0, 1) := by decide +kernel
theorem dX9_hasPeople_12 : decode cX9_hasPeople 12 = .ok (.ireturn, 1) := by decide +kernel
theorem dX9_sortOf_0 : decode cX9_sortOf 0 = .ok (.aload_n 0, 1) := by decide +kernel
theorem dX9_sortOf_1 : decode cX9_sortOf 1 = .ok (.getfield 39, 3) := by decide +kernel
theorem dX9_sortOf_4 : decode cX9_sortOf 4 = .ok (.aload_n 0, 1) := by decide +kernel
theorem dX9_sortOf_5 : decode cX9_sortOf 5 = .ok (.getfield 43, 3) := by decide +kernel
theorem dX9_sortOf_8 : decode cX9_sortOf 8 = .ok (.iload_n 1, 1) := by decide +kernel
theorem dX9_sortOf_9 : decode cX9_sortOf 9 = .ok (.iaload, 1) := by decide +kernel
theorem dX9_sortOf_10 : decode cX9_sortOf 10 = .ok (.aaload, 1) := by decide +kernel
theorem dX9_sortOf_11 : decode cX9_sortOf 11 = .ok (.areturn, 1) := by decide +kernel
theorem dX9_settle_0 : decode cX9_settle 0 = .ok (.aload_n 0, 1) := by decide +kernel
theorem dX9_settle_1 : decode cX9_settle 1 = .ok (.iconst 0, 1) := by decide +kernel
theorem dX9_settle_2 : decode cX9_settle 2 = .ok (.bipush 7, 2) := by decide +kernel
theorem dX9_settle_4 : decode cX9_settle 4 = .ok (.aload_n 1, 1) := by decide +kernel
theorem dX9_settle_5 : decode cX9_settle 5 = .ok (.invokevirtual 80, 3) := by decide +kernel
theorem dX9_settle_8 : decode cX9_settle 8 = .ok (.invokestatic 86, 3) := by decide +kernel
theorem dX9_settle_11 : decode cX9_settle 11 = .ok (.invokestatic 92, 3) := by decide +kernel
theorem dX9_settle_14 : decode cX9_settle 14 = .ok (.putfield 9, 3) := by decide +kernel
theorem dX9_settle_17 : decode cX9_settle 17 = .ok (.iconst 0, 1) := by decide +kernel
theorem dX9_settle_18 : decode cX9_settle 18 = .ok (.istore_n 2, 1) := by decide +kernel
theorem dX9_settle_19 : decode cX9_settle 19 = .ok (.iload_n 2, 1) := by decide +kernel
theorem dX9_settle_20 : decode cX9_settle 20 = .ok (.iconst 5, 1) := by decide +kernel
theorem dX9_settle_21 : decode cX9_settle 21 = .ok (.if_icmp .ge 21, 3) := by decide +kernel
theorem dX9_settle_24 : decode cX9_settle 24 = .ok (.aload_n 0, 1) := by decide +kernel
theorem dX9_settle_25 : decode cX9_settle 25 = .ok (.getfield 68, 3) := by decide +kernel
theorem dX9_settle_28 : decode cX9_settle 28 = .ok (.iload_n 2, 1) := by decide +kernel
theorem dX9_settle_29 : decode cX9_settle 29 = .ok (.aload_n 1, 1) := by decide +kernel
theorem dX9_settle_30 : decode cX9_settle 30 = .ok (.getfield 95, 3) := by decide +kernel
theorem dX9_settle_33 : decode cX9_settle 33 = .ok (.iload_n 2, 1) := by decide +kernel
theorem dX9_settle_34 : decode cX9_settle 34 = .ok (.iaload, 1) := by decide +kernel
theorem dX9_settle_35 : decode cX9_settle 35 = .ok (.iastore, 1) := by decide +kernel
theorem dX9_settle_36 : decode cX9_settle 36 = .ok (.iinc 2 1, 3) := by decide +kernel
theorem dX9_settle_39 : decode cX9_settle 39 = .ok (.goto (-20), 3) := by decide +kernel
theorem dX9_settle_42 : decode cX9_settle 42 = .ok (.iconst 0, 1) := by decide +kernel
theorem dX9_settle_43 : decode cX9_settle 43 = .ok (.istore_n 2, 1) := by decide +kernel
theorem dX9_settle_44 : decode cX9_settle 44 = .ok (.iload_n 2, 1) := by decide +kernel
theorem dX9_settle_45 : decode cX9_settle 45 = .ok (.aload_n 0, 1) := by decide +kernel
theorem dX9_settle_46 : decode cX9_settle 46 = .ok (.getfield 9, 3) := by decide +kernel
theorem dX9_settle_49 : decode cX9_settle 49 = .ok (.if_icmp .ge 88, 3) := by decide +kernel
theorem dX9_settle_52 : decode cX9_settle 52 = .ok (.iconst 5, 1) := by decide +kernel
theorem dX9_settle_53 : decode cX9_settle 53 = .ok (.iload_n 2, 1) := by decide +kernel
theorem dX9_settle_54 : decode cX9_settle 54 = .ok (.iconst 1, 1) := by decide +kernel
theorem dX9_settle_55 : decode cX9_settle 55 = .ok (.iadd, 1) := by decide +kernel
theorem dX9_settle_56 : decode cX9_settle 56 = .ok (.imul, 1) := by decide +kernel
theorem dX9_settle_57 : decode cX9_settle 57 = .ok (.istore_n 3, 1) := by decide +kernel
theorem dX9_settle_58 : decode cX9_settle 58 = .ok (.aload_n 0, 1) := by decide +kernel
theorem dX9_settle_59 : decode cX9_settle 59 = .ok (.getfield 43, 3) := by decide +kernel
theorem dX9_settle_62 : decode cX9_settle 62 = .ok (.iload_n 2, 1) := by decide +kernel
theorem dX9_settle_63 : decode cX9_settle 63 = .ok (.aload_n 1, 1) := by decide +kernel
theorem dX9_settle_64 : decode cX9_settle 64 = .ok (.getfield 95, 3) := by decide +kernel
theorem dX9_settle_67 : decode cX9_settle 67 = .ok (.iload_n 3, 1) := by decide +kernel
theorem dX9_settle_68 : decode cX9_settle 68 = .ok (.iaload, 1) := by decide +kernel
theorem dX9_settle_69 : decode cX9_settle 69 = .ok (.iastore, 1) := by decide +kernel
theorem dX9_settle_70 : decode cX9_settle 70 = .ok (.aload_n 0, 1) := by decide +kernel
theorem dX9_settle_71 : decode cX9_settle 71 = .ok (.getfield 47, 3) := by decide +kernel
theorem dX9_settle_74 : decode cX9_settle 74 = .ok (.iload_n 2, 1) := by decide +kernel
theorem dX9_settle_75 : decode cX9_settle 75 = .ok (.aload_n 1, 1) := by decide +kernel
theorem dX9_settle_76 : decode cX9_settle 76 = .ok (.getfield 95, 3) := by decide +kernel
theorem dX9_settle_79 : decode cX9_settle 79 = .ok (.iload_n 3, 1) := by decide +kernel
theorem dX9_settle_80 : decode cX9_settle 80 = .ok (.iconst 1, 1) := by decide +kernel
theorem dX9_settle_81 : decode cX9_settle 81 = .ok (.iadd, 1) := by decide +kernel
theorem dX9_settle_82 : decode cX9_settle 82 = .ok (.iaload, 1) := by decide +kernel
theorem dX9_settle_83 : decode cX9_settle 83 = .ok (.iastore, 1) := by decide +kernel
theorem dX9_settle_84 : decode cX9_settle 84 = .ok (.aload_n 0, 1) := by decide +kernel
theorem dX9_settle_85 : decode cX9_settle 85 = .ok (.getfield 50, 3) := by decide +kernel
theorem dX9_settle_88 : decode cX9_settle 88 = .ok (.iload_n 2, 1) := by decide +kernel
theorem dX9_settle_89 : decode cX9_settle 89 = .ok (.aload_n 0, 1) := by decide +kernel
theorem dX9_settle_90 : decode cX9_settle 90 = .ok (.iload_n 2, 1) := by decide +kernel
theorem dX9_settle_91 : decode cX9_settle 91 = .ok (.aload_n 1, 1) := by decide +kernel
theorem dX9_settle_92 : decode cX9_settle 92 = .ok (.getfield 95, 3) := by decide +kernel
theorem dX9_settle_95 : decode cX9_settle 95 = .ok (.iload_n 3, 1) := by decide +kernel
theorem dX9_settle_96 : decode cX9_settle 96 = .ok (.iconst 2, 1) := by decide +kernel
theorem dX9_settle_97 : decode cX9_settle 97 = .ok (.iadd, 1) := by decide +kernel
theorem dX9_settle_98 : decode cX9_settle 98 = .ok (.iaload, 1) := by decide +kernel
theorem dX9_settle_99 : decode cX9_settle 99 = .ok (.invokevirtual 98, 3) := by decide +kernel
theorem dX9_settle_102 : decode cX9_settle 102 = .ok (.iastore, 1) := by decide +kernel
theorem dX9_settle_103 : decode cX9_settle 103 = .ok (.aload_n 0, 1) := by decide +kernel
theorem dX9_settle_104 : decode cX9_settle 104 = .ok (.getfield 62, 3) := by decide +kernel
theorem dX9_settle_107 : decode cX9_settle 107 = .ok (.iload_n 2, 1) := by decide +kernel
theorem dX9_settle_108 : decode cX9_settle 108 = .ok (.aload_n 1, 1) := by decide +kernel
theorem dX9_settle_109 : decode cX9_settle 109 = .ok (.getfield 95, 3) := by decide +kernel
theorem dX9_settle_112 : decode cX9_settle 112 = .ok (.iload_n 3, 1) := by decide +kernel
theorem dX9_settle_113 : decode cX9_settle 113 = .ok (.iconst 3, 1) := by decide +kernel
theorem dX9_settle_114 : decode cX9_settle 114 = .ok (.iadd, 1) := by decide +kernel
theorem dX9_settle_115 : decode cX9_settle 115 = .ok (.iaload, 1) := by decide +kernel
theorem dX9_settle_116 : decode cX9_settle 116 = .ok (.iastore, 1) := by decide +kernel
theorem dX9_settle_117 : decode cX9_settle 117 = .ok (.aload_n 0, 1) := by decide +kernel
theorem dX9_settle_118 : decode cX9_settle 118 = .ok (.getfield 65, 3) := by decide +kernel
theorem dX9_settle_121 : decode cX9_settle 121 = .ok (.iload_n 2, 1) := by decide +kernel
theorem dX9_settle_122 : decode cX9_settle 122 = .ok (.aload_n 1, 1) := by decide +kernel
theorem dX9_settle_123 : decode cX9_settle 123 = .ok (.getfield 95, 3) := by decide +kernel
theorem dX9_settle_126 : decode cX9_settle 126 = .ok (.iload_n 3, 1) := by decide +kernel
theorem dX9_settle_127 : decode cX9_settle 127 = .ok (.iconst 4, 1) := by decide +kernel
theorem dX9_settle_128 : decode cX9_settle 128 = .ok (.iadd, 1) := by decide +kernel
theorem dX9_settle_129 : decode cX9_settle 129 = .ok (.iaload, 1) := by decide +kernel
theorem dX9_settle_130 : decode cX9_settle 130 = .ok (.iastore, 1) := by decide +kernel
theorem dX9_settle_131 : decode cX9_settle 131 = .ok (.iinc 2 1, 3) := by decide +kernel
theorem dX9_settle_134 : decode cX9_settle 134 = .ok (.goto (-90), 3) := by decide +kernel
theorem dX9_settle_137 : decode cX9_settle 137 = .ok (.aload_n 0, 1) := by decide +kernel
theorem dX9_settle_138 : decode cX9_settle 138 = .ok (.iconst 0, 1) := by decide +kernel
theorem dX9_settle_139 : decode cX9_settle 139 = .ok (.putfield 18, 3) := by decide +kernel
theorem dX9_settle_142 : decode cX9_settle 142 = .ok (.aload_n 0, 1) := by decide +kernel
theorem dX9_settle_143 : decode cX9_settle 143 = .ok (.invokevirtual 101, 3) := by decide +kernel
theorem dX9_settle_146 : decode cX9_settle 146 = .ok (.return_, 1) := by decide +kernel
theorem dX9_further_0 : decode cX9_further 0 = .ok (.aload_n 0, 1) := by decide +kernel
theorem dX9_further_1 : decode cX9_further 1 = .ok (.getfield 9, 3) := by decide +kernel
theorem dX9_further_4 : decode cX9_further 4 = .ok (.iconst 1, 1) := by decide +kernel
theorem dX9_further_5 : decode cX9_further 5 = .ok (.if_icmp .ge 5, 3) := by decide +kernel
theorem dX9_further_8 : decode cX9_further 8 = .ok (.iconst (-1), 1) := by decide +kernel
theorem dX9_further_9 : decode cX9_further 9 = .ok (.ireturn, 1) := by decide +kernel
theorem dX9_further_10 : decode cX9_further 10 = .ok (.iload_n 1, 1) := by decide +kernel
theorem dX9_further_11 : decode cX9_further 11 = .ok (.iload_n 2, 1) := by decide +kernel
theorem dX9_further_12 : decode cX9_further 12 = .ok (.iadd, 1) := by decide +kernel
theorem dX9_further_13 : decode cX9_further 13 = .ok (.aload_n 0, 1) := by decide +kernel
theorem dX9_further_14 : decode cX9_further 14 = .ok (.getfield 9, 3) := by decide +kernel
theorem dX9_further_17 : decode cX9_further 17 = .ok (.irem, 1) := by decide +kernel
theorem dX9_further_18 : decode cX9_further 18 = .ok (.istore_n 3, 1) := by decide +kernel
theorem dX9_further_19 : decode cX9_further 19 = .ok (.iload_n 3, 1) := by decide +kernel
theorem dX9_further_20 : decode cX9_further 20 = .ok (.iload_n 1, 1) := by decide +kernel
theorem dX9_further_21 : decode cX9_further 21 = .ok (.if_icmp .ne 7, 3) := by decide +kernel
theorem dX9_further_24 : decode cX9_further 24 = .ok (.iconst (-1), 1) := by decide +kernel
theorem dX9_further_25 : decode cX9_further 25 = .ok (.goto 4, 3) := by decide +kernel
theorem dX9_further_28 : decode cX9_further 28 = .ok (.iload_n 3, 1) := by decide +kernel
theorem dX9_further_29 : decode cX9_further 29 = .ok (.ireturn, 1) := by decide +kernel
theorem dX9_startAnew_0 : decode cX9_startAnew 0 = .ok (.aload_n 0, 1) := by decide +kernel
theorem dX9_startAnew_1 : decode cX9_startAnew 1 = .ok (.iconst 0, 1) := by decide +kernel
theorem dX9_startAnew_2 : decode cX9_startAnew 2 = .ok (.putfield 15, 3) := by decide +kernel
theorem dX9_startAnew_5 : decode cX9_startAnew 5 = .ok (.aload_n 0, 1) := by decide +kernel
theorem dX9_startAnew_6 : decode cX9_startAnew 6 = .ok (.getfield 68, 3) := by decide +kernel
theorem dX9_startAnew_9 : decode cX9_startAnew 9 = .ok (.iconst 0, 1) := by decide +kernel
theorem dX9_startAnew_10 : decode cX9_startAnew 10 = .ok (.aload_n 0, 1) := by decide +kernel
theorem dX9_startAnew_11 : decode cX9_startAnew 11 = .ok (.getfield 59, 3) := by decide +kernel
theorem dX9_startAnew_14 : decode cX9_startAnew 14 = .ok (.iconst 0, 1) := by decide +kernel
theorem dX9_startAnew_15 : decode cX9_startAnew 15 = .ok (.iconst 5, 1) := by decide +kernel
theorem dX9_startAnew_16 : decode cX9_startAnew 16 = .ok (.invokestatic 104, 3) := by decide +kernel
theorem dX9_startAnew_19 : decode cX9_startAnew 19 = .ok (.aload_n 0, 1) := by decide +kernel
theorem dX9_startAnew_20 : decode cX9_startAnew 20 = .ok (.getfield 62, 3) := by decide +kernel
theorem dX9_startAnew_23 : decode cX9_startAnew 23 = .ok (.iconst 0, 1) := by decide +kernel
theorem dX9_startAnew_24 : decode cX9_startAnew 24 = .ok (.aload_n 0, 1) := by decide +kernel
theorem dX9_startAnew_25 : decode cX9_startAnew 25 = .ok (.getfield 53, 3) := by decide +kernel
theorem dX9_startAnew_28 : decode cX9_startAnew 28 = .ok (.iconst 0, 1) := by decide +kernel
theorem dX9_startAnew_29 : decode cX9_startAnew 29 = .ok (.bipush 7, 2) := by decide +kernel
theorem dX9_startAnew_31 : decode cX9_startAnew 31 = .ok (.invokestatic 104, 3) := by decide +kernel
theorem dX9_startAnew_34 : decode cX9_startAnew 34 = .ok (.aload_n 0, 1) := by decide +kernel
theorem dX9_startAnew_35 : decode cX9_startAnew 35 = .ok (.getfield 65, 3) := by decide +kernel
theorem dX9_startAnew_38 : decode cX9_startAnew 38 = .ok (.iconst 0, 1) := by decide +kernel
theorem dX9_startAnew_39 : decode cX9_startAnew 39 = .ok (.aload_n 0, 1) := by decide +kernel
theorem dX9_startAnew_40 : decode cX9_startAnew 40 = .ok (.getfield 56, 3) := by decide +kernel
theorem dX9_startAnew_43 : decode cX9_startAnew 43 = .ok (.iconst 0, 1) := by decide +kernel
theorem dX9_startAnew_44 : decode cX9_startAnew 44 = .ok (.bipush 7, 2) := by decide +kernel
theorem dX9_startAnew_46 : decode cX9_startAnew 46 = .ok (.invokestatic 104, 3) := by decide +kernel
theorem dX9_startAnew_49 : decode cX9_startAnew 49 = .ok (.return_, 1) := by decide +kernel
theorem dX9_become_0 : decode cX9_become 0 = .ok (.aload_n 0, 1) := by decide +kernel
theorem dX9_become_1 : decode cX9_become 1 = .ok (.aload_n 1, 1) := by decide +kernel
theorem dX9_become_2 : decode cX9_become 2 = .ok (.invokevirtual 110, 3) := by decide +kernel
theorem dX9_become_5 : decode cX9_become 5 = .ok (.aload_n 1, 1) := by decide +kernel
theorem dX9_become_6 : decode cX9_become 6 = .ok (.getfield 62, 3) := by decide +kernel
theorem dX9_become_9 : decode cX9_become 9 = .ok (.iconst 0, 1) := by decide +kernel
theorem dX9_become_10 : decode cX9_become 10 = .ok (.aload_n 0, 1) := by decide +kernel
theorem dX9_become_11 : decode cX9_become 11 = .ok (.getfield 62, 3) := by decide +kernel
theorem dX9_become_14 : decode cX9_become 14 = .ok (.iconst 0, 1) := by decide +kernel
theorem dX9_become_15 : decode cX9_become 15 = .ok (.bipush 7, 2) := by decide +kernel
theorem dX9_become_17 : decode cX9_become 17 = .ok (.invokestatic 104, 3) := by decide +kernel
theorem dX9_become_20 : decode cX9_become 20 = .ok (.aload_n 1, 1) := by decide +kernel
theorem dX9_become_21 : decode cX9_become 21 = .ok (.getfield 65, 3) := by decide +kernel
theorem dX9_become_24 : decode cX9_become 24 = .ok (.iconst 0, 1) := by decide +kernel
theorem dX9_become_25 : decode cX9_become 25 = .ok (.aload_n 0, 1) := by decide +kernel
theorem dX9_become_26 : decode cX9_become 26 = .ok (.getfield 65, 3) := by decide +kernel
theorem dX9_become_29 : decode cX9_become 29 = .ok (.iconst 0, 1) := by decide +kernel
theorem dX9_become_30 : decode cX9_become 30 = .ok (.bipush 7, 2) := by decide +kernel
theorem dX9_become_32 : decode cX9_become 32 = .ok (.invokestatic 104, 3) := by decide +kernel
theorem dX9_become_35 : decode cX9_become 35 = .ok (.aload_n 1, 1) := by decide +kernel
theorem dX9_become_36 : decode cX9_become 36 = .ok (.getfield 68, 3) := by decide +kernel
theorem dX9_become_39 : decode cX9_become 39 = .ok (.iconst 0, 1) := by decide +kernel
theorem dX9_become_40 : decode cX9_become 40 = .ok (.aload_n 0, 1) := by decide +kernel
theorem dX9_become_41 : decode cX9_become 41 = .ok (.getfield 68, 3) := by decide +kernel
theorem dX9_become_44 : decode cX9_become 44 = .ok (.iconst 0, 1) := by decide +kernel
theorem dX9_become_45 : decode cX9_become 45 = .ok (.iconst 5, 1) := by decide +kernel
theorem dX9_become_46 : decode cX9_become 46 = .ok (.invokestatic 104, 3) := by decide +kernel
theorem dX9_become_49 : decode cX9_become 49 = .ok (.aload_n 0, 1) := by decide +kernel
theorem dX9_become_50 : decode cX9_become 50 = .ok (.aload_n 1, 1) := by decide +kernel
theorem dX9_become_51 : decode cX9_become 51 = .ok (.getfield 18, 3) := by decide +kernel
theorem dX9_become_54 : decode cX9_become 54 = .ok (.putfield 18, 3) := by decide +kernel
theorem dX9_become_57 : decode cX9_become 57 = .ok (.aload_n 1, 1) := by decide +kernel
theorem dX9_become_58 : decode cX9_become 58 = .ok (.getfield 71, 3) := by decide +kernel
theorem dX9_become_61 : decode cX9_become 61 = .ok (.iconst 0, 1) := by decide +kernel
theorem dX9_become_62 : decode cX9_become 62 = .ok (.aload_n 0, 1) := by decide +kernel
theorem dX9_become_63 : decode cX9_become 63 = .ok (.getfield 71, 3) := by decide +kernel
theorem dX9_become_66 : decode cX9_become 66 = .ok (.iconst 0, 1) := by decide +kernel
theorem dX9_become_67 : decode cX9_become 67 = .ok (.bipush 40, 2) := by decide +kernel
theorem dX9_become_69 : decode cX9_become 69 = .ok (.invokestatic 104, 3) := by decide +kernel
theorem dX9_become_72 : decode cX9_become 72 = .ok (.aload_n 1, 1) := by decide +kernel
theorem dX9_become_73 : decode cX9_become 73 = .ok (.getfield 74, 3) := by decide +kernel
theorem dX9_become_76 : decode cX9_become 76 = .ok (.iconst 0, 1) := by decide +kernel
theorem dX9_become_77 : decode cX9_become 77 = .ok (.aload_n 0, 1) := by decide +kernel
theorem dX9_become_78 : decode cX9_become 78 = .ok (.getfield 74, 3) := by decide +kernel
theorem dX9_become_81 : decode cX9_become 81 = .ok (.iconst 0, 1) := by decide +kernel
theorem dX9_become_82 : decode cX9_become 82 = .ok (.bipush 40, 2) := by decide +kernel
theorem dX9_become_84 : decode cX9_become 84 = .ok (.invokestatic 104, 3) := by decide +kernel
theorem dX9_become_87 : decode cX9_become 87 = .ok (.aload_n 1, 1) := by decide +kernel
theorem dX9_become_88 : decode cX9_become 88 = .ok (.getfield 77, 3) := by decide +kernel
theorem dX9_become_91 : decode cX9_become 91 = .ok (.iconst 0, 1) := by decide +kernel
theorem dX9_become_92 : decode cX9_become 92 = .ok (.aload_n 0, 1) := by decide +kernel
theorem dX9_become_93 : decode cX9_become 93 = .ok (.getfield 77, 3) := by decide +kernel
theorem dX9_become_96 : decode cX9_become 96 = .ok (.iconst 0, 1) := by decide +kernel
theorem dX9_become_97 : decode cX9_become 97 = .ok (.bipush 40, 2) := by decide +kernel
theorem dX9_become_99 : decode cX9_become 99 = .ok (.invokestatic 104, 3) := by decide +kernel
theorem dX9_become_102 : decode cX9_become 102 = .ok (.return_, 1) := by decide +kernel
theorem dX9_becomeAside_0 : decode cX9_becomeAside 0 = .ok (.aload_n 0, 1) := by decide +kernel
theorem dX9_becomeAside_1 : decode cX9_becomeAside 1 = .ok (.aload_n 1, 1) := by decide +kernel
theorem dX9_becomeAside_2 : decode cX9_becomeAside 2 = .ok (.getfield 9, 3) := by decide +kernel
theorem dX9_becomeAside_5 : decode cX9_becomeAside 5 = .ok (.putfield 9, 3) := by decide +kernel
theorem dX9_becomeAside_8 : decode cX9_becomeAside 8 = .ok (.aload_n 0, 1) := by decide +kernel
theorem dX9_becomeAside_9 : decode cX9_becomeAside 9 = .ok (.aload_n 1, 1) := by decide +kernel
theorem dX9_becomeAside_10 : decode cX9_becomeAside 10 = .ok (.getfield 15, 3) := by decide +kernel
theorem dX9_becomeAside_13 : decode cX9_becomeAside 13 = .ok (.putfield 15, 3) := by decide +kernel
theorem dX9_becomeAside_16 : decode cX9_becomeAside 16 = .ok (.aload_n 1, 1) := by decide +kernel
theorem dX9_becomeAside_17 : decode cX9_becomeAside 17 = .ok (.getfield 43, 3) := by decide +kernel
theorem dX9_becomeAside_20 : decode cX9_becomeAside 20 = .ok (.iconst 0, 1) := by decide +kernel
theorem dX9_becomeAside_21 : decode cX9_becomeAside 21 = .ok (.aload_n 0, 1) := by decide +kernel
theorem dX9_becomeAside_22 : decode cX9_becomeAside 22 = .ok (.getfield 43, 3) := by decide +kernel
theorem dX9_becomeAside_25 : decode cX9_becomeAside 25 = .ok (.iconst 0, 1) := by decide +kernel
theorem dX9_becomeAside_26 : decode cX9_becomeAside 26 = .ok (.bipush 7, 2) := by decide +kernel
theorem dX9_becomeAside_28 : decode cX9_becomeAside 28 = .ok (.invokestatic 104, 3) := by decide +kernel
theorem dX9_becomeAside_31 : decode cX9_becomeAside 31 = .ok (.aload_n 1, 1) := by decide +kernel
theorem dX9_becomeAside_32 : decode cX9_becomeAside 32 = .ok (.getfield 47, 3) := by decide +kernel
theorem dX9_becomeAside_35 : decode cX9_becomeAside 35 = .ok (.iconst 0, 1) := by decide +kernel
theorem dX9_becomeAside_36 : decode cX9_becomeAside 36 = .ok (.aload_n 0, 1) := by decide +kernel
theorem dX9_becomeAside_37 : decode cX9_becomeAside 37 = .ok (.getfield 47, 3) := by decide +kernel
theorem dX9_becomeAside_40 : decode cX9_becomeAside 40 = .ok (.iconst 0, 1) := by decide +kernel
theorem dX9_becomeAside_41 : decode cX9_becomeAside 41 = .ok (.bipush 7, 2) := by decide +kernel
theorem dX9_becomeAside_43 : decode cX9_becomeAside 43 = .ok (.invokestatic 104, 3) := by decide +kernel
theorem dX9_becomeAside_46 : decode cX9_becomeAside 46 = .ok (.aload_n 1, 1) := by decide +kernel
theorem dX9_becomeAside_47 : decode cX9_becomeAside 47 = .ok (.getfield 50, 3) := by decide +kernel
theorem dX9_becomeAside_50 : decode cX9_becomeAside 50 = .ok (.iconst 0, 1) := by decide +kernel
theorem dX9_becomeAside_51 : decode cX9_becomeAside 51 = .ok (.aload_n 0, 1) := by decide +kernel
theorem dX9_becomeAside_52 : decode cX9_becomeAside 52 = .ok (.getfield 50, 3) := by decide +kernel
theorem dX9_becomeAside_55 : decode cX9_becomeAside 55 = .ok (.iconst 0, 1) := by decide +kernel
theorem dX9_becomeAside_56 : decode cX9_becomeAside 56 = .ok (.bipush 7, 2) := by decide +kernel
theorem dX9_becomeAside_58 : decode cX9_becomeAside 58 = .ok (.invokestatic 104, 3) := by decide +kernel
theorem dX9_becomeAside_61 : decode cX9_becomeAside 61 = .ok (.aload_n 1, 1) := by decide +kernel
theorem dX9_becomeAside_62 : decode cX9_becomeAside 62 = .ok (.getfield 53, 3) := by decide +kernel
theorem dX9_becomeAside_65 : decode cX9_becomeAside 65 = .ok (.iconst 0, 1) := by decide +kernel
theorem dX9_becomeAside_66 : decode cX9_becomeAside 66 = .ok (.aload_n 0, 1) := by decide +kernel
theorem dX9_becomeAside_67 : decode cX9_becomeAside 67 = .ok (.getfield 53, 3) := by decide +kernel
theorem dX9_becomeAside_70 : decode cX9_becomeAside 70 = .ok (.iconst 0, 1) := by decide +kernel
theorem dX9_becomeAside_71 : decode cX9_becomeAside 71 = .ok (.bipush 7, 2) := by decide +kernel
theorem dX9_becomeAside_73 : decode cX9_becomeAside 73 = .ok (.invokestatic 104, 3) := by decide +kernel
theorem dX9_becomeAside_76 : decode cX9_becomeAside 76 = .ok (.aload_n 1, 1) := by decide +kernel
theorem dX9_becomeAside_77 : decode cX9_becomeAside 77 = .ok (.getfield 56, 3) := by decide +kernel
theorem dX9_becomeAside_80 : decode cX9_becomeAside 80 = .ok (.iconst 0, 1) := by decide +kernel
theorem dX9_becomeAside_81 : decode cX9_becomeAside 81 = .ok (.aload_n 0, 1) := by decide +kernel
theorem dX9_becomeAside_82 : decode cX9_becomeAside 82 = .ok (.getfield 56, 3) := by decide +kernel
theorem dX9_becomeAside_85 : decode cX9_becomeAside 85 = .ok (.iconst 0, 1) := by decide +kernel
theorem dX9_becomeAside_86 : decode cX9_becomeAside 86 = .ok (.bipush 7, 2) := by decide +kernel
theorem dX9_becomeAside_88 : decode cX9_becomeAside 88 = .ok (.invokestatic 104, 3) := by decide +kernel
theorem dX9_becomeAside_91 : decode cX9_becomeAside 91 = .ok (.aload_n 1, 1) := by decide +kernel
theorem dX9_becomeAside_92 : decode cX9_becomeAside 92 = .ok (.getfield 59, 3) := by decide +kernel
theorem dX9_becomeAside_95 : decode cX9_becomeAside 95 = .ok (.iconst 0, 1) := by decide +kernel
theorem dX9_becomeAside_96 : decode cX9_becomeAside 96 = .ok (.aload_n 0, 1) := by decide +kernel
theorem dX9_becomeAside_97 : decode cX9_becomeAside 97 = .ok (.getfield 59, 3) := by decide +kernel
theorem dX9_becomeAside_100 : decode cX9_becomeAside 100 = .ok (.iconst 0, 1) := by decide +kernel
theorem dX9_becomeAside_101 : decode cX9_becomeAside 101 = .ok (.iconst 5, 1) := by decide +kernel
theorem dX9_becomeAside_102 : decode cX9_becomeAside 102 = .ok (.invokestatic 104, 3) := by decide +kernel
theorem dX9_becomeAside_105 : decode cX9_becomeAside 105 = .ok (.return_, 1) := by decide +kernel
theorem dX9_perform_0 : decode cX9_perform 0 = .ok (.aload_n 0, 1) := by decide +kernel
theorem dX9_perform_1 : decode cX9_perform 1 = .ok (.getfield 18, 3) := by decide +kernel
theorem dX9_perform_4 : decode cX9_perform 4 = .ok (.bipush 40, 2) := by decide +kernel
theorem dX9_perform_6 : decode cX9_perform 6 = .ok (.if_icmp .ge 51, 3) := by decide +kernel
theorem dX9_perform_9 : decode cX9_perform 9 = .ok (.aload_n 0, 1) := by decide +kernel
theorem dX9_perform_10 : decode cX9_perform 10 = .ok (.getfield 71, 3) := by decide +kernel
theorem dX9_perform_13 : decode cX9_perform 13 = .ok (.aload_n 0, 1) := by decide +kernel
theorem dX9_perform_14 : decode cX9_perform 14 = .ok (.getfield 18, 3) := by decide +kernel
theorem dX9_perform_17 : decode cX9_perform 17 = .ok (.iload_n 1, 1) := by decide +kernel
theorem dX9_perform_18 : decode cX9_perform 18 = .ok (.iastore, 1) := by decide +kernel
theorem dX9_perform_19 : decode cX9_perform 19 = .ok (.aload_n 0, 1) := by decide +kernel
theorem dX9_perform_20 : decode cX9_perform 20 = .ok (.getfield 74, 3) := by decide +kernel
theorem dX9_perform_23 : decode cX9_perform 23 = .ok (.aload_n 0, 1) := by decide +kernel
theorem dX9_perform_24 : decode cX9_perform 24 = .ok (.getfield 18, 3) := by decide +kernel
theorem dX9_perform_27 : decode cX9_perform 27 = .ok (.iload_n 2, 1) := by decide +kernel
theorem dX9_perform_28 : decode cX9_perform 28 = .ok (.iastore, 1) := by decide +kernel
theorem dX9_perform_29 : decode cX9_perform 29 = .ok (.aload_n 0, 1) := by decide +kernel
theorem dX9_perform_30 : decode cX9_perform 30 = .ok (.getfield 77, 3) := by decide +kernel
theorem dX9_perform_33 : decode cX9_perform 33 = .ok (.aload_n 0, 1) := by decide +kernel
theorem dX9_perform_34 : decode cX9_perform 34 = .ok (.getfield 18, 3) := by decide +kernel
theorem dX9_perform_37 : decode cX9_perform 37 = .ok (.iload_n 3, 1) := by decide +kernel
theorem dX9_perform_38 : decode cX9_perform 38 = .ok (.iastore, 1) := by decide +kernel
theorem dX9_perform_39 : decode cX9_perform 39 = .ok (.aload_n 0, 1) := by decide +kernel
theorem dX9_perform_40 : decode cX9_perform 40 = .ok (.aload_n 0, 1) := by decide +kernel
theorem dX9_perform_41 : decode cX9_perform 41 = .ok (.getfield 18, 3) := by decide +kernel
theorem dX9_perform_44 : decode cX9_perform 44 = .ok (.invokevirtual 114, 3) := by decide +kernel
theorem dX9_perform_47 : decode cX9_perform 47 = .ok (.aload_n 0, 1) := by decide +kernel
theorem dX9_perform_48 : decode cX9_perform 48 = .ok (.dup, 1) := by decide +kernel
theorem dX9_perform_49 : decode cX9_perform 49 = .ok (.getfield 18, 3) := by decide +kernel
theorem dX9_perform_52 : decode cX9_perform 52 = .ok (.iconst 1, 1) := by decide +kernel
theorem dX9_perform_53 : decode cX9_perform 53 = .ok (.iadd, 1) := by decide +kernel
theorem dX9_perform_54 : decode cX9_perform 54 = .ok (.putfield 18, 3) := by decide +kernel
theorem dX9_perform_57 : decode cX9_perform 57 = .ok (.return_, 1) := by decide +kernel
theorem dX9_goBackTo_0 : decode cX9_goBackTo 0 = .ok (.aload_n 0, 1) := by decide +kernel
theorem dX9_goBackTo_1 : decode cX9_goBackTo 1 = .ok (.iconst 0, 1) := by decide +kernel
theorem dX9_goBackTo_2 : decode cX9_goBackTo 2 = .ok (.iload_n 1, 1) := by decide +kernel
theorem dX9_goBackTo_3 : decode cX9_goBackTo 3 = .ok (.aload_n 0, 1) := by decide +kernel
theorem dX9_goBackTo_4 : decode cX9_goBackTo 4 = .ok (.getfield 18, 3) := by decide +kernel
theorem dX9_goBackTo_7 : decode cX9_goBackTo 7 = .ok (.invokestatic 86, 3) := by decide +kernel
theorem dX9_goBackTo_10 : decode cX9_goBackTo 10 = .ok (.invokestatic 92, 3) := by decide +kernel
theorem dX9_goBackTo_13 : decode cX9_goBackTo 13 = .ok (.putfield 18, 3) := by decide +kernel
theorem dX9_goBackTo_16 : decode cX9_goBackTo 16 = .ok (.aload_n 0, 1) := by decide +kernel
theorem dX9_goBackTo_17 : decode cX9_goBackTo 17 = .ok (.invokevirtual 101, 3) := by decide +kernel
theorem dX9_goBackTo_20 : decode cX9_goBackTo 20 = .ok (.iconst 0, 1) := by decide +kernel
theorem dX9_goBackTo_21 : decode cX9_goBackTo 21 = .ok (.istore_n 2, 1) := by decide +kernel
theorem dX9_goBackTo_22 : decode cX9_goBackTo 22 = .ok (.iload_n 2, 1) := by decide +kernel
theorem dX9_goBackTo_23 : decode cX9_goBackTo 23 = .ok (.aload_n 0, 1) := by decide +kernel
theorem dX9_goBackTo_24 : decode cX9_goBackTo 24 = .ok (.getfield 18, 3) := by decide +kernel
theorem dX9_goBackTo_27 : decode cX9_goBackTo 27 = .ok (.if_icmp .ge 14, 3) := by decide +kernel
theorem dX9_goBackTo_30 : decode cX9_goBackTo 30 = .ok (.aload_n 0, 1) := by decide +kernel
theorem dX9_goBackTo_31 : decode cX9_goBackTo 31 = .ok (.iload_n 2, 1) := by decide +kernel
theorem dX9_goBackTo_32 : decode cX9_goBackTo 32 = .ok (.invokevirtual 114, 3) := by decide +kernel
theorem dX9_goBackTo_35 : decode cX9_goBackTo 35 = .ok (.iinc 2 1, 3) := by decide +kernel
theorem dX9_goBackTo_38 : decode cX9_goBackTo 38 = .ok (.goto (-16), 3) := by decide +kernel
theorem dX9_goBackTo_41 : decode cX9_goBackTo 41 = .ok (.return_, 1) := by decide +kernel
theorem dX9_carryOut_0 : decode cX9_carryOut 0 = .ok (.aload_n 0, 1) := by decide +kernel
theorem dX9_carryOut_1 : decode cX9_carryOut 1 = .ok (.getfield 74, 3) := by decide +kernel
theorem dX9_carryOut_4 : decode cX9_carryOut 4 = .ok (.iload_n 1, 1) := by decide +kernel
theorem dX9_carryOut_5 : decode cX9_carryOut 5 = .ok (.iaload, 1) := by decide +kernel
theorem dX9_carryOut_6 : decode cX9_carryOut 6 = .ok (.istore_n 2, 1) := by decide +kernel
theorem dX9_carryOut_7 : decode cX9_carryOut 7 = .ok (.aload_n 0, 1) := by decide +kernel
theorem dX9_carryOut_8 : decode cX9_carryOut 8 = .ok (.getfield 71, 3) := by decide +kernel
theorem dX9_carryOut_11 : decode cX9_carryOut 11 = .ok (.iload_n 1, 1) := by decide +kernel
theorem dX9_carryOut_12 : decode cX9_carryOut 12 = .ok (.iaload, 1) := by decide +kernel
theorem dX9_carryOut_13 : decode cX9_carryOut 13 = .ok (.tableswitch 90 1 4 #[31, 38, 65, 75], 31) := by decide +kernel
theorem dX9_carryOut_44 : decode cX9_carryOut 44 = .ok (.aload_n 0, 1) := by decide +kernel
theorem dX9_carryOut_45 : decode cX9_carryOut 45 = .ok (.invokevirtual 118, 3) := by decide +kernel
theorem dX9_carryOut_48 : decode cX9_carryOut 48 = .ok (.goto 55, 3) := by decide +kernel
theorem dX9_carryOut_51 : decode cX9_carryOut 51 = .ok (.aload_n 0, 1) := by decide +kernel
theorem dX9_carryOut_52 : decode cX9_carryOut 52 = .ok (.getfield 59, 3) := by decide +kernel
theorem dX9_carryOut_55 : decode cX9_carryOut 55 = .ok (.iload_n 2, 1) := by decide +kernel
theorem dX9_carryOut_56 : decode cX9_carryOut 56 = .ok (.bipush 9, 2) := by decide +kernel
theorem dX9_carryOut_58 : decode cX9_carryOut 58 = .ok (.aload_n 0, 1) := by decide +kernel
theorem dX9_carryOut_59 : decode cX9_carryOut 59 = .ok (.getfield 59, 3) := by decide +kernel
theorem dX9_carryOut_62 : decode cX9_carryOut 62 = .ok (.iload_n 2, 1) := by decide +kernel
theorem dX9_carryOut_63 : decode cX9_carryOut 63 = .ok (.iaload, 1) := by decide +kernel
theorem dX9_carryOut_64 : decode cX9_carryOut 64 = .ok (.aload_n 0, 1) := by decide +kernel
theorem dX9_carryOut_65 : decode cX9_carryOut 65 = .ok (.getfield 77, 3) := by decide +kernel
theorem dX9_carryOut_68 : decode cX9_carryOut 68 = .ok (.iload_n 1, 1) := by decide +kernel
theorem dX9_carryOut_69 : decode cX9_carryOut 69 = .ok (.iaload, 1) := by decide +kernel
theorem dX9_carryOut_70 : decode cX9_carryOut 70 = .ok (.iadd, 1) := by decide +kernel
theorem dX9_carryOut_71 : decode cX9_carryOut 71 = .ok (.invokestatic 86, 3) := by decide +kernel
theorem dX9_carryOut_74 : decode cX9_carryOut 74 = .ok (.iastore, 1) := by decide +kernel
theorem dX9_carryOut_75 : decode cX9_carryOut 75 = .ok (.goto 28, 3) := by decide +kernel
theorem dX9_carryOut_78 : decode cX9_carryOut 78 = .ok (.aload_n 0, 1) := by decide +kernel
theorem dX9_carryOut_79 : decode cX9_carryOut 79 = .ok (.getfield 59, 3) := by decide +kernel
theorem dX9_carryOut_82 : decode cX9_carryOut 82 = .ok (.iload_n 2, 1) := by decide +kernel
theorem dX9_carryOut_83 : decode cX9_carryOut 83 = .ok (.iconst 0, 1) := by decide +kernel
theorem dX9_carryOut_84 : decode cX9_carryOut 84 = .ok (.iastore, 1) := by decide +kernel
theorem dX9_carryOut_85 : decode cX9_carryOut 85 = .ok (.goto 18, 3) := by decide +kernel
theorem dX9_carryOut_88 : decode cX9_carryOut 88 = .ok (.aload_n 0, 1) := by decide +kernel
theorem dX9_carryOut_89 : decode cX9_carryOut 89 = .ok (.getfield 56, 3) := by decide +kernel
theorem dX9_carryOut_92 : decode cX9_carryOut 92 = .ok (.iload_n 2, 1) := by decide +kernel
theorem dX9_carryOut_93 : decode cX9_carryOut 93 = .ok (.aload_n 0, 1) := by decide +kernel
theorem dX9_carryOut_94 : decode cX9_carryOut 94 = .ok (.getfield 77, 3) := by decide +kernel
theorem dX9_carryOut_97 : decode cX9_carryOut 97 = .ok (.iload_n 1, 1) := by decide +kernel
theorem dX9_carryOut_98 : decode cX9_carryOut 98 = .ok (.iaload, 1) := by decide +kernel
theorem dX9_carryOut_99 : decode cX9_carryOut 99 = .ok (.iastore, 1) := by decide +kernel
theorem dX9_carryOut_100 : decode cX9_carryOut 100 = .ok (.goto 3, 3) := by decide +kernel
theorem dX9_carryOut_103 : decode cX9_carryOut 103 = .ok (.return_, 1) := by decide +kernel
theorem dX9_passDay_0 : decode cX9_passDay 0 = .ok (.iconst 0, 1) := by decide +kernel
theorem dX9_passDay_1 : decode cX9_passDay 1 = .ok (.istore_n 1, 1) := by decide +kernel
theorem dX9_passDay_2 : decode cX9_passDay 2 = .ok (.iload_n 1, 1) := by decide +kernel
theorem dX9_passDay_3 : decode cX9_passDay 3 = .ok (.aload_n 0, 1) := by decide +kernel
theorem dX9_passDay_4 : decode cX9_passDay 4 = .ok (.getfield 9, 3) := by decide +kernel
theorem dX9_passDay_7 : decode cX9_passDay 7 = .ok (.if_icmp .ge 38, 3) := by decide +kernel
theorem dX9_passDay_10 : decode cX9_passDay 10 = .ok (.aload_n 0, 1) := by decide +kernel
theorem dX9_passDay_11 : decode cX9_passDay 11 = .ok (.getfield 53, 3) := by decide +kernel
theorem dX9_passDay_14 : decode cX9_passDay 14 = .ok (.iload_n 1, 1) := by decide +kernel
theorem dX9_passDay_15 : decode cX9_passDay 15 = .ok (.aload_n 0, 1) := by decide +kernel
theorem dX9_passDay_16 : decode cX9_passDay 16 = .ok (.iload_n 1, 1) := by decide +kernel
theorem dX9_passDay_17 : decode cX9_passDay 17 = .ok (.invokevirtual 121, 3) := by decide +kernel
theorem dX9_passDay_20 : decode cX9_passDay 20 = .ok (.aload_n 0, 1) := by decide +kernel
theorem dX9_passDay_21 : decode cX9_passDay 21 = .ok (.getfield 53, 3) := by decide +kernel
theorem dX9_passDay_24 : decode cX9_passDay 24 = .ok (.iload_n 1, 1) := by decide +kernel
theorem dX9_passDay_25 : decode cX9_passDay 25 = .ok (.iaload, 1) := by decide +kernel
theorem dX9_passDay_26 : decode cX9_passDay 26 = .ok (.aload_n 0, 1) := by decide +kernel
theorem dX9_passDay_27 : decode cX9_passDay 27 = .ok (.iload_n 1, 1) := by decide +kernel
theorem dX9_passDay_28 : decode cX9_passDay 28 = .ok (.invokevirtual 125, 3) := by decide +kernel
theorem dX9_passDay_31 : decode cX9_passDay 31 = .ok (.aload_n 0, 1) := by decide +kernel
theorem dX9_passDay_32 : decode cX9_passDay 32 = .ok (.getfield 15, 3) := by decide +kernel
theorem dX9_passDay_35 : decode cX9_passDay 35 = .ok (.invokevirtual 129, 3) := by decide +kernel
theorem dX9_passDay_38 : decode cX9_passDay 38 = .ok (.iastore, 1) := by decide +kernel
theorem dX9_passDay_39 : decode cX9_passDay 39 = .ok (.iinc 1 1, 3) := by decide +kernel
theorem dX9_passDay_42 : decode cX9_passDay 42 = .ok (.goto (-40), 3) := by decide +kernel
theorem dX9_passDay_45 : decode cX9_passDay 45 = .ok (.aload_n 0, 1) := by decide +kernel
theorem dX9_passDay_46 : decode cX9_passDay 46 = .ok (.dup, 1) := by decide +kernel
theorem dX9_passDay_47 : decode cX9_passDay 47 = .ok (.getfield 15, 3) := by decide +kernel
theorem dX9_passDay_50 : decode cX9_passDay 50 = .ok (.iconst 1, 1) := by decide +kernel
theorem dX9_passDay_51 : decode cX9_passDay 51 = .ok (.iadd, 1) := by decide +kernel
theorem dX9_passDay_52 : decode cX9_passDay 52 = .ok (.putfield 15, 3) := by decide +kernel
theorem dX9_passDay_55 : decode cX9_passDay 55 = .ok (.return_, 1) := by decide +kernel
theorem dX9_moodOf_0 : decode cX9_moodOf 0 = .ok (.aload_n 0, 1) := by decide +kernel
theorem dX9_moodOf_1 : decode cX9_moodOf 1 = .ok (.iload_n 1, 1) := by decide +kernel
theorem dX9_moodOf_2 : decode cX9_moodOf 2 = .ok (.invokevirtual 133, 3) := by decide +kernel
theorem dX9_moodOf_5 : decode cX9_moodOf 5 = .ok (.ifCond .ne 5, 3) := by decide +kernel
theorem dX9_moodOf_8 : decode cX9_moodOf 8 = .ok (.iconst 0, 1) := by decide +kernel
theorem dX9_moodOf_9 : decode cX9_moodOf 9 = .ok (.ireturn, 1) := by decide +kernel
theorem dX9_moodOf_10 : decode cX9_moodOf 10 = .ok (.aload_n 0, 1) := by decide +kernel
theorem dX9_moodOf_11 : decode cX9_moodOf 11 = .ok (.iload_n 1, 1) := by decide +kernel
theorem dX9_moodOf_12 : decode cX9_moodOf 12 = .ok (.invokevirtual 121, 3) := by decide +kernel
theorem dX9_moodOf_15 : decode cX9_moodOf 15 = .ok (.invokevirtual 137, 3) := by decide +kernel
theorem dX9_moodOf_18 : decode cX9_moodOf 18 = .ok (.ifCond .ne 16, 3) := by decide +kernel
theorem dX9_moodOf_21 : decode cX9_moodOf 21 = .ok (.aload_n 0, 1) := by decide +kernel
theorem dX9_moodOf_22 : decode cX9_moodOf 22 = .ok (.aload_n 0, 1) := by decide +kernel
theorem dX9_moodOf_23 : decode cX9_moodOf 23 = .ok (.getfield 50, 3) := by decide +kernel
theorem dX9_moodOf_26 : decode cX9_moodOf 26 = .ok (.iload_n 1, 1) := by decide +kernel
theorem dX9_moodOf_27 : decode cX9_moodOf 27 = .ok (.iaload, 1) := by decide +kernel
theorem dX9_moodOf_28 : decode cX9_moodOf 28 = .ok (.invokevirtual 141, 3) := by decide +kernel
theorem dX9_moodOf_31 : decode cX9_moodOf 31 = .ok (.ifCond .eq 7, 3) := by decide +kernel
theorem dX9_moodOf_34 : decode cX9_moodOf 34 = .ok (.iconst 1, 1) := by decide +kernel
theorem dX9_moodOf_35 : decode cX9_moodOf 35 = .ok (.goto 4, 3) := by decide +kernel
theorem dX9_moodOf_38 : decode cX9_moodOf 38 = .ok (.iconst 2, 1) := by decide +kernel
theorem dX9_moodOf_39 : decode cX9_moodOf 39 = .ok (.ireturn, 1) := by decide +kernel
theorem dX9_facesFoe_0 : decode cX9_facesFoe 0 = .ok (.aload_n 0, 1) := by decide +kernel
theorem dX9_facesFoe_1 : decode cX9_facesFoe 1 = .ok (.iload_n 1, 1) := by decide +kernel
theorem dX9_facesFoe_2 : decode cX9_facesFoe 2 = .ok (.invokevirtual 133, 3) := by decide +kernel
theorem dX9_facesFoe_5 : decode cX9_facesFoe 5 = .ok (.ifCond .eq 20, 3) := by decide +kernel
theorem dX9_facesFoe_8 : decode cX9_facesFoe 8 = .ok (.aload_n 0, 1) := by decide +kernel
theorem dX9_facesFoe_9 : decode cX9_facesFoe 9 = .ok (.aload_n 0, 1) := by decide +kernel
theorem dX9_facesFoe_10 : decode cX9_facesFoe 10 = .ok (.getfield 50, 3) := by decide +kernel
theorem dX9_facesFoe_13 : decode cX9_facesFoe 13 = .ok (.iload_n 1, 1) := by decide +kernel
theorem dX9_facesFoe_14 : decode cX9_facesFoe 14 = .ok (.iaload, 1) := by decide +kernel
theorem dX9_facesFoe_15 : decode cX9_facesFoe 15 = .ok (.invokevirtual 141, 3) := by decide +kernel
theorem dX9_facesFoe_18 : decode cX9_facesFoe 18 = .ok (.ifCond .ne 7, 3) := by decide +kernel
theorem dX9_facesFoe_21 : decode cX9_facesFoe 21 = .ok (.iconst 1, 1) := by decide +kernel
theorem dX9_facesFoe_22 : decode cX9_facesFoe 22 = .ok (.goto 4, 3) := by decide +kernel
theorem dX9_facesFoe_25 : decode cX9_facesFoe 25 = .ok (.iconst 0, 1) := by decide +kernel
theorem dX9_facesFoe_26 : decode cX9_facesFoe 26 = .ok (.ireturn, 1) := by decide +kernel
theorem dX9_isHid_0 : decode cX9_isHid 0 = .ok (.aload_n 0, 1) := by decide +kernel
theorem dX9_isHid_1 : decode cX9_isHid 1 = .ok (.iload_n 1, 1) := by decide +kernel
theorem dX9_isHid_2 : decode cX9_isHid 2 = .ok (.invokevirtual 121, 3) := by decide +kernel
theorem dX9_isHid_5 : decode cX9_isHid 5 = .ok (.aload_n 0, 1) := by decide +kernel
theorem dX9_isHid_6 : decode cX9_isHid 6 = .ok (.getfield 47, 3) := by decide +kernel
theorem dX9_isHid_9 : decode cX9_isHid 9 = .ok (.iload_n 1, 1) := by decide +kernel
theorem dX9_isHid_10 : decode cX9_isHid 10 = .ok (.iaload, 1) := by decide +kernel
theorem dX9_isHid_11 : decode cX9_isHid 11 = .ok (.invokevirtual 144, 3) := by decide +kernel
theorem dX9_isHid_14 : decode cX9_isHid 14 = .ok (.aload_n 0, 1) := by decide +kernel
theorem dX9_isHid_15 : decode cX9_isHid 15 = .ok (.getfield 59, 3) := by decide +kernel
theorem dX9_isHid_18 : decode cX9_isHid 18 = .ok (.aload_n 0, 1) := by decide +kernel
theorem dX9_isHid_19 : decode cX9_isHid 19 = .ok (.getfield 56, 3) := by decide +kernel
theorem dX9_isHid_22 : decode cX9_isHid 22 = .ok (.iload_n 1, 1) := by decide +kernel
theorem dX9_isHid_23 : decode cX9_isHid 23 = .ok (.iaload, 1) := by decide +kernel
theorem dX9_isHid_24 : decode cX9_isHid 24 = .ok (.iaload, 1) := by decide +kernel
theorem dX9_isHid_25 : decode cX9_isHid 25 = .ok (.if_icmp .gt 7, 3) := by decide +kernel
theorem dX9_isHid_28 : decode cX9_isHid 28 = .ok (.iconst 1, 1) := by decide +kernel
theorem dX9_isHid_29 : decode cX9_isHid 29 = .ok (.goto 4, 3) := by decide +kernel
theorem dX9_isHid_32 : decode cX9_isHid 32 = .ok (.iconst 0, 1) := by decide +kernel
theorem dX9_isHid_33 : decode cX9_isHid 33 = .ok (.ireturn, 1) := by decide +kernel
theorem dX9_meetsFoe_0 : decode cX9_meetsFoe 0 = .ok (.aload_n 0, 1) := by decide +kernel
theorem dX9_meetsFoe_1 : decode cX9_meetsFoe 1 = .ok (.getfield 50, 3) := by decide +kernel
theorem dX9_meetsFoe_4 : decode cX9_meetsFoe 4 = .ok (.iload_n 1, 1) := by decide +kernel
theorem dX9_meetsFoe_5 : decode cX9_meetsFoe 5 = .ok (.iaload, 1) := by decide +kernel
theorem dX9_meetsFoe_6 : decode cX9_meetsFoe 6 = .ok (.istore_n 2, 1) := by decide +kernel
theorem dX9_meetsFoe_7 : decode cX9_meetsFoe 7 = .ok (.iload_n 2, 1) := by decide +kernel
theorem dX9_meetsFoe_8 : decode cX9_meetsFoe 8 = .ok (.iconst (-1), 1) := by decide +kernel
theorem dX9_meetsFoe_9 : decode cX9_meetsFoe 9 = .ok (.if_icmp .eq 18, 3) := by decide +kernel
theorem dX9_meetsFoe_12 : decode cX9_meetsFoe 12 = .ok (.aload_n 0, 1) := by decide +kernel
theorem dX9_meetsFoe_13 : decode cX9_meetsFoe 13 = .ok (.getfield 56, 3) := by decide +kernel
theorem dX9_meetsFoe_16 : decode cX9_meetsFoe 16 = .ok (.iload_n 2, 1) := by decide +kernel
theorem dX9_meetsFoe_17 : decode cX9_meetsFoe 17 = .ok (.iaload, 1) := by decide +kernel
theorem dX9_meetsFoe_18 : decode cX9_meetsFoe 18 = .ok (.aload_n 0, 1) := by decide +kernel
theorem dX9_meetsFoe_19 : decode cX9_meetsFoe 19 = .ok (.getfield 56, 3) := by decide +kernel
theorem dX9_meetsFoe_22 : decode cX9_meetsFoe 22 = .ok (.iload_n 1, 1) := by decide +kernel
theorem dX9_meetsFoe_23 : decode cX9_meetsFoe 23 = .ok (.iaload, 1) := by decide +kernel
theorem dX9_meetsFoe_24 : decode cX9_meetsFoe 24 = .ok (.if_icmp .eq 5, 3) := by decide +kernel
theorem dX9_meetsFoe_27 : decode cX9_meetsFoe 27 = .ok (.iconst 0, 1) := by decide +kernel
theorem dX9_meetsFoe_28 : decode cX9_meetsFoe 28 = .ok (.ireturn, 1) := by decide +kernel
theorem dX9_meetsFoe_29 : decode cX9_meetsFoe 29 = .ok (.iconst 0, 1) := by decide +kernel
theorem dX9_meetsFoe_30 : decode cX9_meetsFoe 30 = .ok (.istore_n 3, 1) := by decide +kernel
theorem dX9_meetsFoe_31 : decode cX9_meetsFoe 31 = .ok (.iconst 0, 1) := by decide +kernel
theorem dX9_meetsFoe_32 : decode cX9_meetsFoe 32 = .ok (.istore 4, 2) := by decide +kernel
theorem dX9_meetsFoe_34 : decode cX9_meetsFoe 34 = .ok (.iconst 0, 1) := by decide +kernel
theorem dX9_meetsFoe_35 : decode cX9_meetsFoe 35 = .ok (.istore 5, 2) := by decide +kernel
theorem dX9_meetsFoe_37 : decode cX9_meetsFoe 37 = .ok (.iload 5, 2) := by decide +kernel
theorem dX9_meetsFoe_39 : decode cX9_meetsFoe 39 = .ok (.aload_n 0, 1) := by decide +kernel
theorem dX9_meetsFoe_40 : decode cX9_meetsFoe 40 = .ok (.getfield 9, 3) := by decide +kernel
theorem dX9_meetsFoe_43 : decode cX9_meetsFoe 43 = .ok (.if_icmp .ge 65, 3) := by decide +kernel
theorem dX9_meetsFoe_46 : decode cX9_meetsFoe 46 = .ok (.aload_n 0, 1) := by decide +kernel
theorem dX9_meetsFoe_47 : decode cX9_meetsFoe 47 = .ok (.getfield 56, 3) := by decide +kernel
theorem dX9_meetsFoe_50 : decode cX9_meetsFoe 50 = .ok (.iload 5, 2) := by decide +kernel
theorem dX9_meetsFoe_52 : decode cX9_meetsFoe 52 = .ok (.iaload, 1) := by decide +kernel
theorem dX9_meetsFoe_53 : decode cX9_meetsFoe 53 = .ok (.aload_n 0, 1) := by decide +kernel
theorem dX9_meetsFoe_54 : decode cX9_meetsFoe 54 = .ok (.getfield 56, 3) := by decide +kernel
theorem dX9_meetsFoe_57 : decode cX9_meetsFoe 57 = .ok (.iload_n 1, 1) := by decide +kernel
theorem dX9_meetsFoe_58 : decode cX9_meetsFoe 58 = .ok (.iaload, 1) := by decide +kernel
theorem dX9_meetsFoe_59 : decode cX9_meetsFoe 59 = .ok (.if_icmp .ne 43, 3) := by decide +kernel
theorem dX9_meetsFoe_62 : decode cX9_meetsFoe 62 = .ok (.iload 5, 2) := by decide +kernel
theorem dX9_meetsFoe_64 : decode cX9_meetsFoe 64 = .ok (.iload_n 1, 1) := by decide +kernel
theorem dX9_meetsFoe_65 : decode cX9_meetsFoe 65 = .ok (.if_icmp .eq 37, 3) := by decide +kernel
theorem dX9_meetsFoe_68 : decode cX9_meetsFoe 68 = .ok (.iload 5, 2) := by decide +kernel
theorem dX9_meetsFoe_70 : decode cX9_meetsFoe 70 = .ok (.iload_n 2, 1) := by decide +kernel
theorem dX9_meetsFoe_71 : decode cX9_meetsFoe 71 = .ok (.if_icmp .eq 31, 3) := by decide +kernel
theorem dX9_meetsFoe_74 : decode cX9_meetsFoe 74 = .ok (.iload 5, 2) := by decide +kernel
theorem dX9_meetsFoe_76 : decode cX9_meetsFoe 76 = .ok (.iload_n 1, 1) := by decide +kernel
theorem dX9_meetsFoe_77 : decode cX9_meetsFoe 77 = .ok (.iload_n 2, 1) := by decide +kernel
theorem dX9_meetsFoe_78 : decode cX9_meetsFoe 78 = .ok (.invokestatic 86, 3) := by decide +kernel
theorem dX9_meetsFoe_81 : decode cX9_meetsFoe 81 = .ok (.if_icmp .le 18, 3) := by decide +kernel
theorem dX9_meetsFoe_84 : decode cX9_meetsFoe 84 = .ok (.iload 5, 2) := by decide +kernel
theorem dX9_meetsFoe_86 : decode cX9_meetsFoe 86 = .ok (.iload_n 1, 1) := by decide +kernel
theorem dX9_meetsFoe_87 : decode cX9_meetsFoe 87 = .ok (.iload_n 2, 1) := by decide +kernel
theorem dX9_meetsFoe_88 : decode cX9_meetsFoe 88 = .ok (.invokestatic 92, 3) := by decide +kernel
theorem dX9_meetsFoe_91 : decode cX9_meetsFoe 91 = .ok (.if_icmp .ge 8, 3) := by decide +kernel
theorem dX9_meetsFoe_94 : decode cX9_meetsFoe 94 = .ok (.iconst 1, 1) := by decide +kernel
theorem dX9_meetsFoe_95 : decode cX9_meetsFoe 95 = .ok (.istore_n 3, 1) := by decide +kernel
theorem dX9_meetsFoe_96 : decode cX9_meetsFoe 96 = .ok (.goto 6, 3) := by decide +kernel
theorem dX9_meetsFoe_99 : decode cX9_meetsFoe 99 = .ok (.iconst 1, 1) := by decide +kernel
theorem dX9_meetsFoe_100 : decode cX9_meetsFoe 100 = .ok (.istore 4, 2) := by decide +kernel
theorem dX9_meetsFoe_102 : decode cX9_meetsFoe 102 = .ok (.iinc 5 1, 3) := by decide +kernel
theorem dX9_meetsFoe_105 : decode cX9_meetsFoe 105 = .ok (.goto (-68), 3) := by decide +kernel
theorem dX9_meetsFoe_108 : decode cX9_meetsFoe 108 = .ok (.iload_n 3, 1) := by decide +kernel
theorem dX9_meetsFoe_109 : decode cX9_meetsFoe 109 = .ok (.ifCond .eq 8, 3) := by decide +kernel
theorem dX9_meetsFoe_112 : decode cX9_meetsFoe 112 = .ok (.iload 4, 2) := by decide +kernel
theorem dX9_meetsFoe_114 : decode cX9_meetsFoe 114 = .ok (.ifCond .ne 7, 3) := by decide +kernel
theorem dX9_meetsFoe_117 : decode cX9_meetsFoe 117 = .ok (.iconst 1, 1) := by decide +kernel
theorem dX9_meetsFoe_118 : decode cX9_meetsFoe 118 = .ok (.goto 4, 3) := by decide +kernel
theorem dX9_meetsFoe_121 : decode cX9_meetsFoe 121 = .ok (.iconst 0, 1) := by decide +kernel
theorem dX9_meetsFoe_122 : decode cX9_meetsFoe 122 = .ok (.ireturn, 1) := by decide +kernel
theorem dX9_factOf_0 : decode cX9_factOf 0 = .ok (.iload_n 2, 1) := by decide +kernel
theorem dX9_factOf_1 : decode cX9_factOf 1 = .ok (.tableswitch 88 0 5 #[39, 46, 53, 60, 67, 74], 39) := by decide +kernel
theorem dX9_factOf_40 : decode cX9_factOf 40 = .ok (.aload_n 0, 1) := by decide +kernel
theorem dX9_factOf_41 : decode cX9_factOf 41 = .ok (.getfield 43, 3) := by decide +kernel
theorem dX9_factOf_44 : decode cX9_factOf 44 = .ok (.iload_n 1, 1) := by decide +kernel
theorem dX9_factOf_45 : decode cX9_factOf 45 = .ok (.iaload, 1) := by decide +kernel
theorem dX9_factOf_46 : decode cX9_factOf 46 = .ok (.ireturn, 1) := by decide +kernel
theorem dX9_factOf_47 : decode cX9_factOf 47 = .ok (.aload_n 0, 1) := by decide +kernel
theorem dX9_factOf_48 : decode cX9_factOf 48 = .ok (.getfield 47, 3) := by decide +kernel
theorem dX9_factOf_51 : decode cX9_factOf 51 = .ok (.iload_n 1, 1) := by decide +kernel
theorem dX9_factOf_52 : decode cX9_factOf 52 = .ok (.iaload, 1) := by decide +kernel
theorem dX9_factOf_53 : decode cX9_factOf 53 = .ok (.ireturn, 1) := by decide +kernel
theorem dX9_factOf_54 : decode cX9_factOf 54 = .ok (.aload_n 0, 1) := by decide +kernel
theorem dX9_factOf_55 : decode cX9_factOf 55 = .ok (.getfield 50, 3) := by decide +kernel
theorem dX9_factOf_58 : decode cX9_factOf 58 = .ok (.iload_n 1, 1) := by decide +kernel
theorem dX9_factOf_59 : decode cX9_factOf 59 = .ok (.iaload, 1) := by decide +kernel
theorem dX9_factOf_60 : decode cX9_factOf 60 = .ok (.ireturn, 1) := by decide +kernel
theorem dX9_factOf_61 : decode cX9_factOf 61 = .ok (.aload_n 0, 1) := by decide +kernel
theorem dX9_factOf_62 : decode cX9_factOf 62 = .ok (.getfield 53, 3) := by decide +kernel
theorem dX9_factOf_65 : decode cX9_factOf 65 = .ok (.iload_n 1, 1) := by decide +kernel
theorem dX9_factOf_66 : decode cX9_factOf 66 = .ok (.iaload, 1) := by decide +kernel
theorem dX9_factOf_67 : decode cX9_factOf 67 = .ok (.ireturn, 1) := by decide +kernel
theorem dX9_factOf_68 : decode cX9_factOf 68 = .ok (.aload_n 0, 1) := by decide +kernel
theorem dX9_factOf_69 : decode cX9_factOf 69 = .ok (.getfield 56, 3) := by decide +kernel
theorem dX9_factOf_72 : decode cX9_factOf 72 = .ok (.iload_n 1, 1) := by decide +kernel
theorem dX9_factOf_73 : decode cX9_factOf 73 = .ok (.iaload, 1) := by decide +kernel
theorem dX9_factOf_74 : decode cX9_factOf 74 = .ok (.ireturn, 1) := by decide +kernel
theorem dX9_factOf_75 : decode cX9_factOf 75 = .ok (.aload_n 0, 1) := by decide +kernel
theorem dX9_factOf_76 : decode cX9_factOf 76 = .ok (.iload_n 1, 1) := by decide +kernel
theorem dX9_factOf_77 : decode cX9_factOf 77 = .ok (.invokevirtual 141, 3) := by decide +kernel
theorem dX9_factOf_80 : decode cX9_factOf 80 = .ok (.ifCond .eq 7, 3) := by decide +kernel
theorem dX9_factOf_83 : decode cX9_factOf 83 = .ok (.iconst 1, 1) := by decide +kernel
theorem dX9_factOf_84 : decode cX9_factOf 84 = .ok (.goto 4, 3) := by decide +kernel
theorem dX9_factOf_87 : decode cX9_factOf 87 = .ok (.iconst 0, 1) := by decide +kernel
theorem dX9_factOf_88 : decode cX9_factOf 88 = .ok (.ireturn, 1) := by decide +kernel
theorem dX9_factOf_89 : decode cX9_factOf 89 = .ok (.aload_n 0, 1) := by decide +kernel
theorem dX9_factOf_90 : decode cX9_factOf 90 = .ok (.iload_n 1, 1) := by decide +kernel
theorem dX9_factOf_91 : decode cX9_factOf 91 = .ok (.invokevirtual 133, 3) := by decide +kernel
theorem dX9_factOf_94 : decode cX9_factOf 94 = .ok (.ifCond .eq 7, 3) := by decide +kernel
theorem dX9_factOf_97 : decode cX9_factOf 97 = .ok (.iconst 1, 1) := by decide +kernel
theorem dX9_factOf_98 : decode cX9_factOf 98 = .ok (.goto 4, 3) := by decide +kernel
theorem dX9_factOf_101 : decode cX9_factOf 101 = .ok (.iconst 0, 1) := by decide +kernel
theorem dX9_factOf_102 : decode cX9_factOf 102 = .ok (.ireturn, 1) := by decide +kernel
theorem dX9_crowdIn_0 : decode cX9_crowdIn 0 = .ok (.iconst 0, 1) := by decide +kernel
theorem dX9_crowdIn_1 : decode cX9_crowdIn 1 = .ok (.istore_n 2, 1) := by decide +kernel
theorem dX9_crowdIn_2 : decode cX9_crowdIn 2 = .ok (.iconst 0, 1) := by decide +kernel
theorem dX9_crowdIn_3 : decode cX9_crowdIn 3 = .ok (.istore_n 3, 1) := by decide +kernel
theorem dX9_crowdIn_4 : decode cX9_crowdIn 4 = .ok (.iload_n 3, 1) := by decide +kernel
theorem dX9_crowdIn_5 : decode cX9_crowdIn 5 = .ok (.aload_n 0, 1) := by decide +kernel
theorem dX9_crowdIn_6 : decode cX9_crowdIn 6 = .ok (.getfield 9, 3) := by decide +kernel
theorem dX9_crowdIn_9 : decode cX9_crowdIn 9 = .ok (.if_icmp .ge 22, 3) := by decide +kernel
theorem dX9_crowdIn_12 : decode cX9_crowdIn 12 = .ok (.aload_n 0, 1) := by decide +kernel
theorem dX9_crowdIn_13 : decode cX9_crowdIn 13 = .ok (.getfield 56, 3) := by decide +kernel
theorem dX9_crowdIn_16 : decode cX9_crowdIn 16 = .ok (.iload_n 3, 1) := by decide +kernel
theorem dX9_crowdIn_17 : decode cX9_crowdIn 17 = .ok (.iaload, 1) := by decide +kernel
theorem dX9_crowdIn_18 : decode cX9_crowdIn 18 = .ok (.iload_n 1, 1) := by decide +kernel
theorem dX9_crowdIn_19 : decode cX9_crowdIn 19 = .ok (.if_icmp .ne 6, 3) := by decide +kernel
theorem dX9_crowdIn_22 : decode cX9_crowdIn 22 = .ok (.iinc 2 1, 3) := by decide +kernel
theorem dX9_crowdIn_25 : decode cX9_crowdIn 25 = .ok (.iinc 3 1, 3) := by decide +kernel
theorem dX9_crowdIn_28 : decode cX9_crowdIn 28 = .ok (.goto (-24), 3) := by decide +kernel
theorem dX9_crowdIn_31 : decode cX9_crowdIn 31 = .ok (.iload_n 2, 1) := by decide +kernel
theorem dX9_crowdIn_32 : decode cX9_crowdIn 32 = .ok (.ireturn, 1) := by decide +kernel
theorem dX9_totalGrudge_0 : decode cX9_totalGrudge 0 = .ok (.iconst 0, 1) := by decide +kernel
theorem dX9_totalGrudge_1 : decode cX9_totalGrudge 1 = .ok (.istore_n 1, 1) := by decide +kernel
theorem dX9_totalGrudge_2 : decode cX9_totalGrudge 2 = .ok (.iconst 0, 1) := by decide +kernel
theorem dX9_totalGrudge_3 : decode cX9_totalGrudge 3 = .ok (.istore_n 2, 1) := by decide +kernel
theorem dX9_totalGrudge_4 : decode cX9_totalGrudge 4 = .ok (.iload_n 2, 1) := by decide +kernel
theorem dX9_totalGrudge_5 : decode cX9_totalGrudge 5 = .ok (.aload_n 0, 1) := by decide +kernel
theorem dX9_totalGrudge_6 : decode cX9_totalGrudge 6 = .ok (.getfield 9, 3) := by decide +kernel
theorem dX9_totalGrudge_9 : decode cX9_totalGrudge 9 = .ok (.if_icmp .ge 18, 3) := by decide +kernel
theorem dX9_totalGrudge_12 : decode cX9_totalGrudge 12 = .ok (.iload_n 1, 1) := by decide +kernel
theorem dX9_totalGrudge_13 : decode cX9_totalGrudge 13 = .ok (.aload_n 0, 1) := by decide +kernel
theorem dX9_totalGrudge_14 : decode cX9_totalGrudge 14 = .ok (.getfield 53, 3) := by decide +kernel
theorem dX9_totalGrudge_17 : decode cX9_totalGrudge 17 = .ok (.iload_n 2, 1) := by decide +kernel
theorem dX9_totalGrudge_18 : decode cX9_totalGrudge 18 = .ok (.iaload, 1) := by decide +kernel
theorem dX9_totalGrudge_19 : decode cX9_totalGrudge 19 = .ok (.iadd, 1) := by decide +kernel
theorem dX9_totalGrudge_20 : decode cX9_totalGrudge 20 = .ok (.istore_n 1, 1) := by decide +kernel
theorem dX9_totalGrudge_21 : decode cX9_totalGrudge 21 = .ok (.iinc 2 1, 3) := by decide +kernel
theorem dX9_totalGrudge_24 : decode cX9_totalGrudge 24 = .ok (.goto (-20), 3) := by decide +kernel
theorem dX9_totalGrudge_27 : decode cX9_totalGrudge 27 = .ok (.iload_n 1, 1) := by decide +kernel
theorem dX9_totalGrudge_28 : decode cX9_totalGrudge 28 = .ok (.ireturn, 1) := by decide +kernel
theorem dX9_totalDeep_0 : decode cX9_totalDeep 0 = .ok (.iconst 0, 1) := by decide +kernel
theorem dX9_totalDeep_1 : decode cX9_totalDeep 1 = .ok (.istore_n 1, 1) := by decide +kernel
theorem dX9_totalDeep_2 : decode cX9_totalDeep 2 = .ok (.iconst 0, 1) := by decide +kernel
theorem dX9_totalDeep_3 : decode cX9_totalDeep 3 = .ok (.istore_n 2, 1) := by decide +kernel
theorem dX9_totalDeep_4 : decode cX9_totalDeep 4 = .ok (.iload_n 2, 1) := by decide +kernel
theorem dX9_totalDeep_5 : decode cX9_totalDeep 5 = .ok (.iconst 5, 1) := by decide +kernel
theorem dX9_totalDeep_6 : decode cX9_totalDeep 6 = .ok (.if_icmp .ge 18, 3) := by decide +kernel
theorem dX9_totalDeep_9 : decode cX9_totalDeep 9 = .ok (.iload_n 1, 1) := by decide +kernel
theorem dX9_totalDeep_10 : decode cX9_totalDeep 10 = .ok (.aload_n 0, 1) := by decide +kernel
theorem dX9_totalDeep_11 : decode cX9_totalDeep 11 = .ok (.getfield 59, 3) := by decide +kernel
theorem dX9_totalDeep_14 : decode cX9_totalDeep 14 = .ok (.iload_n 2, 1) := by decide +kernel
theorem dX9_totalDeep_15 : decode cX9_totalDeep 15 = .ok (.iaload, 1) := by decide +kernel
theorem dX9_totalDeep_16 : decode cX9_totalDeep 16 = .ok (.iadd, 1) := by decide +kernel
theorem dX9_totalDeep_17 : decode cX9_totalDeep 17 = .ok (.istore_n 1, 1) := by decide +kernel
theorem dX9_totalDeep_18 : decode cX9_totalDeep 18 = .ok (.iinc 2 1, 3) := by decide +kernel
theorem dX9_totalDeep_21 : decode cX9_totalDeep 21 = .ok (.goto (-17), 3) := by decide +kernel
theorem dX9_totalDeep_24 : decode cX9_totalDeep 24 = .ok (.iload_n 1, 1) := by decide +kernel
theorem dX9_totalDeep_25 : decode cX9_totalDeep 25 = .ok (.ireturn, 1) := by decide +kernel
theorem dX9_whoIsHid_0 : decode cX9_whoIsHid 0 = .ok (.iconst 0, 1) := by decide +kernel
theorem dX9_whoIsHid_1 : decode cX9_whoIsHid 1 = .ok (.istore_n 1, 1) := by decide +kernel
theorem dX9_whoIsHid_2 : decode cX9_whoIsHid 2 = .ok (.iconst 0, 1) := by decide +kernel
theorem dX9_whoIsHid_3 : decode cX9_whoIsHid 3 = .ok (.istore_n 2, 1) := by decide +kernel
theorem dX9_whoIsHid_4 : decode cX9_whoIsHid 4 = .ok (.iload_n 2, 1) := by decide +kernel
theorem dX9_whoIsHid_5 : decode cX9_whoIsHid 5 = .ok (.aload_n 0, 1) := by decide +kernel
theorem dX9_whoIsHid_6 : decode cX9_whoIsHid 6 = .ok (.getfield 9, 3) := by decide +kernel
theorem dX9_whoIsHid_9 : decode cX9_whoIsHid 9 = .ok (.if_icmp .ge 23, 3) := by decide +kernel
theorem dX9_whoIsHid_12 : decode cX9_whoIsHid 12 = .ok (.aload_n 0, 1) := by decide +kernel
theorem dX9_whoIsHid_13 : decode cX9_whoIsHid 13 = .ok (.iload_n 2, 1) := by decide +kernel
theorem dX9_whoIsHid_14 : decode cX9_whoIsHid 14 = .ok (.invokevirtual 141, 3) := by decide +kernel
theorem dX9_whoIsHid_17 : decode cX9_whoIsHid 17 = .ok (.ifCond .eq 9, 3) := by decide +kernel
theorem dX9_whoIsHid_20 : decode cX9_whoIsHid 20 = .ok (.iload_n 1, 1) := by decide +kernel
theorem dX9_whoIsHid_21 : decode cX9_whoIsHid 21 = .ok (.iconst 1, 1) := by decide +kernel
theorem dX9_whoIsHid_22 : decode cX9_whoIsHid 22 = .ok (.iload_n 2, 1) := by decide +kernel
theorem dX9_whoIsHid_23 : decode cX9_whoIsHid 23 = .ok (.ishl, 1) := by decide +kernel
theorem dX9_whoIsHid_24 : decode cX9_whoIsHid 24 = .ok (.ior, 1) := by decide +kernel
theorem dX9_whoIsHid_25 : decode cX9_whoIsHid 25 = .ok (.istore_n 1, 1) := by decide +kernel
theorem dX9_whoIsHid_26 : decode cX9_whoIsHid 26 = .ok (.iinc 2 1, 3) := by decide +kernel
theorem dX9_whoIsHid_29 : decode cX9_whoIsHid 29 = .ok (.goto (-25), 3) := by decide +kernel
theorem dX9_whoIsHid_32 : decode cX9_whoIsHid 32 = .ok (.iload_n 1, 1) := by decide +kernel
theorem dX9_whoIsHid_33 : decode cX9_whoIsHid 33 = .ok (.ireturn, 1) := by decide +kernel
theorem dX9_whoIsAtPeace_0 : decode cX9_whoIsAtPeace 0 = .ok (.iconst 0, 1) := by decide +kernel
theorem dX9_whoIsAtPeace_1 : decode cX9_whoIsAtPeace 1 = .ok (.istore_n 1, 1) := by decide +kernel
theorem dX9_whoIsAtPeace_2 : decode cX9_whoIsAtPeace 2 = .ok (.iconst 0, 1) := by decide +kernel
theorem dX9_whoIsAtPeace_3 : decode cX9_whoIsAtPeace 3 = .ok (.istore_n 2, 1) := by decide +kernel
theorem dX9_whoIsAtPeace_4 : decode cX9_whoIsAtPeace 4 = .ok (.iload_n 2, 1) := by decide +kernel
theorem dX9_whoIsAtPeace_5 : decode cX9_whoIsAtPeace 5 = .ok (.aload_n 0, 1) := by decide +kernel
theorem dX9_whoIsAtPeace_6 : decode cX9_whoIsAtPeace 6 = .ok (.getfield 9, 3) := by decide +kernel
theorem dX9_whoIsAtPeace_9 : decode cX9_whoIsAtPeace 9 = .ok (.if_icmp .ge 24, 3) := by decide +kernel
theorem dX9_whoIsAtPeace_12 : decode cX9_whoIsAtPeace 12 = .ok (.aload_n 0, 1) := by decide +kernel
theorem dX9_whoIsAtPeace_13 : decode cX9_whoIsAtPeace 13 = .ok (.getfield 53, 3) := by decide +kernel
theorem dX9_whoIsAtPeace_16 : decode cX9_whoIsAtPeace 16 = .ok (.iload_n 2, 1) := by decide +kernel
theorem dX9_whoIsAtPeace_17 : decode cX9_whoIsAtPeace 17 = .ok (.iaload, 1) := by decide +kernel
theorem dX9_whoIsAtPeace_18 : decode cX9_whoIsAtPeace 18 = .ok (.ifCond .ne 9, 3) := by decide +kernel
theorem dX9_whoIsAtPeace_21 : decode cX9_whoIsAtPeace 21 = .ok (.iload_n 1, 1) := by decide +kernel
theorem dX9_whoIsAtPeace_22 : decode cX9_whoIsAtPeace 22 = .ok (.iconst 1, 1) := by decide +kernel
theorem dX9_whoIsAtPeace_23 : decode cX9_whoIsAtPeace 23 = .ok (.iload_n 2, 1) := by decide +kernel
theorem dX9_whoIsAtPeace_24 : decode cX9_whoIsAtPeace 24 = .ok (.ishl, 1) := by decide +kernel
theorem dX9_whoIsAtPeace_25 : decode cX9_whoIsAtPeace 25 = .ok (.ior, 1) := by decide +kernel
theorem dX9_whoIsAtPeace_26 : decode cX9_whoIsAtPeace 26 = .ok (.istore_n 1, 1) := by decide +kernel
theorem dX9_whoIsAtPeace_27 : decode cX9_whoIsAtPeace 27 = .ok (.iinc 2 1, 3) := by decide +kernel
theorem dX9_whoIsAtPeace_30 : decode cX9_whoIsAtPeace 30 = .ok (.goto (-26), 3) := by decide +kernel
theorem dX9_whoIsAtPeace_33 : decode cX9_whoIsAtPeace 33 = .ok (.iload_n 1, 1) := by decide +kernel
theorem dX9_whoIsAtPeace_34 : decode cX9_whoIsAtPeace 34 = .ok (.ireturn, 1) := by decide +kernel
end
section
theorem dX10_init_0 : decode cX10_init 0 = .ok (.aload_n 0, 1) := by decide +kernel
theorem dX10_init_1 : decode cX10_init 1 = .ok (.invokespecial 1, 3) := by decide +kernel
theorem dX10_init_4 : decode cX10_init 4 = .ok (.aload_n 0, 1) := by decide +kernel
theorem dX10_init_5 : decode cX10_init 5 = .ok (.bipush 6, 2) := by decide +kernel
theorem dX10_init_7 : decode cX10_init 7 = .ok (.anewarray 9, 3) := by decide +kernel
theorem dX10_init_10 : decode cX10_init 10 = .ok (.putfield 11, 3) := by decide +kernel
theorem dX10_init_13 : decode cX10_init 13 = .ok (.aload_n 0, 1) := by decide +kernel
theorem dX10_init_14 : decode cX10_init 14 = .ok (.iconst 4, 1) := by decide +kernel
theorem dX10_init_15 : decode cX10_init 15 = .ok (.anewarray 9, 3) := by decide +kernel
theorem dX10_init_18 : decode cX10_init 18 = .ok (.putfield 15, 3) := by decide +kernel
theorem dX10_init_21 : decode cX10_init 21 = .ok (.aload_n 0, 1) := by decide +kernel
theorem dX10_init_22 : decode cX10_init 22 = .ok (.new 18, 3) := by decide +kernel
theorem dX10_init_25 : decode cX10_init 25 = .ok (.dup, 1) := by decide +kernel
theorem dX10_init_26 : decode cX10_init 26 = .ok (.invokespecial 20, 3) := by decide +kernel
theorem dX10_init_29 : decode cX10_init 29 = .ok (.putfield 21, 3) := by decide +kernel
theorem dX10_init_32 : decode cX10_init 32 = .ok (.aload_n 0, 1) := by decide +kernel
theorem dX10_init_33 : decode cX10_init 33 = .ok (.new 25, 3) := by decide +kernel
theorem dX10_init_36 : decode cX10_init 36 = .ok (.dup, 1) := by decide +kernel
theorem dX10_init_37 : decode cX10_init 37 = .ok (.invokespecial 27, 3) := by decide +kernel
theorem dX10_init_40 : decode cX10_init 40 = .ok (.putfield 28, 3) := by decide +kernel
theorem dX10_init_43 : decode cX10_init 43 = .ok (.aload_n 0, 1) := by decide +kernel
theorem dX10_init_44 : decode cX10_init 44 = .ok (.iconst 3, 1) := by decide +kernel
theorem dX10_init_45 : decode cX10_init 45 = .ok (.anewarray 25, 3) := by decide +kernel
theorem dX10_init_48 : decode cX10_init 48 = .ok (.putfield 32, 3) := by decide +kernel
theorem dX10_init_51 : decode cX10_init 51 = .ok (.aload_n 0, 1) := by decide +kernel
theorem dX10_init_52 : decode cX10_init 52 = .ok (.new 36, 3) := by decide +kernel
theorem dX10_init_55 : decode cX10_init 55 = .ok (.dup, 1) := by decide +kernel
theorem dX10_init_56 : decode cX10_init 56 = .ok (.invokespecial 38, 3) := by decide +kernel
theorem dX10_init_59 : decode cX10_init 59 = .ok (.putfield 39, 3) := by decide +kernel
theorem dX10_init_62 : decode cX10_init 62 = .ok (.aload_n 0, 1) := by decide +kernel
theorem dX10_init_63 : decode cX10_init 63 = .ok (.bipush 6, 2) := by decide +kernel
theorem dX10_init_65 : decode cX10_init 65 = .ok (.newarray .int, 2) := by decide +kernel
theorem dX10_init_67 : decode cX10_init 67 = .ok (.putfield 43, 3) := by decide +kernel
theorem dX10_init_70 : decode cX10_init 70 = .ok (.aload_n 0, 1) := by decide +kernel
theorem dX10_init_71 : decode cX10_init 71 = .ok (.iconst 0, 1) := by decide +kernel
theorem dX10_init_72 : decode cX10_init 72 = .ok (.putfield 47, 3) := by decide +kernel
theorem dX10_init_75 : decode cX10_init 75 = .ok (.aload_n 0, 1) := by decide +kernel
theorem dX10_init_76 : decode cX10_init 76 = .ok (.iconst 0, 1) := by decide +kernel
theorem dX10_init_77 : decode cX10_init 77 = .ok (.putfield 51, 3) := by decide +kernel
theorem dX10_init_80 : decode cX10_init 80 = .ok (.aload_n 0, 1) := by decide +kernel
theorem dX10_init_81 : decode cX10_init 81 = .ok (.lconst 0, 1) := by decide +kernel
theorem dX10_init_82 : decode cX10_init 82 = .ok (.putfield 54, 3) := by decide +kernel
theorem dX10_init_85 : decode cX10_init 85 = .ok (.aload_n 0, 1) := by decide +kernel
theorem dX10_init_86 : decode cX10_init 86 = .ok (.lconst 1, 1) := by decide +kernel
theorem dX10_init_87 : decode cX10_init 87 = .ok (.putfield 58, 3) := by decide +kernel
theorem dX10_init_90 : decode cX10_init 90 = .ok (.iconst 0, 1) := by decide +kernel
theorem dX10_init_91 : decode cX10_init 91 = .ok (.istore_n 1, 1) := by decide +kernel
theorem dX10_init_92 : decode cX10_init 92 = .ok (.iload_n 1, 1) := by decide +kernel
theorem dX10_init_93 : decode cX10_init 93 = .ok (.bipush 6, 2) := by decide +kernel
theorem dX10_init_95 : decode cX10_init 95 = .ok (.if_icmp .ge 24, 3) := by decide +kernel
theorem dX10_init_98 : decode cX10_init 98 = .ok (.aload_n 0, 1) := by decide +kernel
theorem dX10_init_99 : decode cX10_init 99 = .ok (.getfield 11, 3) := by decide +kernel
theorem dX10_init_102 : decode cX10_init 102 = .ok (.iload_n 1, 1) := by decide +kernel
theorem dX10_init_103 : decode cX10_init 103 = .ok (.new 9, 3) := by decide +kernel
theorem dX10_init_106 : decode cX10_init 106 = .ok (.dup, 1) := by decide +kernel
theorem dX10_init_107 : decode cX10_init 107 = .ok (.bipush 40, 2) := by decide +kernel
theorem dX10_init_109 : decode cX10_init 109 = .ok (.invokespecial 61, 3) := by decide +kernel
theorem dX10_init_112 : decode cX10_init 112 = .ok (.aastore, 1) := by decide +kernel
theorem dX10_init_113 : decode cX10_init 113 = .ok (.iinc 1 1, 3) := by decide +kernel
theorem dX10_init_116 : decode cX10_init 116 = .ok (.goto (-24), 3) := by decide +kernel
theorem dX10_init_119 : decode cX10_init 119 = .ok (.iconst 0, 1) := by decide +kernel
theorem dX10_init_120 : decode cX10_init 120 = .ok (.istore_n 1, 1) := by decide +kernel
theorem dX10_init_121 : decode cX10_init 121 = .ok (.iload_n 1, 1) := by decide +kernel
theorem dX10_init_122 : decode cX10_init 122 = .ok (.iconst 4, 1) := by decide +kernel
theorem dX10_init_123 : decode cX10_init 123 = .ok (.if_icmp .ge 24, 3) := by decide +kernel
theorem dX10_init_126 : decode cX10_init 126 = .ok (.aload_n 0, 1) := by decide +kernel
theorem dX10_init_127 : decode cX10_init 127 = .ok (.getfield 15, 3) := by decide +kernel
theorem dX10_init_130 : decode cX10_init 130 = .ok (.iload_n 1, 1) := by decide +kernel
theorem dX10_init_131 : decode cX10_init 131 = .ok (.new 9, 3) := by decide +kernel
theorem dX10_init_134 : decode cX10_init 134 = .ok (.dup, 1) := by decide +kernel
theorem dX10_init_135 : decode cX10_init 135 = .ok (.bipush 60, 2) := by decide +kernel
theorem dX10_init_137 : decode cX10_init 137 = .ok (.invokespecial 61, 3) := by decide +kernel
theorem dX10_init_140 : decode cX10_init 140 = .ok (.aastore, 1) := by decide +kernel
theorem dX10_init_141 : decode cX10_init 141 = .ok (.iinc 1 1, 3) := by decide +kernel
theorem dX10_init_144 : decode cX10_init 144 = .ok (.goto (-23), 3) := by decide +kernel
theorem dX10_init_147 : decode cX10_init 147 = .ok (.iconst 0, 1) := by decide +kernel
theorem dX10_init_148 : decode cX10_init 148 = .ok (.istore_n 1, 1) := by decide +kernel
theorem dX10_init_149 : decode cX10_init 149 = .ok (.iload_n 1, 1) := by decide +kernel
theorem dX10_init_150 : decode cX10_init 150 = .ok (.iconst 3, 1) := by decide +kernel
theorem dX10_init_151 : decode cX10_init 151 = .ok (.if_icmp .ge 22, 3) := by decide +kernel
theorem dX10_init_154 : decode cX10_init 154 = .ok (.aload_n 0, 1) := by decide +kernel
theorem dX10_init_155 : decode cX10_init 155 = .ok (.getfield 32, 3) := by decide +kernel
theorem dX10_init_158 : decode cX10_init 158 = .ok (.iload_n 1, 1) := by decide +kernel
theorem dX10_init_159 : decode cX10_init 159 = .ok (.new 25, 3) := by decide +kernel
theorem dX10_init_162 : decode cX10_init 162 = .ok (.dup, 1) := by decide +kernel
theorem dX10_init_163 : decode cX10_init 163 = .ok (.invokespecial 27, 3) := by decide +kernel
theorem dX10_init_166 : decode cX10_init 166 = .ok (.aastore, 1) := by decide +kernel
theorem dX10_init_167 : decode cX10_init 167 = .ok (.iinc 1 1, 3) := by decide +kernel
theorem dX10_init_170 : decode cX10_init 170 = .ok (.goto (-21), 3) := by decide +kernel
theorem dX10_init_173 : decode cX10_init 173 = .ok (.return_, 1) := by decide +kernel
theorem dX10_row_0 : decode cX10_row 0 = .ok (.aload_n 0, 1) := by decide +kernel
theorem dX10_row_1 : decode cX10_row 1 = .ok (.iload_n 1, 1) := by decide +kernel
theorem dX10_row_2 : decode cX10_row 2 = .ok (.invokevirtual 64, 3) := by decide +kernel
theorem dX10_row_5 : decode cX10_row 5 = .ok (.ifCond .eq 9, 3) := by decide +kernel
theorem dX10_row_8 : decode cX10_row 8 = .ok (.iload_n 2, 1) := by decide +kernel
theorem dX10_row_9 : decode cX10_row 9 = .ok (.bipush 40, 2) := by decide +kernel
theorem dX10_row_11 : decode cX10_row 11 = .ok (.if_icmp .le 5, 3) := by decide +kernel
theorem dX10_row_14 : decode cX10_row 14 = .ok (.iconst (-1), 1) := by decide +kernel
theorem dX10_row_15 : decode cX10_row 15 = .ok (.ireturn, 1) := by decide +kernel
theorem dX10_row_16 : decode cX10_row 16 = .ok (.iload_n 2, 1) := by decide +kernel
theorem dX10_row_17 : decode cX10_row 17 = .ok (.ifCond .ge 9, 3) := by decide +kernel
theorem dX10_row_20 : decode cX10_row 20 = .ok (.aload_n 0, 1) := by decide +kernel
theorem dX10_row_21 : decode cX10_row 21 = .ok (.iconst 5, 1) := by decide +kernel
theorem dX10_row_22 : decode cX10_row 22 = .ok (.invokevirtual 68, 3) := by decide +kernel
theorem dX10_row_25 : decode cX10_row 25 = .ok (.ireturn, 1) := by decide +kernel
theorem dX10_row_26 : decode cX10_row 26 = .ok (.aload_n 0, 1) := by decide +kernel
theorem dX10_row_27 : decode cX10_row 27 = .ok (.getfield 11, 3) := by decide +kernel
theorem dX10_row_30 : decode cX10_row 30 = .ok (.iload_n 1, 1) := by decide +kernel
theorem dX10_row_31 : decode cX10_row 31 = .ok (.aaload, 1) := by decide +kernel
theorem dX10_row_32 : decode cX10_row 32 = .ok (.iload_n 2, 1) := by decide +kernel
theorem dX10_row_33 : decode cX10_row 33 = .ok (.iconst 0, 1) := by decide +kernel
theorem dX10_row_34 : decode cX10_row 34 = .ok (.invokevirtual 72, 3) := by decide +kernel
theorem dX10_row_37 : decode cX10_row 37 = .ok (.iload_n 2, 1) := by decide +kernel
theorem dX10_row_38 : decode cX10_row 38 = .ok (.ireturn, 1) := by decide +kernel
theorem dX10_lay_0 : decode cX10_lay 0 = .ok (.aload_n 0, 1) := by decide +kernel
theorem dX10_lay_1 : decode cX10_lay 1 = .ok (.iload_n 1, 1) := by decide +kernel
theorem dX10_lay_2 : decode cX10_lay 2 = .ok (.invokevirtual 64, 3) := by decide +kernel
theorem dX10_lay_5 : decode cX10_lay 5 = .ok (.ifCond .ne 5, 3) := by decide +kernel
theorem dX10_lay_8 : decode cX10_lay 8 = .ok (.iconst (-1), 1) := by decide +kernel
theorem dX10_lay_9 : decode cX10_lay 9 = .ok (.ireturn, 1) := by decide +kernel
theorem dX10_lay_10 : decode cX10_lay 10 = .ok (.aload_n 0, 1) := by decide +kernel
theorem dX10_lay_11 : decode cX10_lay 11 = .ok (.aload_n 0, 1) := by decide +kernel
theorem dX10_lay_12 : decode cX10_lay 12 = .ok (.getfield 11, 3) := by decide +kernel
theorem dX10_lay_15 : decode cX10_lay 15 = .ok (.iload_n 1, 1) := by decide +kernel
theorem dX10_lay_16 : decode cX10_lay 16 = .ok (.aaload, 1) := by decide +kernel
theorem dX10_lay_17 : decode cX10_lay 17 = .ok (.iload_n 2, 1) := by decide +kernel
theorem dX10_lay_18 : decode cX10_lay 18 = .ok (.invokevirtual 76, 3) := by decide +kernel
theorem dX10_lay_21 : decode cX10_lay 21 = .ok (.istore 4, 2) := by decide +kernel
theorem dX10_lay_23 : decode cX10_lay 23 = .ok (.iload 4, 2) := by decide +kernel
theorem dX10_lay_25 : decode cX10_lay 25 = .ok (.ifCond .eq 6, 3) := by decide +kernel
theorem dX10_lay_28 : decode cX10_lay 28 = .ok (.iload 4, 2) := by decide +kernel
theorem dX10_lay_30 : decode cX10_lay 30 = .ok (.ireturn, 1) := by decide +kernel
theorem dX10_lay_31 : decode cX10_lay 31 = .ok (.aload_n 0, 1) := by decide +kernel
theorem dX10_lay_32 : decode cX10_lay 32 = .ok (.aload_n 0, 1) := by decide +kernel
theorem dX10_lay_33 : decode cX10_lay 33 = .ok (.getfield 11, 3) := by decide +kernel
theorem dX10_lay_36 : decode cX10_lay 36 = .ok (.iload_n 1, 1) := by decide +kernel
theorem dX10_lay_37 : decode cX10_lay 37 = .ok (.aaload, 1) := by decide +kernel
theorem dX10_lay_38 : decode cX10_lay 38 = .ok (.getfield 80, 3) := by decide +kernel
theorem dX10_lay_41 : decode cX10_lay 41 = .ok (.iload_n 2, 1) := by decide +kernel
theorem dX10_lay_42 : decode cX10_lay 42 = .ok (.iaload, 1) := by decide +kernel
theorem dX10_lay_43 : decode cX10_lay 43 = .ok (.putfield 51, 3) := by decide +kernel
theorem dX10_lay_46 : decode cX10_lay 46 = .ok (.aload_n 0, 1) := by decide +kernel
theorem dX10_lay_47 : decode cX10_lay 47 = .ok (.getfield 11, 3) := by decide +kernel
theorem dX10_lay_50 : decode cX10_lay 50 = .ok (.iload_n 1, 1) := by decide +kernel
theorem dX10_lay_51 : decode cX10_lay 51 = .ok (.aaload, 1) := by decide +kernel
theorem dX10_lay_52 : decode cX10_lay 52 = .ok (.getfield 80, 3) := by decide +kernel
theorem dX10_lay_55 : decode cX10_lay 55 = .ok (.iload_n 2, 1) := by decide +kernel
theorem dX10_lay_56 : decode cX10_lay 56 = .ok (.iload_n 3, 1) := by decide +kernel
theorem dX10_lay_57 : decode cX10_lay 57 = .ok (.iastore, 1) := by decide +kernel
theorem dX10_lay_58 : decode cX10_lay 58 = .ok (.iconst 1, 1) := by decide +kernel
theorem dX10_lay_59 : decode cX10_lay 59 = .ok (.ireturn, 1) := by decide +kernel
theorem dX10_at_0 : decode cX10_at 0 = .ok (.aload_n 0, 1) := by decide +kernel
theorem dX10_at_1 : decode cX10_at 1 = .ok (.iload_n 1, 1) := by decide +kernel
theorem dX10_at_2 : decode cX10_at 2 = .ok (.invokevirtual 64, 3) := by decide +kernel
theorem dX10_at_5 : decode cX10_at 5 = .ok (.ifCond .ne 5, 3) := by decide +kernel
theorem dX10_at_8 : decode cX10_at 8 = .ok (.iconst (-1), 1) := by decide +kernel
theorem dX10_at_9 : decode cX10_at 9 = .ok (.ireturn, 1) := by decide +kernel
theorem dX10_at_10 : decode cX10_at 10 = .ok (.aload_n 0, 1) := by decide +kernel
theorem dX10_at_11 : decode cX10_at 11 = .ok (.aload_n 0, 1) := by decide +kernel
theorem dX10_at_12 : decode cX10_at 12 = .ok (.getfield 11, 3) := by decide +kernel
theorem dX10_at_15 : decode cX10_at 15 = .ok (.iload_n 1, 1) := by decide +kernel
theorem dX10_at_16 : decode cX10_at 16 = .ok (.aaload, 1) := by decide +kernel
theorem dX10_at_17 : decode cX10_at 17 = .ok (.iload_n 2, 1) := by decide +kernel
theorem dX10_at_18 : decode cX10_at 18 = .ok (.invokevirtual 76, 3) := by decide +kernel
theorem dX10_at_21 : decode cX10_at 21 = .ok (.istore_n 3, 1) := by decide +kernel
theorem dX10_at_22 : decode cX10_at 22 = .ok (.iload_n 3, 1) := by decide +kernel
theorem dX10_at_23 : decode cX10_at 23 = .ok (.ifCond .eq 5, 3) := by decide +kernel
theorem dX10_at_26 : decode cX10_at 26 = .ok (.iload_n 3, 1) := by decide +kernel
theorem dX10_at_27 : decode cX10_at 27 = .ok (.ireturn, 1) := by decide +kernel
theorem dX10_at_28 : decode cX10_at 28 = .ok (.aload_n 0, 1) := by decide +kernel
theorem dX10_at_29 : decode cX10_at 29 = .ok (.aload_n 0, 1) := by decide +kernel
theorem dX10_at_30 : decode cX10_at 30 = .ok (.getfield 11, 3) := by decide +kernel
theorem dX10_at_33 : decode cX10_at 33 = .ok (.iload_n 1, 1) := by decide +kernel
theorem dX10_at_34 : decode cX10_at 34 = .ok (.aaload, 1) := by decide +kernel
theorem dX10_at_35 : decode cX10_at 35 = .ok (.getfield 80, 3) := by decide +kernel
theorem dX10_at_38 : decode cX10_at 38 = .ok (.iload_n 2, 1) := by decide +kernel
theorem dX10_at_39 : decode cX10_at 39 = .ok (.iaload, 1) := by decide +kernel
theorem dX10_at_40 : decode cX10_at 40 = .ok (.putfield 51, 3) := by decide +kernel
theorem dX10_at_43 : decode cX10_at 43 = .ok (.iconst 1, 1) := by decide +kernel
theorem dX10_at_44 : decode cX10_at 44 = .ok (.ireturn, 1) := by decide +kernel
theorem dX10_tear_0 : decode cX10_tear 0 = .ok (.aload_n 0, 1) := by decide +kernel
theorem dX10_tear_1 : decode cX10_tear 1 = .ok (.iload_n 1, 1) := by decide +kernel
theorem dX10_tear_2 : decode cX10_tear 2 = .ok (.invokevirtual 64, 3) := by decide +kernel
theorem dX10_tear_5 : decode cX10_tear 5 = .ok (.ifCond .ne 5, 3) := by decide +kernel
theorem dX10_tear_8 : decode cX10_tear 8 = .ok (.iconst (-1), 1) := by decide +kernel
theorem dX10_tear_9 : decode cX10_tear 9 = .ok (.ireturn, 1) := by decide +kernel
theorem dX10_tear_10 : decode cX10_tear 10 = .ok (.aload_n 0, 1) := by decide +kernel
theorem dX10_tear_11 : decode cX10_tear 11 = .ok (.getfield 11, 3) := by decide +kernel
theorem dX10_tear_14 : decode cX10_tear 14 = .ok (.iload_n 1, 1) := by decide +kernel
theorem dX10_tear_15 : decode cX10_tear 15 = .ok (.aaload, 1) := by decide +kernel
theorem dX10_tear_16 : decode cX10_tear 16 = .ok (.invokevirtual 83, 3) := by decide +kernel
theorem dX10_tear_19 : decode cX10_tear 19 = .ok (.ifCond .ne 9, 3) := by decide +kernel
theorem dX10_tear_22 : decode cX10_tear 22 = .ok (.aload_n 0, 1) := by decide +kernel
theorem dX10_tear_23 : decode cX10_tear 23 = .ok (.iconst 1, 1) := by decide +kernel
theorem dX10_tear_24 : decode cX10_tear 24 = .ok (.invokevirtual 68, 3) := by decide +kernel
theorem dX10_tear_27 : decode cX10_tear 27 = .ok (.ireturn, 1) := by decide +kernel
theorem dX10_tear_28 : decode cX10_tear 28 = .ok (.aload_n 0, 1) := by decide +kernel
theorem dX10_tear_29 : decode cX10_tear 29 = .ok (.getfield 11, 3) := by decide +kernel
theorem dX10_tear_32 : decode cX10_tear 32 = .ok (.iload_n 1, 1) := by decide +kernel
theorem dX10_tear_33 : decode cX10_tear 33 = .ok (.aaload, 1) := by decide +kernel
theorem dX10_tear_34 : decode cX10_tear 34 = .ok (.invokevirtual 87, 3) := by decide +kernel
theorem dX10_tear_37 : decode cX10_tear 37 = .ok (.iconst 1, 1) := by decide +kernel
theorem dX10_tear_38 : decode cX10_tear 38 = .ok (.ireturn, 1) := by decide +kernel
theorem dX10_copy_0 : decode cX10_copy 0 = .ok (.aload_n 0, 1) := by decide +kernel
theorem dX10_copy_1 : decode cX10_copy 1 = .ok (.iload_n 1, 1) := by decide +kernel
theorem dX10_copy_2 : decode cX10_copy 2 = .ok (.invokevirtual 64, 3) := by decide +kernel
theorem dX10_copy_5 : decode cX10_copy 5 = .ok (.ifCond .eq 11, 3) := by decide +kernel
theorem dX10_copy_8 : decode cX10_copy 8 = .ok (.aload_n 0, 1) := by decide +kernel
theorem dX10_copy_9 : decode cX10_copy 9 = .ok (.iload_n 3, 1) := by decide +kernel
theorem dX10_copy_10 : decode cX10_copy 10 = .ok (.invokevirtual 64, 3) := by decide +kernel
theorem dX10_copy_13 : decode cX10_copy 13 = .ok (.ifCond .ne 5, 3) := by decide +kernel
theorem dX10_copy_16 : decode cX10_copy 16 = .ok (.iconst (-1), 1) := by decide +kernel
theorem dX10_copy_17 : decode cX10_copy 17 = .ok (.ireturn, 1) := by decide +kernel
theorem dX10_copy_18 : decode cX10_copy 18 = .ok (.iload 5, 2) := by decide +kernel
theorem dX10_copy_20 : decode cX10_copy 20 = .ok (.ifCond .ge 9, 3) := by decide +kernel
theorem dX10_copy_23 : decode cX10_copy 23 = .ok (.aload_n 0, 1) := by decide +kernel
theorem dX10_copy_24 : decode cX10_copy 24 = .ok (.iconst 5, 1) := by decide +kernel
theorem dX10_copy_25 : decode cX10_copy 25 = .ok (.invokevirtual 68, 3) := by decide +kernel
theorem dX10_copy_28 : decode cX10_copy 28 = .ok (.ireturn, 1) := by decide +kernel
theorem dX10_copy_29 : decode cX10_copy 29 = .ok (.aload_n 0, 1) := by decide +kernel
theorem dX10_copy_30 : decode cX10_copy 30 = .ok (.getfield 11, 3) := by decide +kernel
theorem dX10_copy_33 : decode cX10_copy 33 = .ok (.iload_n 1, 1) := by decide +kernel
theorem dX10_copy_34 : decode cX10_copy 34 = .ok (.aaload, 1) := by decide +kernel
theorem dX10_copy_35 : decode cX10_copy 35 = .ok (.invokevirtual 83, 3) := by decide +kernel
theorem dX10_copy_38 : decode cX10_copy 38 = .ok (.ifCond .eq 15, 3) := by decide +kernel
theorem dX10_copy_41 : decode cX10_copy 41 = .ok (.aload_n 0, 1) := by decide +kernel
theorem dX10_copy_42 : decode cX10_copy 42 = .ok (.getfield 11, 3) := by decide +kernel
theorem dX10_copy_45 : decode cX10_copy 45 = .ok (.iload_n 3, 1) := by decide +kernel
theorem dX10_copy_46 : decode cX10_copy 46 = .ok (.aaload, 1) := by decide +kernel
theorem dX10_copy_47 : decode cX10_copy 47 = .ok (.invokevirtual 83, 3) := by decide +kernel
theorem dX10_copy_50 : decode cX10_copy 50 = .ok (.ifCond .ne 9, 3) := by decide +kernel
theorem dX10_copy_53 : decode cX10_copy 53 = .ok (.aload_n 0, 1) := by decide +kernel
theorem dX10_copy_54 : decode cX10_copy 54 = .ok (.iconst 1, 1) := by decide +kernel
theorem dX10_copy_55 : decode cX10_copy 55 = .ok (.invokevirtual 68, 3) := by decide +kernel
theorem dX10_copy_58 : decode cX10_copy 58 = .ok (.ireturn, 1) := by decide +kernel
theorem dX10_copy_59 : decode cX10_copy 59 = .ok (.aload_n 0, 1) := by decide +kernel
theorem dX10_copy_60 : decode cX10_copy 60 = .ok (.getfield 11, 3) := by decide +kernel
theorem dX10_copy_63 : decode cX10_copy 63 = .ok (.iload_n 1, 1) := by decide +kernel
theorem dX10_copy_64 : decode cX10_copy 64 = .ok (.aaload, 1) := by decide +kernel
theorem dX10_copy_65 : decode cX10_copy 65 = .ok (.iload_n 2, 1) := by decide +kernel
theorem dX10_copy_66 : decode cX10_copy 66 = .ok (.iload 5, 2) := by decide +kernel
theorem dX10_copy_68 : decode cX10_copy 68 = .ok (.invokevirtual 90, 3) := by decide +kernel
theorem dX10_copy_71 : decode cX10_copy 71 = .ok (.ifCond .eq 19, 3) := by decide +kernel
theorem dX10_copy_74 : decode cX10_copy 74 = .ok (.aload_n 0, 1) := by decide +kernel
theorem dX10_copy_75 : decode cX10_copy 75 = .ok (.getfield 11, 3) := by decide +kernel
theorem dX10_copy_78 : decode cX10_copy 78 = .ok (.iload_n 3, 1) := by decide +kernel
theorem dX10_copy_79 : decode cX10_copy 79 = .ok (.aaload, 1) := by decide +kernel
theorem dX10_copy_80 : decode cX10_copy 80 = .ok (.iload 4, 2) := by decide +kernel
theorem dX10_copy_82 : decode cX10_copy 82 = .ok (.iload 5, 2) := by decide +kernel
theorem dX10_copy_84 : decode cX10_copy 84 = .ok (.invokevirtual 90, 3) := by decide +kernel
theorem dX10_copy_87 : decode cX10_copy 87 = .ok (.ifCond .ne 9, 3) := by decide +kernel
theorem dX10_copy_90 : decode cX10_copy 90 = .ok (.aload_n 0, 1) := by decide +kernel
theorem dX10_copy_91 : decode cX10_copy 91 = .ok (.iconst 2, 1) := by decide +kernel
theorem dX10_copy_92 : decode cX10_copy 92 = .ok (.invokevirtual 68, 3) := by decide +kernel
theorem dX10_copy_95 : decode cX10_copy 95 = .ok (.ireturn, 1) := by decide +kernel
theorem dX10_copy_96 : decode cX10_copy 96 = .ok (.aload_n 0, 1) := by decide +kernel
theorem dX10_copy_97 : decode cX10_copy 97 = .ok (.getfield 11, 3) := by decide +kernel
theorem dX10_copy_100 : decode cX10_copy 100 = .ok (.iload_n 1, 1) := by decide +kernel
theorem dX10_copy_101 : decode cX10_copy 101 = .ok (.aaload, 1) := by decide +kernel
theorem dX10_copy_102 : decode cX10_copy 102 = .ok (.getfield 80, 3) := by decide +kernel
theorem dX10_copy_105 : decode cX10_copy 105 = .ok (.iload_n 2, 1) := by decide +kernel
theorem dX10_copy_106 : decode cX10_copy 106 = .ok (.aload_n 0, 1) := by decide +kernel
theorem dX10_copy_107 : decode cX10_copy 107 = .ok (.getfield 11, 3) := by decide +kernel
theorem dX10_copy_110 : decode cX10_copy 110 = .ok (.iload_n 3, 1) := by decide +kernel
theorem dX10_copy_111 : decode cX10_copy 111 = .ok (.aaload, 1) := by decide +kernel
theorem dX10_copy_112 : decode cX10_copy 112 = .ok (.getfield 80, 3) := by decide +kernel
theorem dX10_copy_115 : decode cX10_copy 115 = .ok (.iload 4, 2) := by decide +kernel
theorem dX10_copy_117 : decode cX10_copy 117 = .ok (.iload 5, 2) := by decide +kernel
theorem dX10_copy_119 : decode cX10_copy 119 = .ok (.invokestatic 94, 3) := by decide +kernel
theorem dX10_copy_122 : decode cX10_copy 122 = .ok (.iconst 1, 1) := by decide +kernel
theorem dX10_copy_123 : decode cX10_copy 123 = .ok (.ireturn, 1) := by decide +kernel
theorem dX10_mean_0 : decode cX10_mean 0 = .ok (.aload_n 0, 1) := by decide +kernel
theorem dX10_mean_1 : decode cX10_mean 1 = .ok (.iload_n 1, 1) := by decide +kernel
theorem dX10_mean_2 : decode cX10_mean 2 = .ok (.invokevirtual 64, 3) := by decide +kernel
theorem dX10_mean_5 : decode cX10_mean 5 = .ok (.ifCond .ne 5, 3) := by decide +kernel
theorem dX10_mean_8 : decode cX10_mean 8 = .ok (.iconst (-1), 1) := by decide +kernel
theorem dX10_mean_9 : decode cX10_mean 9 = .ok (.ireturn, 1) := by decide +kernel
theorem dX10_mean_10 : decode cX10_mean 10 = .ok (.aload_n 0, 1) := by decide +kernel
theorem dX10_mean_11 : decode cX10_mean 11 = .ok (.getfield 11, 3) := by decide +kernel
theorem dX10_mean_14 : decode cX10_mean 14 = .ok (.iload_n 1, 1) := by decide +kernel
theorem dX10_mean_15 : decode cX10_mean 15 = .ok (.aaload, 1) := by decide +kernel
theorem dX10_mean_16 : decode cX10_mean 16 = .ok (.astore_n 2, 1) := by decide +kernel
theorem dX10_mean_17 : decode cX10_mean 17 = .ok (.aload_n 2, 1) := by decide +kernel
theorem dX10_mean_18 : decode cX10_mean 18 = .ok (.invokevirtual 83, 3) := by decide +kernel
theorem dX10_mean_21 : decode cX10_mean 21 = .ok (.ifCond .ne 9, 3) := by decide +kernel
theorem dX10_mean_24 : decode cX10_mean 24 = .ok (.aload_n 0, 1) := by decide +kernel
theorem dX10_mean_25 : decode cX10_mean 25 = .ok (.iconst 1, 1) := by decide +kernel
theorem dX10_mean_26 : decode cX10_mean 26 = .ok (.invokevirtual 68, 3) := by decide +kernel
theorem dX10_mean_29 : decode cX10_mean 29 = .ok (.ireturn, 1) := by decide +kernel
theorem dX10_mean_30 : decode cX10_mean 30 = .ok (.aload_n 2, 1) := by decide +kernel
theorem dX10_mean_31 : decode cX10_mean 31 = .ok (.getfield 100, 3) := by decide +kernel
theorem dX10_mean_34 : decode cX10_mean 34 = .ok (.ifCond .ne 9, 3) := by decide +kernel
theorem dX10_mean_37 : decode cX10_mean 37 = .ok (.aload_n 0, 1) := by decide +kernel
theorem dX10_mean_38 : decode cX10_mean 38 = .ok (.iconst 4, 1) := by decide +kernel
theorem dX10_mean_39 : decode cX10_mean 39 = .ok (.invokevirtual 68, 3) := by decide +kernel
theorem dX10_mean_42 : decode cX10_mean 42 = .ok (.ireturn, 1) := by decide +kernel
theorem dX10_mean_43 : decode cX10_mean 43 = .ok (.aload_n 0, 1) := by decide +kernel
theorem dX10_mean_44 : decode cX10_mean 44 = .ok (.aload_n 2, 1) := by decide +kernel
theorem dX10_mean_45 : decode cX10_mean 45 = .ok (.invokevirtual 103, 3) := by decide +kernel
theorem dX10_mean_48 : decode cX10_mean 48 = .ok (.aload_n 2, 1) := by decide +kernel
theorem dX10_mean_49 : decode cX10_mean 49 = .ok (.getfield 100, 3) := by decide +kernel
theorem dX10_mean_52 : decode cX10_mean 52 = .ok (.i2l, 1) := by decide +kernel
theorem dX10_mean_53 : decode cX10_mean 53 = .ok (.ldiv, 1) := by decide +kernel
theorem dX10_mean_54 : decode cX10_mean 54 = .ok (.l2i, 1) := by decide +kernel
theorem dX10_mean_55 : decode cX10_mean 55 = .ok (.putfield 51, 3) := by decide +kernel
theorem dX10_mean_58 : decode cX10_mean 58 = .ok (.iconst 1, 1) := by decide +kernel
theorem dX10_mean_59 : decode cX10_mean 59 = .ok (.ireturn, 1) := by decide +kernel
theorem dX10_text_0 : decode cX10_text 0 = .ok (.aload_n 0, 1) := by decide +kernel
theorem dX10_text_1 : decode cX10_text 1 = .ok (.iload_n 1, 1) := by decide +kernel
theorem dX10_text_2 : decode cX10_text 2 = .ok (.invokevirtual 107, 3) := by decide +kernel
theorem dX10_text_5 : decode cX10_text 5 = .ok (.ifCond .eq 9, 3) := by decide +kernel
theorem dX10_text_8 : decode cX10_text 8 = .ok (.iload_n 2, 1) := by decide +kernel
theorem dX10_text_9 : decode cX10_text 9 = .ok (.bipush 60, 2) := by decide +kernel
theorem dX10_text_11 : decode cX10_text 11 = .ok (.if_icmp .le 5, 3) := by decide +kernel
theorem dX10_text_14 : decode cX10_text 14 = .ok (.iconst (-1), 1) := by decide +kernel
theorem dX10_text_15 : decode cX10_text 15 = .ok (.ireturn, 1) := by decide +kernel
theorem dX10_text_16 : decode cX10_text 16 = .ok (.iload_n 2, 1) := by decide +kernel
theorem dX10_text_17 : decode cX10_text 17 = .ok (.ifCond .ge 9, 3) := by decide +kernel
theorem dX10_text_20 : decode cX10_text 20 = .ok (.aload_n 0, 1) := by decide +kernel
theorem dX10_text_21 : decode cX10_text 21 = .ok (.iconst 5, 1) := by decide +kernel
theorem dX10_text_22 : decode cX10_text 22 = .ok (.invokevirtual 68, 3) := by decide +kernel
theorem dX10_text_25 : decode cX10_text 25 = .ok (.ireturn, 1) := by decide +kernel
theorem dX10_text_26 : decode cX10_text 26 = .ok (.aload_n 0, 1) := by decide +kernel
theorem dX10_text_27 : decode cX10_text 27 = .ok (.getfield 15, 3) := by decide +kernel
theorem dX10_text_30 : decode cX10_text 30 = .ok (.iload_n 1, 1) := by decide +kernel
theorem dX10_text_31 : decode cX10_text 31 = .ok (.aaload, 1) := by decide +kernel
theorem dX10_text_32 : decode cX10_text 32 = .ok (.iload_n 2, 1) := by decide +kernel
theorem dX10_text_33 : decode cX10_text 33 = .ok (.bipush 32, 2) := by decide +kernel
theorem dX10_text_35 : decode cX10_text 35 = .ok (.invokevirtual 72, 3) := by decide +kernel
theorem dX10_text_38 : decode cX10_text 38 = .ok (.iload_n 2, 1) := by decide +kernel
theorem dX10_text_39 : decode cX10_text 39 = .ok (.ireturn, 1) := by decide +kernel
theorem dX10_put_0 : decode cX10_put 0 = .ok (.aload_n 0, 1) := by decide +kernel
theorem dX10_put_1 : decode cX10_put 1 = .ok (.iload_n 1, 1) := by decide +kernel
theorem dX10_put_2 : decode cX10_put 2 = .ok (.invokevirtual 107, 3) := by decide +kernel
theorem dX10_put_5 : decode cX10_put 5 = .ok (.ifCond .ne 5, 3) := by decide +kernel
theorem dX10_put_8 : decode cX10_put 8 = .ok (.iconst (-1), 1) := by decide +kernel
theorem dX10_put_9 : decode cX10_put 9 = .ok (.ireturn, 1) := by decide +kernel
theorem dX10_put_10 : decode cX10_put 10 = .ok (.aload_n 0, 1) := by decide +kernel
theorem dX10_put_11 : decode cX10_put 11 = .ok (.aload_n 0, 1) := by decide +kernel
theorem dX10_put_12 : decode cX10_put 12 = .ok (.getfield 15, 3) := by decide +kernel
theorem dX10_put_15 : decode cX10_put 15 = .ok (.iload_n 1, 1) := by decide +kernel
theorem dX10_put_16 : decode cX10_put 16 = .ok (.aaload, 1) := by decide +kernel
theorem dX10_put_17 : decode cX10_put 17 = .ok (.iload_n 2, 1) := by decide +kernel
theorem dX10_put_18 : decode cX10_put 18 = .ok (.invokevirtual 76, 3) := by decide +kernel
theorem dX10_put_21 : decode cX10_put 21 = .ok (.istore 4, 2) := by decide +kernel
theorem dX10_put_23 : decode cX10_put 23 = .ok (.iload 4, 2) := by decide +kernel
theorem dX10_put_25 : decode cX10_put 25 = .ok (.ifCond .eq 6, 3) := by decide +kernel
theorem dX10_put_28 : decode cX10_put 28 = .ok (.iload 4, 2) := by decide +kernel
theorem dX10_put_30 : decode cX10_put 30 = .ok (.ireturn, 1) := by decide +kernel
theorem dX10_put_31 : decode cX10_put 31 = .ok (.aload_n 0, 1) := by decide +kernel
theorem dX10_put_32 : decode cX10_put 32 = .ok (.getfield 15, 3) := by decide +kernel
theorem dX10_put_35 : decode cX10_put 35 = .ok (.iload_n 1, 1) := by decide +kernel
theorem dX10_put_36 : decode cX10_put 36 = .ok (.aaload, 1) := by decide +kernel
theorem dX10_put_37 : decode cX10_put 37 = .ok (.getfield 80, 3) := by decide +kernel
theorem dX10_put_40 : decode cX10_put 40 = .ok (.iload_n 2, 1) := by decide +kernel
theorem dX10_put_41 : decode cX10_put 41 = .ok (.iaload, 1) := by decide +kernel
theorem dX10_put_42 : decode cX10_put 42 = .ok (.istore 5, 2) := by decide +kernel
theorem dX10_put_44 : decode cX10_put 44 = .ok (.aload_n 0, 1) := by decide +kernel
theorem dX10_put_45 : decode cX10_put 45 = .ok (.getfield 15, 3) := by decide +kernel
theorem dX10_put_48 : decode cX10_put 48 = .ok (.iload_n 1, 1) := by decide +kernel
theorem dX10_put_49 : decode cX10_put 49 = .ok (.aaload, 1) := by decide +kernel
theorem dX10_put_50 : decode cX10_put 50 = .ok (.getfield 80, 3) := by decide +kernel
theorem dX10_put_53 : decode cX10_put 53 = .ok (.iload_n 2, 1) := by decide +kernel
theorem dX10_put_54 : decode cX10_put 54 = .ok (.iload_n 3, 1) := by decide +kernel
theorem dX10_put_55 : decode cX10_put 55 = .ok (.i2b, 1) := by decide +kernel
theorem dX10_put_56 : decode cX10_put 56 = .ok (.iastore, 1) := by decide +kernel
theorem dX10_put_57 : decode cX10_put 57 = .ok (.iload 5, 2) := by decide +kernel
theorem dX10_put_59 : decode cX10_put 59 = .ok (.sipush 1000, 3) := by decide +kernel
theorem dX10_put_62 : decode cX10_put 62 = .ok (.iadd, 1) := by decide +kernel
theorem dX10_put_63 : decode cX10_put 63 = .ok (.ireturn, 1) := by decide +kernel
theorem dX10_fault_0 : decode cX10_fault 0 = .ok (.aload_n 0, 1) := by decide +kernel
theorem dX10_fault_1 : decode cX10_fault 1 = .ok (.iload_n 1, 1) := by decide +kernel
theorem dX10_fault_2 : decode cX10_fault 2 = .ok (.invokevirtual 107, 3) := by decide +kernel
theorem dX10_fault_5 : decode cX10_fault 5 = .ok (.ifCond .ne 5, 3) := by decide +kernel
theorem dX10_fault_8 : decode cX10_fault 8 = .ok (.iconst (-1), 1) := by decide +kernel
theorem dX10_fault_9 : decode cX10_fault 9 = .ok (.ireturn, 1) := by decide +kernel
theorem dX10_fault_10 : decode cX10_fault 10 = .ok (.aload_n 0, 1) := by decide +kernel
theorem dX10_fault_11 : decode cX10_fault 11 = .ok (.getfield 15, 3) := by decide +kernel
theorem dX10_fault_14 : decode cX10_fault 14 = .ok (.iload_n 1, 1) := by decide +kernel
theorem dX10_fault_15 : decode cX10_fault 15 = .ok (.aaload, 1) := by decide +kernel
theorem dX10_fault_16 : decode cX10_fault 16 = .ok (.invokevirtual 83, 3) := by decide +kernel
theorem dX10_fault_19 : decode cX10_fault 19 = .ok (.ifCond .ne 9, 3) := by decide +kernel
theorem dX10_fault_22 : decode cX10_fault 22 = .ok (.aload_n 0, 1) := by decide +kernel
theorem dX10_fault_23 : decode cX10_fault 23 = .ok (.iconst 1, 1) := by decide +kernel
theorem dX10_fault_24 : decode cX10_fault 24 = .ok (.invokevirtual 68, 3) := by decide +kernel
theorem dX10_fault_27 : decode cX10_fault 27 = .ok (.ireturn, 1) := by decide +kernel
theorem dX10_fault_28 : decode cX10_fault 28 = .ok (.aload_n 0, 1) := by decide +kernel
theorem dX10_fault_29 : decode cX10_fault 29 = .ok (.getfield 21, 3) := by decide +kernel
theorem dX10_fault_32 : decode cX10_fault 32 = .ok (.aload_n 0, 1) := by decide +kernel
theorem dX10_fault_33 : decode cX10_fault 33 = .ok (.getfield 15, 3) := by decide +kernel
theorem dX10_fault_36 : decode cX10_fault 36 = .ok (.iload_n 1, 1) := by decide +kernel
theorem dX10_fault_37 : decode cX10_fault 37 = .ok (.aaload, 1) := by decide +kernel
theorem dX10_fault_38 : decode cX10_fault 38 = .ok (.invokevirtual 110, 3) := by decide +kernel
theorem dX10_fault_41 : decode cX10_fault 41 = .ok (.ireturn, 1) := by decide +kernel
theorem dX10_town_0 : decode cX10_town 0 = .ok (.aload_n 0, 1) := by decide +kernel
theorem dX10_town_1 : decode cX10_town 1 = .ok (.iload_n 1, 1) := by decide +kernel
theorem dX10_town_2 : decode cX10_town 2 = .ok (.invokevirtual 107, 3) := by decide +kernel
theorem dX10_town_5 : decode cX10_town 5 = .ok (.ifCond .ne 5, 3) := by decide +kernel
theorem dX10_town_8 : decode cX10_town 8 = .ok (.iconst (-1), 1) := by decide +kernel
theorem dX10_town_9 : decode cX10_town 9 = .ok (.ireturn, 1) := by decide +kernel
theorem dX10_town_10 : decode cX10_town 10 = .ok (.aload_n 0, 1) := by decide +kernel
theorem dX10_town_11 : decode cX10_town 11 = .ok (.getfield 15, 3) := by decide +kernel
theorem dX10_town_14 : decode cX10_town 14 = .ok (.iload_n 1, 1) := by decide +kernel
theorem dX10_town_15 : decode cX10_town 15 = .ok (.aaload, 1) := by decide +kernel
theorem dX10_town_16 : decode cX10_town 16 = .ok (.invokevirtual 83, 3) := by decide +kernel
theorem dX10_town_19 : decode cX10_town 19 = .ok (.ifCond .ne 9, 3) := by decide +kernel
theorem dX10_town_22 : decode cX10_town 22 = .ok (.aload_n 0, 1) := by decide +kernel
theorem dX10_town_23 : decode cX10_town 23 = .ok (.iconst 1, 1) := by decide +kernel
theorem dX10_town_24 : decode cX10_town 24 = .ok (.invokevirtual 68, 3) := by decide +kernel
theorem dX10_town_27 : decode cX10_town 27 = .ok (.ireturn, 1) := by decide +kernel
theorem dX10_town_28 : decode cX10_town 28 = .ok (.aload_n 0, 1) := by decide +kernel
theorem dX10_town_29 : decode cX10_town 29 = .ok (.getfield 21, 3) := by decide +kernel
theorem dX10_town_32 : decode cX10_town 32 = .ok (.aload_n 0, 1) := by decide +kernel
theorem dX10_town_33 : decode cX10_town 33 = .ok (.getfield 15, 3) := by decide +kernel
theorem dX10_town_36 : decode cX10_town 36 = .ok (.iload_n 1, 1) := by decide +kernel
theorem dX10_town_37 : decode cX10_town 37 = .ok (.aaload, 1) := by decide +kernel
theorem dX10_town_38 : decode cX10_town 38 = .ok (.invokevirtual 110, 3) := by decide +kernel
theorem dX10_town_41 : decode cX10_town 41 = .ok (.bipush (-9), 2) := by decide +kernel
theorem dX10_town_43 : decode cX10_town 43 = .ok (.if_icmp .eq 6, 3) := by decide +kernel
theorem dX10_town_46 : decode cX10_town 46 = .ok (.bipush (-4), 2) := by decide +kernel
theorem dX10_town_48 : decode cX10_town 48 = .ok (.ireturn, 1) := by decide +kernel
theorem dX10_town_49 : decode cX10_town 49 = .ok (.aload_n 0, 1) := by decide +kernel
theorem dX10_town_50 : decode cX10_town 50 = .ok (.getfield 28, 3) := by decide +kernel
theorem dX10_town_53 : decode cX10_town 53 = .ok (.aload_n 0, 1) := by decide +kernel
theorem dX10_town_54 : decode cX10_town 54 = .ok (.getfield 21, 3) := by decide +kernel
theorem dX10_town_57 : decode cX10_town 57 = .ok (.invokevirtual 114, 3) := by decide +kernel
theorem dX10_town_60 : decode cX10_town 60 = .ok (.iconst 0, 1) := by decide +kernel
theorem dX10_town_61 : decode cX10_town 61 = .ok (.istore_n 2, 1) := by decide +kernel
theorem dX10_town_62 : decode cX10_town 62 = .ok (.iload_n 2, 1) := by decide +kernel
theorem dX10_town_63 : decode cX10_town 63 = .ok (.iconst 3, 1) := by decide +kernel
theorem dX10_town_64 : decode cX10_town 64 = .ok (.if_icmp .ge 19, 3) := by decide +kernel
theorem dX10_town_67 : decode cX10_town 67 = .ok (.aload_n 0, 1) := by decide +kernel
theorem dX10_town_68 : decode cX10_town 68 = .ok (.getfield 32, 3) := by decide +kernel
theorem dX10_town_71 : decode cX10_town 71 = .ok (.iload_n 2, 1) := by decide +kernel
theorem dX10_town_72 : decode cX10_town 72 = .ok (.aaload, 1) := by decide +kernel
theorem dX10_town_73 : decode cX10_town 73 = .ok (.iconst 0, 1) := by decide +kernel
theorem dX10_town_74 : decode cX10_town 74 = .ok (.putfield 118, 3) := by decide +kernel
theorem dX10_town_77 : decode cX10_town 77 = .ok (.iinc 2 1, 3) := by decide +kernel
theorem dX10_town_80 : decode cX10_town 80 = .ok (.goto (-18), 3) := by decide +kernel
theorem dX10_town_83 : decode cX10_town 83 = .ok (.aload_n 0, 1) := by decide +kernel
theorem dX10_town_84 : decode cX10_town 84 = .ok (.getfield 28, 3) := by decide +kernel
theorem dX10_town_87 : decode cX10_town 87 = .ok (.getfield 118, 3) := by decide +kernel
theorem dX10_town_90 : decode cX10_town 90 = .ok (.ireturn, 1) := by decide +kernel
theorem dX10_person_0 : decode cX10_person 0 = .ok (.aload_n 0, 1) := by decide +kernel
theorem dX10_person_1 : decode cX10_person 1 = .ok (.iload_n 1, 1) := by decide +kernel
theorem dX10_person_2 : decode cX10_person 2 = .ok (.invokevirtual 121, 3) := by decide +kernel
theorem dX10_person_5 : decode cX10_person 5 = .ok (.ifCond .eq 13, 3) := by decide +kernel
theorem dX10_person_8 : decode cX10_person 8 = .ok (.iload_n 2, 1) := by decide +kernel
theorem dX10_person_9 : decode cX10_person 9 = .ok (.ifCond .lt 9, 3) := by decide +kernel
theorem dX10_person_12 : decode cX10_person 12 = .ok (.iload_n 2, 1) := by decide +kernel
theorem dX10_person_13 : decode cX10_person 13 = .ok (.bipush 7, 2) := by decide +kernel
theorem dX10_person_15 : decode cX10_person 15 = .ok (.if_icmp .lt 5, 3) := by decide +kernel
theorem dX10_person_18 : decode cX10_person 18 = .ok (.iconst (-1), 1) := by decide +kernel
theorem dX10_person_19 : decode cX10_person 19 = .ok (.ireturn, 1) := by decide +kernel
theorem dX10_person_20 : decode cX10_person 20 = .ok (.aload_n 0, 1) := by decide +kernel
theorem dX10_person_21 : decode cX10_person 21 = .ok (.aload_n 0, 1) := by decide +kernel
theorem dX10_person_22 : decode cX10_person 22 = .ok (.getfield 28, 3) := by decide +kernel
theorem dX10_person_25 : decode cX10_person 25 = .ok (.iload_n 1, 1) := by decide +kernel
theorem dX10_person_26 : decode cX10_person 26 = .ok (.iload_n 2, 1) := by decide +kernel
theorem dX10_person_27 : decode cX10_person 27 = .ok (.invokevirtual 124, 3) := by decide +kernel
theorem dX10_person_30 : decode cX10_person 30 = .ok (.putfield 51, 3) := by decide +kernel
theorem dX10_person_33 : decode cX10_person 33 = .ok (.iconst 1, 1) := by decide +kernel
theorem dX10_person_34 : decode cX10_person 34 = .ok (.ireturn, 1) := by decide +kernel
theorem dX10_deep_0 : decode cX10_deep 0 = .ok (.aload_n 0, 1) := by decide +kernel
theorem dX10_deep_1 : decode cX10_deep 1 = .ok (.iload_n 1, 1) := by decide +kernel
theorem dX10_deep_2 : decode cX10_deep 2 = .ok (.invokevirtual 128, 3) := by decide +kernel
theorem dX10_deep_5 : decode cX10_deep 5 = .ok (.ifCond .ne 5, 3) := by decide +kernel
theorem dX10_deep_8 : decode cX10_deep 8 = .ok (.iconst (-1), 1) := by decide +kernel
theorem dX10_deep_9 : decode cX10_deep 9 = .ok (.ireturn, 1) := by decide +kernel
theorem dX10_deep_10 : decode cX10_deep 10 = .ok (.aload_n 0, 1) := by decide +kernel
theorem dX10_deep_11 : decode cX10_deep 11 = .ok (.getfield 28, 3) := by decide +kernel
theorem dX10_deep_14 : decode cX10_deep 14 = .ok (.invokevirtual 131, 3) := by decide +kernel
theorem dX10_deep_17 : decode cX10_deep 17 = .ok (.ifCond .ne 6, 3) := by decide +kernel
theorem dX10_deep_20 : decode cX10_deep 20 = .ok (.bipush (-4), 2) := by decide +kernel
theorem dX10_deep_22 : decode cX10_deep 22 = .ok (.ireturn, 1) := by decide +kernel
theorem dX10_deep_23 : decode cX10_deep 23 = .ok (.aload_n 0, 1) := by decide +kernel
theorem dX10_deep_24 : decode cX10_deep 24 = .ok (.aload_n 0, 1) := by decide +kernel
theorem dX10_deep_25 : decode cX10_deep 25 = .ok (.getfield 28, 3) := by decide +kernel
theorem dX10_deep_28 : decode cX10_deep 28 = .ok (.iload_n 1, 1) := by decide +kernel
theorem dX10_deep_29 : decode cX10_deep 29 = .ok (.invokevirtual 134, 3) := by decide +kernel
theorem dX10_deep_32 : decode cX10_deep 32 = .ok (.putfield 51, 3) := by decide +kernel
theorem dX10_deep_35 : decode cX10_deep 35 = .ok (.aload_n 0, 1) := by decide +kernel
theorem dX10_deep_36 : decode cX10_deep 36 = .ok (.getfield 28, 3) := by decide +kernel
theorem dX10_deep_39 : decode cX10_deep 39 = .ok (.getfield 137, 3) := by decide +kernel
theorem dX10_deep_42 : decode cX10_deep 42 = .ok (.iload_n 1, 1) := by decide +kernel
theorem dX10_deep_43 : decode cX10_deep 43 = .ok (.iaload, 1) := by decide +kernel
theorem dX10_deep_44 : decode cX10_deep 44 = .ok (.ireturn, 1) := by decide +kernel
theorem dX10_mark_0 : decode cX10_mark 0 = .ok (.aload_n 0, 1) := by decide +kernel
theorem dX10_mark_1 : decode cX10_mark 1 = .ok (.iload_n 1, 1) := by decide +kernel
theorem dX10_mark_2 : decode cX10_mark 2 = .ok (.invokevirtual 121, 3) := by decide +kernel
theorem dX10_mark_5 : decode cX10_mark 5 = .ok (.ifCond .eq 14, 3) := by decide +kernel
theorem dX10_mark_8 : decode cX10_mark 8 = .ok (.iload_n 2, 1) := by decide +kernel
theorem dX10_mark_9 : decode cX10_mark 9 = .ok (.iconst 1, 1) := by decide +kernel
theorem dX10_mark_10 : decode cX10_mark 10 = .ok (.if_icmp .lt 9, 3) := by decide +kernel
theorem dX10_mark_13 : decode cX10_mark 13 = .ok (.iload_n 2, 1) := by decide +kernel
theorem dX10_mark_14 : decode cX10_mark 14 = .ok (.bipush 6, 2) := by decide +kernel
theorem dX10_mark_16 : decode cX10_mark 16 = .ok (.if_icmp .lt 5, 3) := by decide +kernel
theorem dX10_mark_19 : decode cX10_mark 19 = .ok (.iconst (-1), 1) := by decide +kernel
theorem dX10_mark_20 : decode cX10_mark 20 = .ok (.ireturn, 1) := by decide +kernel
theorem dX10_mark_21 : decode cX10_mark 21 = .ok (.aload_n 0, 1) := by decide +kernel
theorem dX10_mark_22 : decode cX10_mark 22 = .ok (.aload_n 0, 1) := by decide +kernel
theorem dX10_mark_23 : decode cX10_mark 23 = .ok (.getfield 28, 3) := by decide +kernel
theorem dX10_mark_26 : decode cX10_mark 26 = .ok (.iload_n 1, 1) := by decide +kernel
theorem dX10_mark_27 : decode cX10_mark 27 = .ok (.invokevirtual 140, 3) := by decide +kernel
theorem dX10_mark_30 : decode cX10_mark 30 = .ok (.iload_n 2, 1) := by decide +kernel
theorem dX10_mark_31 : decode cX10_mark 31 = .ok (.invokevirtual 144, 3) := by decide +kernel
theorem dX10_mark_34 : decode cX10_mark 34 = .ok (.ifCond .ne 9, 3) := by decide +kernel
theorem dX10_mark_37 : decode cX10_mark 37 = .ok (.aload_n 0, 1) := by decide +kernel
theorem dX10_mark_38 : decode cX10_mark 38 = .ok (.iconst 3, 1) := by decide +kernel
theorem dX10_mark_39 : decode cX10_mark 39 = .ok (.invokevirtual 68, 3) := by decide +kernel
theorem dX10_mark_42 : decode cX10_mark 42 = .ok (.ireturn, 1) := by decide +kernel
theorem dX10_mark_43 : decode cX10_mark 43 = .ok (.iload_n 2, 1) := by decide +kernel
theorem dX10_mark_44 : decode cX10_mark 44 = .ok (.tableswitch 113 1 4 #[32, 46, 65, 96], 32) := by decide +kernel
theorem dX10_mark_76 : decode cX10_mark 76 = .ok (.aload_n 0, 1) := by decide +kernel
theorem dX10_mark_77 : decode cX10_mark 77 = .ok (.getfield 28, 3) := by decide +kernel
theorem dX10_mark_80 : decode cX10_mark 80 = .ok (.getfield 148, 3) := by decide +kernel
theorem dX10_mark_83 : decode cX10_mark 83 = .ok (.iload_n 1, 1) := by decide +kernel
theorem dX10_mark_84 : decode cX10_mark 84 = .ok (.iaload, 1) := by decide +kernel
theorem dX10_mark_85 : decode cX10_mark 85 = .ok (.iconst 1, 1) := by decide +kernel
theorem dX10_mark_86 : decode cX10_mark 86 = .ok (.iadd, 1) := by decide +kernel
theorem dX10_mark_87 : decode cX10_mark 87 = .ok (.iconst 2, 1) := by decide +kernel
theorem dX10_mark_88 : decode cX10_mark 88 = .ok (.idiv, 1) := by decide +kernel
theorem dX10_mark_89 : decode cX10_mark 89 = .ok (.ireturn, 1) := by decide +kernel
theorem dX10_mark_90 : decode cX10_mark 90 = .ok (.aload_n 0, 1) := by decide +kernel
theorem dX10_mark_91 : decode cX10_mark 91 = .ok (.getfield 28, 3) := by decide +kernel
theorem dX10_mark_94 : decode cX10_mark 94 = .ok (.iload_n 1, 1) := by decide +kernel
theorem dX10_mark_95 : decode cX10_mark 95 = .ok (.invokevirtual 140, 3) := by decide +kernel
theorem dX10_mark_98 : decode cX10_mark 98 = .ok (.aload_n 0, 1) := by decide +kernel
theorem dX10_mark_99 : decode cX10_mark 99 = .ok (.getfield 28, 3) := by decide +kernel
theorem dX10_mark_102 : decode cX10_mark 102 = .ok (.getfield 151, 3) := by decide +kernel
theorem dX10_mark_105 : decode cX10_mark 105 = .ok (.invokevirtual 154, 3) := by decide +kernel
theorem dX10_mark_108 : decode cX10_mark 108 = .ok (.ireturn, 1) := by decide +kernel
theorem dX10_mark_109 : decode cX10_mark 109 = .ok (.aload_n 0, 1) := by decide +kernel
theorem dX10_mark_110 : decode cX10_mark 110 = .ok (.getfield 28, 3) := by decide +kernel
theorem dX10_mark_113 : decode cX10_mark 113 = .ok (.getfield 159, 3) := by decide +kernel
theorem dX10_mark_116 : decode cX10_mark 116 = .ok (.iload_n 1, 1) := by decide +kernel
theorem dX10_mark_117 : decode cX10_mark 117 = .ok (.iaload, 1) := by decide +kernel
theorem dX10_mark_118 : decode cX10_mark 118 = .ok (.aload_n 0, 1) := by decide +kernel
theorem dX10_mark_119 : decode cX10_mark 119 = .ok (.getfield 28, 3) := by decide +kernel
theorem dX10_mark_122 : decode cX10_mark 122 = .ok (.iload_n 1, 1) := by decide +kernel
theorem dX10_mark_123 : decode cX10_mark 123 = .ok (.invokevirtual 140, 3) := by decide +kernel
theorem dX10_mark_126 : decode cX10_mark 126 = .ok (.aload_n 0, 1) := by decide +kernel
theorem dX10_mark_127 : decode cX10_mark 127 = .ok (.getfield 28, 3) := by decide +kernel
theorem dX10_mark_130 : decode cX10_mark 130 = .ok (.getfield 159, 3) := by decide +kernel
theorem dX10_mark_133 : decode cX10_mark 133 = .ok (.iload_n 1, 1) := by decide +kernel
theorem dX10_mark_134 : decode cX10_mark 134 = .ok (.iaload, 1) := by decide +kernel
theorem dX10_mark_135 : decode cX10_mark 135 = .ok (.invokevirtual 162, 3) := by decide +kernel
theorem dX10_mark_138 : decode cX10_mark 138 = .ok (.isub, 1) := by decide +kernel
theorem dX10_mark_139 : decode cX10_mark 139 = .ok (.ireturn, 1) := by decide +kernel
theorem dX10_mark_140 : decode cX10_mark 140 = .ok (.aload_n 0, 1) := by decide +kernel
theorem dX10_mark_141 : decode cX10_mark 141 = .ok (.getfield 28, 3) := by decide +kernel
theorem dX10_mark_144 : decode cX10_mark 144 = .ok (.iload_n 1, 1) := by decide +kernel
theorem dX10_mark_145 : decode cX10_mark 145 = .ok (.invokevirtual 165, 3) := by decide +kernel
theorem dX10_mark_148 : decode cX10_mark 148 = .ok (.ifCond .eq 7, 3) := by decide +kernel
theorem dX10_mark_151 : decode cX10_mark 151 = .ok (.iconst 1, 1) := by decide +kernel
theorem dX10_mark_152 : decode cX10_mark 152 = .ok (.goto 4, 3) := by decide +kernel
theorem dX10_mark_155 : decode cX10_mark 155 = .ok (.iconst 0, 1) := by decide +kernel
theorem dX10_mark_156 : decode cX10_mark 156 = .ok (.ireturn, 1) := by decide +kernel
theorem dX10_mark_157 : decode cX10_mark 157 = .ok (.aload_n 0, 1) := by decide +kernel
theorem dX10_mark_158 : decode cX10_mark 158 = .ok (.getfield 28, 3) := by decide +kernel
theorem dX10_mark_161 : decode cX10_mark 161 = .ok (.iload_n 1, 1) := by decide +kernel
theorem dX10_mark_162 : decode cX10_mark 162 = .ok (.invokevirtual 165, 3) := by decide +kernel
theorem dX10_mark_165 : decode cX10_mark 165 = .ok (.ifCond .eq 21, 3) := by decide +kernel
theorem dX10_mark_168 : decode cX10_mark 168 = .ok (.aload_n 0, 1) := by decide +kernel
theorem dX10_mark_169 : decode cX10_mark 169 = .ok (.getfield 28, 3) := by decide +kernel
theorem dX10_mark_172 : decode cX10_mark 172 = .ok (.getfield 148, 3) := by decide +kernel
theorem dX10_mark_175 : decode cX10_mark 175 = .ok (.iload_n 1, 1) := by decide +kernel
theorem dX10_mark_176 : decode cX10_mark 176 = .ok (.iaload, 1) := by decide +kernel
theorem dX10_mark_177 : decode cX10_mark 177 = .ok (.bipush 9, 2) := by decide +kernel
theorem dX10_mark_179 : decode cX10_mark 179 = .ok (.if_icmp .ge 7, 3) := by decide +kernel
theorem dX10_mark_182 : decode cX10_mark 182 = .ok (.iconst 1, 1) := by decide +kernel
theorem dX10_mark_183 : decode cX10_mark 183 = .ok (.goto 4, 3) := by decide +kernel
theorem dX10_mark_186 : decode cX10_mark 186 = .ok (.iconst 0, 1) := by decide +kernel
theorem dX10_mark_187 : decode cX10_mark 187 = .ok (.ireturn, 1) := by decide +kernel
theorem dX10_day_0 : decode cX10_day 0 = .ok (.aload_n 0, 1) := by decide +kernel
theorem dX10_day_1 : decode cX10_day 1 = .ok (.getfield 28, 3) := by decide +kernel
theorem dX10_day_4 : decode cX10_day 4 = .ok (.invokevirtual 131, 3) := by decide +kernel
theorem dX10_day_7 : decode cX10_day 7 = .ok (.ifCond .eq 15, 3) := by decide +kernel
theorem dX10_day_10 : decode cX10_day 10 = .ok (.aload_n 0, 1) := by decide +kernel
theorem dX10_day_11 : decode cX10_day 11 = .ok (.getfield 28, 3) := by decide +kernel
theorem dX10_day_14 : decode cX10_day 14 = .ok (.getfield 151, 3) := by decide +kernel
theorem dX10_day_17 : decode cX10_day 17 = .ok (.bipush 99, 2) := by decide +kernel
theorem dX10_day_19 : decode cX10_day 19 = .ok (.if_icmp .lt 6, 3) := by decide +kernel
theorem dX10_day_22 : decode cX10_day 22 = .ok (.bipush (-4), 2) := by decide +kernel
theorem dX10_day_24 : decode cX10_day 24 = .ok (.ireturn, 1) := by decide +kernel
theorem dX10_day_25 : decode cX10_day 25 = .ok (.aload_n 0, 1) := by decide +kernel
theorem dX10_day_26 : decode cX10_day 26 = .ok (.getfield 28, 3) := by decide +kernel
theorem dX10_day_29 : decode cX10_day 29 = .ok (.getfield 168, 3) := by decide +kernel
theorem dX10_day_32 : decode cX10_day 32 = .ok (.bipush 40, 2) := by decide +kernel
theorem dX10_day_34 : decode cX10_day 34 = .ok (.if_icmp .lt 6, 3) := by decide +kernel
theorem dX10_day_37 : decode cX10_day 37 = .ok (.bipush (-2), 2) := by decide +kernel
theorem dX10_day_39 : decode cX10_day 39 = .ok (.ireturn, 1) := by decide +kernel
theorem dX10_day_40 : decode cX10_day 40 = .ok (.aload_n 0, 1) := by decide +kernel
theorem dX10_day_41 : decode cX10_day 41 = .ok (.getfield 28, 3) := by decide +kernel
theorem dX10_day_44 : decode cX10_day 44 = .ok (.iconst 1, 1) := by decide +kernel
theorem dX10_day_45 : decode cX10_day 45 = .ok (.iconst 0, 1) := by decide +kernel
theorem dX10_day_46 : decode cX10_day 46 = .ok (.iconst 0, 1) := by decide +kernel
theorem dX10_day_47 : decode cX10_day 47 = .ok (.invokevirtual 171, 3) := by decide +kernel
theorem dX10_day_50 : decode cX10_day 50 = .ok (.aload_n 0, 1) := by decide +kernel
theorem dX10_day_51 : decode cX10_day 51 = .ok (.getfield 28, 3) := by decide +kernel
theorem dX10_day_54 : decode cX10_day 54 = .ok (.invokevirtual 175, 3) := by decide +kernel
theorem dX10_day_57 : decode cX10_day 57 = .ok (.ireturn, 1) := by decide +kernel
theorem dX10_fall_0 : decode cX10_fall 0 = .ok (.aload_n 0, 1) := by decide +kernel
theorem dX10_fall_1 : decode cX10_fall 1 = .ok (.iload_n 1, 1) := by decide +kernel
theorem dX10_fall_2 : decode cX10_fall 2 = .ok (.invokevirtual 128, 3) := by decide +kernel
theorem dX10_fall_5 : decode cX10_fall 5 = .ok (.ifCond .eq 14, 3) := by decide +kernel
theorem dX10_fall_8 : decode cX10_fall 8 = .ok (.iload_n 2, 1) := by decide +kernel
theorem dX10_fall_9 : decode cX10_fall 9 = .ok (.iconst 1, 1) := by decide +kernel
theorem dX10_fall_10 : decode cX10_fall 10 = .ok (.if_icmp .lt 9, 3) := by decide +kernel
theorem dX10_fall_13 : decode cX10_fall 13 = .ok (.iload_n 2, 1) := by decide +kernel
theorem dX10_fall_14 : decode cX10_fall 14 = .ok (.bipush 9, 2) := by decide +kernel
theorem dX10_fall_16 : decode cX10_fall 16 = .ok (.if_icmp .le 5, 3) := by decide +kernel
theorem dX10_fall_19 : decode cX10_fall 19 = .ok (.iconst (-1), 1) := by decide +kernel
theorem dX10_fall_20 : decode cX10_fall 20 = .ok (.ireturn, 1) := by decide +kernel
theorem dX10_fall_21 : decode cX10_fall 21 = .ok (.aload_n 0, 1) := by decide +kernel
theorem dX10_fall_22 : decode cX10_fall 22 = .ok (.getfield 28, 3) := by decide +kernel
theorem dX10_fall_25 : decode cX10_fall 25 = .ok (.invokevirtual 131, 3) := by decide +kernel
theorem dX10_fall_28 : decode cX10_fall 28 = .ok (.ifCond .eq 17, 3) := by decide +kernel
theorem dX10_fall_31 : decode cX10_fall 31 = .ok (.aload_n 0, 1) := by decide +kernel
theorem dX10_fall_32 : decode cX10_fall 32 = .ok (.getfield 28, 3) := by decide +kernel
theorem dX10_fall_35 : decode cX10_fall 35 = .ok (.getfield 137, 3) := by decide +kernel
theorem dX10_fall_38 : decode cX10_fall 38 = .ok (.iload_n 1, 1) := by decide +kernel
theorem dX10_fall_39 : decode cX10_fall 39 = .ok (.iaload, 1) := by decide +kernel
theorem dX10_fall_40 : decode cX10_fall 40 = .ok (.bipush 9, 2) := by decide +kernel
theorem dX10_fall_42 : decode cX10_fall 42 = .ok (.if_icmp .lt 6, 3) := by decide +kernel
theorem dX10_fall_45 : decode cX10_fall 45 = .ok (.bipush (-4), 2) := by decide +kernel
theorem dX10_fall_47 : decode cX10_fall 47 = .ok (.ireturn, 1) := by decide +kernel
theorem dX10_fall_48 : decode cX10_fall 48 = .ok (.aload_n 0, 1) := by decide +kernel
theorem dX10_fall_49 : decode cX10_fall 49 = .ok (.getfield 28, 3) := by decide +kernel
theorem dX10_fall_52 : decode cX10_fall 52 = .ok (.getfield 168, 3) := by decide +kernel
theorem dX10_fall_55 : decode cX10_fall 55 = .ok (.bipush 40, 2) := by decide +kernel
theorem dX10_fall_57 : decode cX10_fall 57 = .ok (.if_icmp .lt 6, 3) := by decide +kernel
theorem dX10_fall_60 : decode cX10_fall 60 = .ok (.bipush (-2), 2) := by decide +kernel
theorem dX10_fall_62 : decode cX10_fall 62 = .ok (.ireturn, 1) := by decide +kernel
theorem dX10_fall_63 : decode cX10_fall 63 = .ok (.aload_n 0, 1) := by decide +kernel
theorem dX10_fall_64 : decode cX10_fall 64 = .ok (.getfield 28, 3) := by decide +kernel
theorem dX10_fall_67 : decode cX10_fall 67 = .ok (.iconst 2, 1) := by decide +kernel
theorem dX10_fall_68 : decode cX10_fall 68 = .ok (.iload_n 1, 1) := by decide +kernel
theorem dX10_fall_69 : decode cX10_fall 69 = .ok (.iload_n 2, 1) := by decide +kernel
theorem dX10_fall_70 : decode cX10_fall 70 = .ok (.invokevirtual 171, 3) := by decide +kernel
theorem dX10_fall_73 : decode cX10_fall 73 = .ok (.aload_n 0, 1) := by decide +kernel
theorem dX10_fall_74 : decode cX10_fall 74 = .ok (.getfield 28, 3) := by decide +kernel
theorem dX10_fall_77 : decode cX10_fall 77 = .ok (.getfield 137, 3) := by decide +kernel
theorem dX10_fall_80 : decode cX10_fall 80 = .ok (.iload_n 1, 1) := by decide +kernel
theorem dX10_fall_81 : decode cX10_fall 81 = .ok (.iaload, 1) := by decide +kernel
theorem dX10_fall_82 : decode cX10_fall 82 = .ok (.ireturn, 1) := by decide +kernel
theorem dX10_wind_0 : decode cX10_wind 0 = .ok (.aload_n 0, 1) := by decide +kernel
theorem dX10_wind_1 : decode cX10_wind 1 = .ok (.iload_n 1, 1) := by decide +kernel
theorem dX10_wind_2 : decode cX10_wind 2 = .ok (.invokevirtual 128, 3) := by decide +kernel
theorem dX10_wind_5 : decode cX10_wind 5 = .ok (.ifCond .ne 5, 3) := by decide +kernel
theorem dX10_wind_8 : decode cX10_wind 8 = .ok (.iconst (-1), 1) := by decide +kernel
theorem dX10_wind_9 : decode cX10_wind 9 = .ok (.ireturn, 1) := by decide +kernel
theorem dX10_wind_10 : decode cX10_wind 10 = .ok (.aload_n 0, 1) := by decide +kernel
theorem dX10_wind_11 : decode cX10_wind 11 = .ok (.getfield 28, 3) := by decide +kernel
theorem dX10_wind_14 : decode cX10_wind 14 = .ok (.invokevirtual 131, 3) := by decide +kernel
theorem dX10_wind_17 : decode cX10_wind 17 = .ok (.ifCond .eq 15, 3) := by decide +kernel
theorem dX10_wind_20 : decode cX10_wind 20 = .ok (.aload_n 0, 1) := by decide +kernel
theorem dX10_wind_21 : decode cX10_wind 21 = .ok (.getfield 28, 3) := by decide +kernel
theorem dX10_wind_24 : decode cX10_wind 24 = .ok (.getfield 137, 3) := by decide +kernel
theorem dX10_wind_27 : decode cX10_wind 27 = .ok (.iload_n 1, 1) := by decide +kernel
theorem dX10_wind_28 : decode cX10_wind 28 = .ok (.iaload, 1) := by decide +kernel
theorem dX10_wind_29 : decode cX10_wind 29 = .ok (.ifCond .ne 6, 3) := by decide +kernel
theorem dX10_wind_32 : decode cX10_wind 32 = .ok (.bipush (-4), 2) := by decide +kernel
theorem dX10_wind_34 : decode cX10_wind 34 = .ok (.ireturn, 1) := by decide +kernel
theorem dX10_wind_35 : decode cX10_wind 35 = .ok (.aload_n 0, 1) := by decide +kernel
theorem dX10_wind_36 : decode cX10_wind 36 = .ok (.getfield 28, 3) := by decide +kernel
theorem dX10_wind_39 : decode cX10_wind 39 = .ok (.getfield 168, 3) := by decide +kernel
theorem dX10_wind_42 : decode cX10_wind 42 = .ok (.bipush 40, 2) := by decide +kernel
theorem dX10_wind_44 : decode cX10_wind 44 = .ok (.if_icmp .lt 6, 3) := by decide +kernel
theorem dX10_wind_47 : decode cX10_wind 47 = .ok (.bipush (-2), 2) := by decide +kernel
theorem dX10_wind_49 : decode cX10_wind 49 = .ok (.ireturn, 1) := by decide +kernel
theorem dX10_wind_50 : decode cX10_wind 50 = .ok (.aload_n 0, 1) := by decide +kernel
theorem dX10_wind_51 : decode cX10_wind 51 = .ok (.getfield 28, 3) := by decide +kernel
theorem dX10_wind_54 : decode cX10_wind 54 = .ok (.getfield 137, 3) := by decide +kernel
theorem dX10_wind_57 : decode cX10_wind 57 = .ok (.iload_n 1, 1) := by decide +kernel
theorem dX10_wind_58 : decode cX10_wind 58 = .ok (.iaload, 1) := by decide +kernel
theorem dX10_wind_59 : decode cX10_wind 59 = .ok (.istore_n 2, 1) := by decide +kernel
theorem dX10_wind_60 : decode cX10_wind 60 = .ok (.aload_n 0, 1) := by decide +kernel
theorem dX10_wind_61 : decode cX10_wind 61 = .ok (.getfield 28, 3) := by decide +kernel
theorem dX10_wind_64 : decode cX10_wind 64 = .ok (.iconst 3, 1) := by decide +kernel
theorem dX10_wind_65 : decode cX10_wind 65 = .ok (.iload_n 1, 1) := by decide +kernel
theorem dX10_wind_66 : decode cX10_wind 66 = .ok (.iconst 0, 1) := by decide +kernel
theorem dX10_wind_67 : decode cX10_wind 67 = .ok (.invokevirtual 171, 3) := by decide +kernel
theorem dX10_wind_70 : decode cX10_wind 70 = .ok (.iload_n 2, 1) := by decide +kernel
theorem dX10_wind_71 : decode cX10_wind 71 = .ok (.ireturn, 1) := by decide +kernel
theorem dX10_go_0 : decode cX10_go 0 = .ok (.aload_n 0, 1) := by decide +kernel
theorem dX10_go_1 : decode cX10_go 1 = .ok (.iload_n 1, 1) := by decide +kernel
theorem dX10_go_2 : decode cX10_go 2 = .ok (.invokevirtual 121, 3) := by decide +kernel
theorem dX10_go_5 : decode cX10_go 5 = .ok (.ifCond .eq 11, 3) := by decide +kernel
theorem dX10_go_8 : decode cX10_go 8 = .ok (.aload_n 0, 1) := by decide +kernel
theorem dX10_go_9 : decode cX10_go 9 = .ok (.iload_n 2, 1) := by decide +kernel
theorem dX10_go_10 : decode cX10_go 10 = .ok (.invokevirtual 128, 3) := by decide +kernel
theorem dX10_go_13 : decode cX10_go 13 = .ok (.ifCond .ne 5, 3) := by decide +kernel
theorem dX10_go_16 : decode cX10_go 16 = .ok (.iconst (-1), 1) := by decide +kernel
theorem dX10_go_17 : decode cX10_go 17 = .ok (.ireturn, 1) := by decide +kernel
theorem dX10_go_18 : decode cX10_go 18 = .ok (.aload_n 0, 1) := by decide +kernel
theorem dX10_go_19 : decode cX10_go 19 = .ok (.getfield 28, 3) := by decide +kernel
theorem dX10_go_22 : decode cX10_go 22 = .ok (.getfield 179, 3) := by decide +kernel
theorem dX10_go_25 : decode cX10_go 25 = .ok (.iload_n 1, 1) := by decide +kernel
theorem dX10_go_26 : decode cX10_go 26 = .ok (.iaload, 1) := by decide +kernel
theorem dX10_go_27 : decode cX10_go 27 = .ok (.iload_n 2, 1) := by decide +kernel
theorem dX10_go_28 : decode cX10_go 28 = .ok (.if_icmp .ne 6, 3) := by decide +kernel
theorem dX10_go_31 : decode cX10_go 31 = .ok (.bipush (-4), 2) := by decide +kernel
theorem dX10_go_33 : decode cX10_go 33 = .ok (.ireturn, 1) := by decide +kernel
theorem dX10_go_34 : decode cX10_go 34 = .ok (.aload_n 0, 1) := by decide +kernel
theorem dX10_go_35 : decode cX10_go 35 = .ok (.getfield 28, 3) := by decide +kernel
theorem dX10_go_38 : decode cX10_go 38 = .ok (.getfield 168, 3) := by decide +kernel
theorem dX10_go_41 : decode cX10_go 41 = .ok (.bipush 40, 2) := by decide +kernel
theorem dX10_go_43 : decode cX10_go 43 = .ok (.if_icmp .lt 6, 3) := by decide +kernel
theorem dX10_go_46 : decode cX10_go 46 = .ok (.bipush (-2), 2) := by decide +kernel
theorem dX10_go_48 : decode cX10_go 48 = .ok (.ireturn, 1) := by decide +kernel
theorem dX10_go_49 : decode cX10_go 49 = .ok (.aload_n 0, 1) := by decide +kernel
theorem dX10_go_50 : decode cX10_go 50 = .ok (.getfield 28, 3) := by decide +kernel
theorem dX10_go_53 : decode cX10_go 53 = .ok (.getfield 179, 3) := by decide +kernel
theorem dX10_go_56 : decode cX10_go 56 = .ok (.iload_n 1, 1) := by decide +kernel
theorem dX10_go_57 : decode cX10_go 57 = .ok (.iaload, 1) := by decide +kernel
theorem dX10_go_58 : decode cX10_go 58 = .ok (.istore_n 3, 1) := by decide +kernel
theorem dX10_go_59 : decode cX10_go 59 = .ok (.aload_n 0, 1) := by decide +kernel
theorem dX10_go_60 : decode cX10_go 60 = .ok (.getfield 28, 3) := by decide +kernel
theorem dX10_go_63 : decode cX10_go 63 = .ok (.iconst 4, 1) := by decide +kernel
theorem dX10_go_64 : decode cX10_go 64 = .ok (.iload_n 1, 1) := by decide +kernel
theorem dX10_go_65 : decode cX10_go 65 = .ok (.iload_n 2, 1) := by decide +kernel
theorem dX10_go_66 : decode cX10_go 66 = .ok (.invokevirtual 171, 3) := by decide +kernel
theorem dX10_go_69 : decode cX10_go 69 = .ok (.iload_n 3, 1) := by decide +kernel
theorem dX10_go_70 : decode cX10_go 70 = .ok (.ireturn, 1) := by decide +kernel
theorem dX10_undo_0 : decode cX10_undo 0 = .ok (.iload_n 1, 1) := by decide +kernel
theorem dX10_undo_1 : decode cX10_undo 1 = .ok (.ifCond .lt 14, 3) := by decide +kernel
theorem dX10_undo_4 : decode cX10_undo 4 = .ok (.iload_n 1, 1) := by decide +kernel
theorem dX10_undo_5 : decode cX10_undo 5 = .ok (.aload_n 0, 1) := by decide +kernel
theorem dX10_undo_6 : decode cX10_undo 6 = .ok (.getfield 28, 3) := by decide +kernel
theorem dX10_undo_9 : decode cX10_undo 9 = .ok (.getfield 168, 3) := by decide +kernel
theorem dX10_undo_12 : decode cX10_undo 12 = .ok (.if_icmp .le 5, 3) := by decide +kernel
theorem dX10_undo_15 : decode cX10_undo 15 = .ok (.iconst (-1), 1) := by decide +kernel
theorem dX10_undo_16 : decode cX10_undo 16 = .ok (.ireturn, 1) := by decide +kernel
theorem dX10_undo_17 : decode cX10_undo 17 = .ok (.aload_n 0, 1) := by decide +kernel
theorem dX10_undo_18 : decode cX10_undo 18 = .ok (.getfield 28, 3) := by decide +kernel
theorem dX10_undo_21 : decode cX10_undo 21 = .ok (.getfield 168, 3) := by decide +kernel
theorem dX10_undo_24 : decode cX10_undo 24 = .ok (.iload_n 1, 1) := by decide +kernel
theorem dX10_undo_25 : decode cX10_undo 25 = .ok (.isub, 1) := by decide +kernel
theorem dX10_undo_26 : decode cX10_undo 26 = .ok (.istore_n 2, 1) := by decide +kernel
theorem dX10_undo_27 : decode cX10_undo 27 = .ok (.aload_n 0, 1) := by decide +kernel
theorem dX10_undo_28 : decode cX10_undo 28 = .ok (.getfield 28, 3) := by decide +kernel
theorem dX10_undo_31 : decode cX10_undo 31 = .ok (.iload_n 1, 1) := by decide +kernel
theorem dX10_undo_32 : decode cX10_undo 32 = .ok (.invokevirtual 182, 3) := by decide +kernel
theorem dX10_undo_35 : decode cX10_undo 35 = .ok (.iload_n 2, 1) := by decide +kernel
theorem dX10_undo_36 : decode cX10_undo 36 = .ok (.ireturn, 1) := by decide +kernel
theorem dX10_keep_0 : decode cX10_keep 0 = .ok (.aload_n 0, 1) := by decide +kernel
theorem dX10_keep_1 : decode cX10_keep 1 = .ok (.iload_n 1, 1) := by decide +kernel
theorem dX10_keep_2 : decode cX10_keep 2 = .ok (.invokevirtual 185, 3) := by decide +kernel
theorem dX10_keep_5 : decode cX10_keep 5 = .ok (.ifCond .ne 5, 3) := by decide +kernel
theorem dX10_keep_8 : decode cX10_keep 8 = .ok (.iconst (-1), 1) := by decide +kernel
theorem dX10_keep_9 : decode cX10_keep 9 = .ok (.ireturn, 1) := by decide +kernel
theorem dX10_keep_10 : decode cX10_keep 10 = .ok (.aload_n 0, 1) := by decide +kernel
theorem dX10_keep_11 : decode cX10_keep 11 = .ok (.getfield 28, 3) := by decide +kernel
theorem dX10_keep_14 : decode cX10_keep 14 = .ok (.invokevirtual 131, 3) := by decide +kernel
theorem dX10_keep_17 : decode cX10_keep 17 = .ok (.ifCond .ne 6, 3) := by decide +kernel
theorem dX10_keep_20 : decode cX10_keep 20 = .ok (.bipush (-4), 2) := by decide +kernel
theorem dX10_keep_22 : decode cX10_keep 22 = .ok (.ireturn, 1) := by decide +kernel
theorem dX10_keep_23 : decode cX10_keep 23 = .ok (.aload_n 0, 1) := by decide +kernel
theorem dX10_keep_24 : decode cX10_keep 24 = .ok (.getfield 32, 3) := by decide +kernel
theorem dX10_keep_27 : decode cX10_keep 27 = .ok (.iload_n 1, 1) := by decide +kernel
theorem dX10_keep_28 : decode cX10_keep 28 = .ok (.aaload, 1) := by decide +kernel
theorem dX10_keep_29 : decode cX10_keep 29 = .ok (.aload_n 0, 1) := by decide +kernel
theorem dX10_keep_30 : decode cX10_keep 30 = .ok (.getfield 28, 3) := by decide +kernel
theorem dX10_keep_33 : decode cX10_keep 33 = .ok (.invokevirtual 188, 3) := by decide +kernel
theorem dX10_keep_36 : decode cX10_keep 36 = .ok (.aload_n 0, 1) := by decide +kernel
theorem dX10_keep_37 : decode cX10_keep 37 = .ok (.getfield 28, 3) := by decide +kernel
theorem dX10_keep_40 : decode cX10_keep 40 = .ok (.getfield 168, 3) := by decide +kernel
theorem dX10_keep_43 : decode cX10_keep 43 = .ok (.ireturn, 1) := by decide +kernel
theorem dX10_on_0 : decode cX10_on 0 = .ok (.aload_n 0, 1) := by decide +kernel
theorem dX10_on_1 : decode cX10_on 1 = .ok (.iload_n 1, 1) := by decide +kernel
theorem dX10_on_2 : decode cX10_on 2 = .ok (.invokevirtual 185, 3) := by decide +kernel
theorem dX10_on_5 : decode cX10_on 5 = .ok (.ifCond .ne 5, 3) := by decide +kernel
theorem dX10_on_8 : decode cX10_on 8 = .ok (.iconst (-1), 1) := by decide +kernel
theorem dX10_on_9 : decode cX10_on 9 = .ok (.ireturn, 1) := by decide +kernel
theorem dX10_on_10 : decode cX10_on 10 = .ok (.aload_n 0, 1) := by decide +kernel
theorem dX10_on_11 : decode cX10_on 11 = .ok (.getfield 32, 3) := by decide +kernel
theorem dX10_on_14 : decode cX10_on 14 = .ok (.iload_n 1, 1) := by decide +kernel
theorem dX10_on_15 : decode cX10_on 15 = .ok (.aaload, 1) := by decide +kernel
theorem dX10_on_16 : decode cX10_on 16 = .ok (.invokevirtual 131, 3) := by decide +kernel
theorem dX10_on_19 : decode cX10_on 19 = .ok (.ifCond .ne 9, 3) := by decide +kernel
theorem dX10_on_22 : decode cX10_on 22 = .ok (.aload_n 0, 1) := by decide +kernel
theorem dX10_on_23 : decode cX10_on 23 = .ok (.iconst 1, 1) := by decide +kernel
theorem dX10_on_24 : decode cX10_on 24 = .ok (.invokevirtual 68, 3) := by decide +kernel
theorem dX10_on_27 : decode cX10_on 27 = .ok (.ireturn, 1) := by decide +kernel
theorem dX10_on_28 : decode cX10_on 28 = .ok (.aload_n 0, 1) := by decide +kernel
theorem dX10_on_29 : decode cX10_on 29 = .ok (.getfield 28, 3) := by decide +kernel
theorem dX10_on_32 : decode cX10_on 32 = .ok (.aload_n 0, 1) := by decide +kernel
theorem dX10_on_33 : decode cX10_on 33 = .ok (.getfield 32, 3) := by decide +kernel
theorem dX10_on_36 : decode cX10_on 36 = .ok (.iload_n 1, 1) := by decide +kernel
theorem dX10_on_37 : decode cX10_on 37 = .ok (.aaload, 1) := by decide +kernel
theorem dX10_on_38 : decode cX10_on 38 = .ok (.invokevirtual 188, 3) := by decide +kernel
theorem dX10_on_41 : decode cX10_on 41 = .ok (.aload_n 0, 1) := by decide +kernel
theorem dX10_on_42 : decode cX10_on 42 = .ok (.getfield 28, 3) := by decide +kernel
theorem dX10_on_45 : decode cX10_on 45 = .ok (.getfield 168, 3) := by decide +kernel
theorem dX10_on_48 : decode cX10_on 48 = .ok (.ireturn, 1) := by decide +kernel
theorem dX10_meets_0 : decode cX10_meets 0 = .ok (.iconst 0, 1) := by decide +kernel
theorem dX10_meets_1 : decode cX10_meets 1 = .ok (.istore_n 1, 1) := by decide +kernel
theorem dX10_meets_2 : decode cX10_meets 2 = .ok (.iconst 0, 1) := by decide +kernel
theorem dX10_meets_3 : decode cX10_meets 3 = .ok (.istore_n 2, 1) := by decide +kernel
theorem dX10_meets_4 : decode cX10_meets 4 = .ok (.iconst 0, 1) := by decide +kernel
theorem dX10_meets_5 : decode cX10_meets 5 = .ok (.istore_n 3, 1) := by decide +kernel
theorem dX10_meets_6 : decode cX10_meets 6 = .ok (.iload_n 3, 1) := by decide +kernel
theorem dX10_meets_7 : decode cX10_meets 7 = .ok (.aload_n 0, 1) := by decide +kernel
theorem dX10_meets_8 : decode cX10_meets 8 = .ok (.getfield 28, 3) := by decide +kernel
theorem dX10_meets_11 : decode cX10_meets 11 = .ok (.getfield 118, 3) := by decide +kernel
theorem dX10_meets_14 : decode cX10_meets 14 = .ok (.if_icmp .ge 39, 3) := by decide +kernel
theorem dX10_meets_17 : decode cX10_meets 17 = .ok (.aload_n 0, 1) := by decide +kernel
theorem dX10_meets_18 : decode cX10_meets 18 = .ok (.getfield 28, 3) := by decide +kernel
theorem dX10_meets_21 : decode cX10_meets 21 = .ok (.iload_n 3, 1) := by decide +kernel
theorem dX10_meets_22 : decode cX10_meets 22 = .ok (.invokevirtual 192, 3) := by decide +kernel
theorem dX10_meets_25 : decode cX10_meets 25 = .ok (.istore 4, 2) := by decide +kernel
theorem dX10_meets_27 : decode cX10_meets 27 = .ok (.iload 4, 2) := by decide +kernel
theorem dX10_meets_29 : decode cX10_meets 29 = .ok (.ifCond .eq 9, 3) := by decide +kernel
theorem dX10_meets_32 : decode cX10_meets 32 = .ok (.iload_n 1, 1) := by decide +kernel
theorem dX10_meets_33 : decode cX10_meets 33 = .ok (.iconst 1, 1) := by decide +kernel
theorem dX10_meets_34 : decode cX10_meets 34 = .ok (.iload_n 3, 1) := by decide +kernel
theorem dX10_meets_35 : decode cX10_meets 35 = .ok (.ishl, 1) := by decide +kernel
theorem dX10_meets_36 : decode cX10_meets 36 = .ok (.ior, 1) := by decide +kernel
theorem dX10_meets_37 : decode cX10_meets 37 = .ok (.istore_n 1, 1) := by decide +kernel
theorem dX10_meets_38 : decode cX10_meets 38 = .ok (.iload 4, 2) := by decide +kernel
theorem dX10_meets_40 : decode cX10_meets 40 = .ok (.iconst 1, 1) := by decide +kernel
theorem dX10_meets_41 : decode cX10_meets 41 = .ok (.if_icmp .ne 6, 3) := by decide +kernel
theorem dX10_meets_44 : decode cX10_meets 44 = .ok (.iinc 2 1, 3) := by decide +kernel
theorem dX10_meets_47 : decode cX10_meets 47 = .ok (.iinc 3 1, 3) := by decide +kernel
theorem dX10_meets_50 : decode cX10_meets 50 = .ok (.goto (-44), 3) := by decide +kernel
theorem dX10_meets_53 : decode cX10_meets 53 = .ok (.aload_n 0, 1) := by decide +kernel
theorem dX10_meets_54 : decode cX10_meets 54 = .ok (.iload_n 2, 1) := by decide +kernel
theorem dX10_meets_55 : decode cX10_meets 55 = .ok (.putfield 51, 3) := by decide +kernel
theorem dX10_meets_58 : decode cX10_meets 58 = .ok (.iload_n 1, 1) := by decide +kernel
theorem dX10_meets_59 : decode cX10_meets 59 = .ok (.ireturn, 1) := by decide +kernel
theorem dX10_later_0 : decode cX10_later 0 = .ok (.aload_n 0, 1) := by decide +kernel
theorem dX10_later_1 : decode cX10_later 1 = .ok (.iload_n 1, 1) := by decide +kernel
theorem dX10_later_2 : decode cX10_later 2 = .ok (.invokevirtual 121, 3) := by decide +kernel
theorem dX10_later_5 : decode cX10_later 5 = .ok (.ifCond .eq 13, 3) := by decide +kernel
theorem dX10_later_8 : decode cX10_later 8 = .ok (.iload_n 2, 1) := by decide +kernel
theorem dX10_later_9 : decode cX10_later 9 = .ok (.ifCond .lt 9, 3) := by decide +kernel
theorem dX10_later_12 : decode cX10_later 12 = .ok (.iload_n 2, 1) := by decide +kernel
theorem dX10_later_13 : decode cX10_later 13 = .ok (.bipush 60, 2) := by decide +kernel
theorem dX10_later_15 : decode cX10_later 15 = .ok (.if_icmp .le 5, 3) := by decide +kernel
theorem dX10_later_18 : decode cX10_later 18 = .ok (.iconst (-1), 1) := by decide +kernel
theorem dX10_later_19 : decode cX10_later 19 = .ok (.ireturn, 1) := by decide +kernel
theorem dX10_later_20 : decode cX10_later 20 = .ok (.aload_n 0, 1) := by decide +kernel
theorem dX10_later_21 : decode cX10_later 21 = .ok (.getfield 39, 3) := by decide +kernel
theorem dX10_later_24 : decode cX10_later 24 = .ok (.aload_n 0, 1) := by decide +kernel
theorem dX10_later_25 : decode cX10_later 25 = .ok (.getfield 28, 3) := by decide +kernel
theorem dX10_later_28 : decode cX10_later 28 = .ok (.invokevirtual 195, 3) := by decide +kernel
theorem dX10_later_31 : decode cX10_later 31 = .ok (.aload_n 0, 1) := by decide +kernel
theorem dX10_later_32 : decode cX10_later 32 = .ok (.aload_n 0, 1) := by decide +kernel
theorem dX10_later_33 : decode cX10_later 33 = .ok (.getfield 39, 3) := by decide +kernel
theorem dX10_later_36 : decode cX10_later 36 = .ok (.iload_n 2, 1) := by decide +kernel
theorem dX10_later_37 : decode cX10_later 37 = .ok (.invokevirtual 198, 3) := by decide +kernel
theorem dX10_later_40 : decode cX10_later 40 = .ok (.putfield 51, 3) := by decide +kernel
theorem dX10_later_43 : decode cX10_later 43 = .ok (.aload_n 0, 1) := by decide +kernel
theorem dX10_later_44 : decode cX10_later 44 = .ok (.getfield 39, 3) := by decide +kernel
theorem dX10_later_47 : decode cX10_later 47 = .ok (.getfield 201, 3) := by decide +kernel
theorem dX10_later_50 : decode cX10_later 50 = .ok (.iload_n 1, 1) := by decide +kernel
theorem dX10_later_51 : decode cX10_later 51 = .ok (.iaload, 1) := by decide +kernel
theorem dX10_later_52 : decode cX10_later 52 = .ok (.ireturn, 1) := by decide +kernel
theorem dX10_peace_0 : decode cX10_peace 0 = .ok (.aload_n 0, 1) := by decide +kernel
theorem dX10_peace_1 : decode cX10_peace 1 = .ok (.getfield 28, 3) := by decide +kernel
theorem dX10_peace_4 : decode cX10_peace 4 = .ok (.invokevirtual 131, 3) := by decide +kernel
theorem dX10_peace_7 : decode cX10_peace 7 = .ok (.ifCond .ne 6, 3) := by decide +kernel
theorem dX10_peace_10 : decode cX10_peace 10 = .ok (.bipush (-4), 2) := by decide +kernel
theorem dX10_peace_12 : decode cX10_peace 12 = .ok (.ireturn, 1) := by decide +kernel
theorem dX10_peace_13 : decode cX10_peace 13 = .ok (.aload_n 0, 1) := by decide +kernel
theorem dX10_peace_14 : decode cX10_peace 14 = .ok (.getfield 39, 3) := by decide +kernel
theorem dX10_peace_17 : decode cX10_peace 17 = .ok (.aload_n 0, 1) := by decide +kernel
theorem dX10_peace_18 : decode cX10_peace 18 = .ok (.getfield 28, 3) := by decide +kernel
theorem dX10_peace_21 : decode cX10_peace 21 = .ok (.invokevirtual 195, 3) := by decide +kernel
theorem dX10_peace_24 : decode cX10_peace 24 = .ok (.aload_n 0, 1) := by decide +kernel
theorem dX10_peace_25 : decode cX10_peace 25 = .ok (.aload_n 0, 1) := by decide +kernel
theorem dX10_peace_26 : decode cX10_peace 26 = .ok (.getfield 39, 3) := by decide +kernel
theorem dX10_peace_29 : decode cX10_peace 29 = .ok (.invokevirtual 202, 3) := by decide +kernel
theorem dX10_peace_32 : decode cX10_peace 32 = .ok (.invokevirtual 205, 3) := by decide +kernel
theorem dX10_peace_35 : decode cX10_peace 35 = .ok (.ireturn, 1) := by decide +kernel
theorem dX10_left_0 : decode cX10_left 0 = .ok (.iload_n 1, 1) := by decide +kernel
theorem dX10_left_1 : decode cX10_left 1 = .ok (.ifCond .lt 9, 3) := by decide +kernel
theorem dX10_left_4 : decode cX10_left 4 = .ok (.iload_n 1, 1) := by decide +kernel
theorem dX10_left_5 : decode cX10_left 5 = .ok (.bipush 60, 2) := by decide +kernel
theorem dX10_left_7 : decode cX10_left 7 = .ok (.if_icmp .le 5, 3) := by decide +kernel
theorem dX10_left_10 : decode cX10_left 10 = .ok (.iconst (-1), 1) := by decide +kernel
theorem dX10_left_11 : decode cX10_left 11 = .ok (.ireturn, 1) := by decide +kernel
theorem dX10_left_12 : decode cX10_left 12 = .ok (.aload_n 0, 1) := by decide +kernel
theorem dX10_left_13 : decode cX10_left 13 = .ok (.getfield 28, 3) := by decide +kernel
theorem dX10_left_16 : decode cX10_left 16 = .ok (.invokevirtual 131, 3) := by decide +kernel
theorem dX10_left_19 : decode cX10_left 19 = .ok (.ifCond .ne 6, 3) := by decide +kernel
theorem dX10_left_22 : decode cX10_left 22 = .ok (.bipush (-4), 2) := by decide +kernel
theorem dX10_left_24 : decode cX10_left 24 = .ok (.ireturn, 1) := by decide +kernel
theorem dX10_left_25 : decode cX10_left 25 = .ok (.aload_n 0, 1) := by decide +kernel
theorem dX10_left_26 : decode cX10_left 26 = .ok (.getfield 39, 3) := by decide +kernel
theorem dX10_left_29 : decode cX10_left 29 = .ok (.aload_n 0, 1) := by decide +kernel
theorem dX10_left_30 : decode cX10_left 30 = .ok (.getfield 28, 3) := by decide +kernel
theorem dX10_left_33 : decode cX10_left 33 = .ok (.invokevirtual 195, 3) := by decide +kernel
theorem dX10_left_36 : decode cX10_left 36 = .ok (.aload_n 0, 1) := by decide +kernel
theorem dX10_left_37 : decode cX10_left 37 = .ok (.getfield 39, 3) := by decide +kernel
theorem dX10_left_40 : decode cX10_left 40 = .ok (.iload_n 1, 1) := by decide +kernel
theorem dX10_left_41 : decode cX10_left 41 = .ok (.invokevirtual 198, 3) := by decide +kernel
theorem dX10_left_44 : decode cX10_left 44 = .ok (.istore_n 2, 1) := by decide +kernel
theorem dX10_left_45 : decode cX10_left 45 = .ok (.aload_n 0, 1) := by decide +kernel
theorem dX10_left_46 : decode cX10_left 46 = .ok (.aload_n 0, 1) := by decide +kernel
theorem dX10_left_47 : decode cX10_left 47 = .ok (.getfield 39, 3) := by decide +kernel
theorem dX10_left_50 : decode cX10_left 50 = .ok (.invokevirtual 208, 3) := by decide +kernel
theorem dX10_left_53 : decode cX10_left 53 = .ok (.putfield 51, 3) := by decide +kernel
theorem dX10_left_56 : decode cX10_left 56 = .ok (.iload_n 2, 1) := by decide +kernel
theorem dX10_left_57 : decode cX10_left 57 = .ok (.ireturn, 1) := by decide +kernel
theorem dX10_ash_0 : decode cX10_ash 0 = .ok (.iload_n 1, 1) := by decide +kernel
theorem dX10_ash_1 : decode cX10_ash 1 = .ok (.iconst 1, 1) := by decide +kernel
theorem dX10_ash_2 : decode cX10_ash 2 = .ok (.if_icmp .lt 9, 3) := by decide +kernel
theorem dX10_ash_5 : decode cX10_ash 5 = .ok (.iload_n 1, 1) := by decide +kernel
theorem dX10_ash_6 : decode cX10_ash 6 = .ok (.bipush 40, 2) := by decide +kernel
theorem dX10_ash_8 : decode cX10_ash 8 = .ok (.if_icmp .le 5, 3) := by decide +kernel
theorem dX10_ash_11 : decode cX10_ash 11 = .ok (.iconst (-1), 1) := by decide +kernel
theorem dX10_ash_12 : decode cX10_ash 12 = .ok (.ireturn, 1) := by decide +kernel
theorem dX10_ash_13 : decode cX10_ash 13 = .ok (.aload_n 0, 1) := by decide +kernel
theorem dX10_ash_14 : decode cX10_ash 14 = .ok (.getfield 28, 3) := by decide +kernel
theorem dX10_ash_17 : decode cX10_ash 17 = .ok (.invokevirtual 131, 3) := by decide +kernel
theorem dX10_ash_20 : decode cX10_ash 20 = .ok (.ifCond .ne 6, 3) := by decide +kernel
theorem dX10_ash_23 : decode cX10_ash 23 = .ok (.bipush (-4), 2) := by decide +kernel
theorem dX10_ash_25 : decode cX10_ash 25 = .ok (.ireturn, 1) := by decide +kernel
theorem dX10_ash_26 : decode cX10_ash 26 = .ok (.aload_n 0, 1) := by decide +kernel
theorem dX10_ash_27 : decode cX10_ash 27 = .ok (.getfield 39, 3) := by decide +kernel
theorem dX10_ash_30 : decode cX10_ash 30 = .ok (.aload_n 0, 1) := by decide +kernel
theorem dX10_ash_31 : decode cX10_ash 31 = .ok (.getfield 28, 3) := by decide +kernel
theorem dX10_ash_34 : decode cX10_ash 34 = .ok (.invokevirtual 195, 3) := by decide +kernel
theorem dX10_ash_37 : decode cX10_ash 37 = .ok (.aload_n 0, 1) := by decide +kernel
theorem dX10_ash_38 : decode cX10_ash 38 = .ok (.aload_n 0, 1) := by decide +kernel
theorem dX10_ash_39 : decode cX10_ash 39 = .ok (.getfield 39, 3) := by decide +kernel
theorem dX10_ash_42 : decode cX10_ash 42 = .ok (.iload_n 1, 1) := by decide +kernel
theorem dX10_ash_43 : decode cX10_ash 43 = .ok (.invokevirtual 211, 3) := by decide +kernel
theorem dX10_ash_46 : decode cX10_ash 46 = .ok (.invokevirtual 205, 3) := by decide +kernel
theorem dX10_ash_49 : decode cX10_ash 49 = .ok (.ireturn, 1) := by decide +kernel
theorem dX10_best_0 : decode cX10_best 0 = .ok (.iload_n 1, 1) := by decide +kernel
theorem dX10_best_1 : decode cX10_best 1 = .ok (.iconst 1, 1) := by decide +kernel
theorem dX10_best_2 : decode cX10_best 2 = .ok (.if_icmp .lt 9, 3) := by decide +kernel
theorem dX10_best_5 : decode cX10_best 5 = .ok (.iload_n 1, 1) := by decide +kernel
theorem dX10_best_6 : decode cX10_best 6 = .ok (.bipush 40, 2) := by decide +kernel
theorem dX10_best_8 : decode cX10_best 8 = .ok (.if_icmp .le 5, 3) := by decide +kernel
theorem dX10_best_11 : decode cX10_best 11 = .ok (.iconst (-1), 1) := by decide +kernel
theorem dX10_best_12 : decode cX10_best 12 = .ok (.ireturn, 1) := by decide +kernel
theorem dX10_best_13 : decode cX10_best 13 = .ok (.aload_n 0, 1) := by decide +kernel
theorem dX10_best_14 : decode cX10_best 14 = .ok (.getfield 28, 3) := by decide +kernel
theorem dX10_best_17 : decode cX10_best 17 = .ok (.invokevirtual 131, 3) := by decide +kernel
theorem dX10_best_20 : decode cX10_best 20 = .ok (.ifCond .ne 6, 3) := by decide +kernel
theorem dX10_best_23 : decode cX10_best 23 = .ok (.bipush (-4), 2) := by decide +kernel
theorem dX10_best_25 : decode cX10_best 25 = .ok (.ireturn, 1) := by decide +kernel
theorem dX10_best_26 : decode cX10_best 26 = .ok (.aload_n 0, 1) := by decide +kernel
theorem dX10_best_27 : decode cX10_best 27 = .ok (.getfield 39, 3) := by decide +kernel
theorem dX10_best_30 : decode cX10_best 30 = .ok (.aload_n 0, 1) := by decide +kernel
theorem dX10_best_31 : decode cX10_best 31 = .ok (.getfield 28, 3) := by decide +kernel
theorem dX10_best_34 : decode cX10_best 34 = .ok (.invokevirtual 195, 3) := by decide +kernel
theorem dX10_best_37 : decode cX10_best 37 = .ok (.aload_n 0, 1) := by decide +kernel
theorem dX10_best_38 : decode cX10_best 38 = .ok (.aload_n 0, 1) := by decide +kernel
theorem dX10_best_39 : decode cX10_best 39 = .ok (.getfield 39, 3) := by decide +kernel
theorem dX10_best_42 : decode cX10_best 42 = .ok (.iload_n 1, 1) := by decide +kernel
theorem dX10_best_43 : decode cX10_best 43 = .ok (.invokevirtual 214, 3) := by decide +kernel
theorem dX10_best_46 : decode cX10_best 46 = .ok (.invokevirtual 205, 3) := by decide +kernel
theorem dX10_best_49 : decode cX10_best 49 = .ok (.ireturn, 1) := by decide +kernel
theorem dX10_kinds_0 : decode cX10_kinds 0 = .ok (.aload_n 0, 1) := by decide +kernel
theorem dX10_kinds_1 : decode cX10_kinds 1 = .ok (.iload_n 1, 1) := by decide +kernel
theorem dX10_kinds_2 : decode cX10_kinds 2 = .ok (.iload_n 2, 1) := by decide +kernel
theorem dX10_kinds_3 : decode cX10_kinds 3 = .ok (.invokevirtual 217, 3) := by decide +kernel
theorem dX10_kinds_6 : decode cX10_kinds 6 = .ok (.istore_n 3, 1) := by decide +kernel
theorem dX10_kinds_7 : decode cX10_kinds 7 = .ok (.iload_n 3, 1) := by decide +kernel
theorem dX10_kinds_8 : decode cX10_kinds 8 = .ok (.ifCond .eq 5, 3) := by decide +kernel
theorem dX10_kinds_11 : decode cX10_kinds 11 = .ok (.iload_n 3, 1) := by decide +kernel
theorem dX10_kinds_12 : decode cX10_kinds 12 = .ok (.ireturn, 1) := by decide +kernel
theorem dX10_kinds_13 : decode cX10_kinds 13 = .ok (.aload_n 0, 1) := by decide +kernel
theorem dX10_kinds_14 : decode cX10_kinds 14 = .ok (.getfield 39, 3) := by decide +kernel
theorem dX10_kinds_17 : decode cX10_kinds 17 = .ok (.aload_n 0, 1) := by decide +kernel
theorem dX10_kinds_18 : decode cX10_kinds 18 = .ok (.getfield 28, 3) := by decide +kernel
theorem dX10_kinds_21 : decode cX10_kinds 21 = .ok (.invokevirtual 195, 3) := by decide +kernel
theorem dX10_kinds_24 : decode cX10_kinds 24 = .ok (.aload_n 0, 1) := by decide +kernel
theorem dX10_kinds_25 : decode cX10_kinds 25 = .ok (.getfield 39, 3) := by decide +kernel
theorem dX10_kinds_28 : decode cX10_kinds 28 = .ok (.iload_n 1, 1) := by decide +kernel
theorem dX10_kinds_29 : decode cX10_kinds 29 = .ok (.aload_n 0, 1) := by decide +kernel
theorem dX10_kinds_30 : decode cX10_kinds 30 = .ok (.getfield 11, 3) := by decide +kernel
theorem dX10_kinds_33 : decode cX10_kinds 33 = .ok (.iload_n 2, 1) := by decide +kernel
theorem dX10_kinds_34 : decode cX10_kinds 34 = .ok (.aaload, 1) := by decide +kernel
theorem dX10_kinds_35 : decode cX10_kinds 35 = .ok (.invokevirtual 220, 3) := by decide +kernel
theorem dX10_kinds_38 : decode cX10_kinds 38 = .ok (.ireturn, 1) := by decide +kernel
theorem dX10_highs_0 : decode cX10_highs 0 = .ok (.aload_n 0, 1) := by decide +kernel
theorem dX10_highs_1 : decode cX10_highs 1 = .ok (.iload_n 1, 1) := by decide +kernel
theorem dX10_highs_2 : decode cX10_highs 2 = .ok (.iload_n 2, 1) := by decide +kernel
theorem dX10_highs_3 : decode cX10_highs 3 = .ok (.invokevirtual 217, 3) := by decide +kernel
theorem dX10_highs_6 : decode cX10_highs 6 = .ok (.istore_n 3, 1) := by decide +kernel
theorem dX10_highs_7 : decode cX10_highs 7 = .ok (.iload_n 3, 1) := by decide +kernel
theorem dX10_highs_8 : decode cX10_highs 8 = .ok (.ifCond .eq 5, 3) := by decide +kernel
theorem dX10_highs_11 : decode cX10_highs 11 = .ok (.iload_n 3, 1) := by decide +kernel
theorem dX10_highs_12 : decode cX10_highs 12 = .ok (.ireturn, 1) := by decide +kernel
theorem dX10_highs_13 : decode cX10_highs 13 = .ok (.aload_n 0, 1) := by decide +kernel
theorem dX10_highs_14 : decode cX10_highs 14 = .ok (.getfield 39, 3) := by decide +kernel
theorem dX10_highs_17 : decode cX10_highs 17 = .ok (.aload_n 0, 1) := by decide +kernel
theorem dX10_highs_18 : decode cX10_highs 18 = .ok (.getfield 28, 3) := by decide +kernel
theorem dX10_highs_21 : decode cX10_highs 21 = .ok (.invokevirtual 195, 3) := by decide +kernel
theorem dX10_highs_24 : decode cX10_highs 24 = .ok (.aload_n 0, 1) := by decide +kernel
theorem dX10_highs_25 : decode cX10_highs 25 = .ok (.getfield 39, 3) := by decide +kernel
theorem dX10_highs_28 : decode cX10_highs 28 = .ok (.iload_n 1, 1) := by decide +kernel
theorem dX10_highs_29 : decode cX10_highs 29 = .ok (.aload_n 0, 1) := by decide +kernel
theorem dX10_highs_30 : decode cX10_highs 30 = .ok (.getfield 11, 3) := by decide +kernel
theorem dX10_highs_33 : decode cX10_highs 33 = .ok (.iload_n 2, 1) := by decide +kernel
theorem dX10_highs_34 : decode cX10_highs 34 = .ok (.aaload, 1) := by decide +kernel
theorem dX10_highs_35 : decode cX10_highs 35 = .ok (.invokevirtual 224, 3) := by decide +kernel
theorem dX10_highs_38 : decode cX10_highs 38 = .ok (.ireturn, 1) := by decide +kernel
theorem dX10_test_0 : decode cX10_test 0 = .ok (.aload_n 0, 1) := by decide +kernel
theorem dX10_test_1 : decode cX10_test 1 = .ok (.iload_n 1, 1) := by decide +kernel
theorem dX10_test_2 : decode cX10_test 2 = .ok (.iload_n 2, 1) := by decide +kernel
theorem dX10_test_3 : decode cX10_test 3 = .ok (.invokevirtual 217, 3) := by decide +kernel
theorem dX10_test_6 : decode cX10_test 6 = .ok (.istore_n 3, 1) := by decide +kernel
theorem dX10_test_7 : decode cX10_test 7 = .ok (.iload_n 3, 1) := by decide +kernel
theorem dX10_test_8 : decode cX10_test 8 = .ok (.ifCond .eq 5, 3) := by decide +kernel
theorem dX10_test_11 : decode cX10_test 11 = .ok (.iload_n 3, 1) := by decide +kernel
theorem dX10_test_12 : decode cX10_test 12 = .ok (.ireturn, 1) := by decide +kernel
theorem dX10_test_13 : decode cX10_test 13 = .ok (.aload_n 0, 1) := by decide +kernel
theorem dX10_test_14 : decode cX10_test 14 = .ok (.getfield 39, 3) := by decide +kernel
theorem dX10_test_17 : decode cX10_test 17 = .ok (.aload_n 0, 1) := by decide +kernel
theorem dX10_test_18 : decode cX10_test 18 = .ok (.getfield 28, 3) := by decide +kernel
theorem dX10_test_21 : decode cX10_test 21 = .ok (.invokevirtual 195, 3) := by decide +kernel
theorem dX10_test_24 : decode cX10_test 24 = .ok (.aload_n 0, 1) := by decide +kernel
theorem dX10_test_25 : decode cX10_test 25 = .ok (.aload_n 0, 1) := by decide +kernel
theorem dX10_test_26 : decode cX10_test 26 = .ok (.getfield 39, 3) := by decide +kernel
theorem dX10_test_29 : decode cX10_test 29 = .ok (.iload_n 1, 1) := by decide +kernel
theorem dX10_test_30 : decode cX10_test 30 = .ok (.aload_n 0, 1) := by decide +kernel
theorem dX10_test_31 : decode cX10_test 31 = .ok (.getfield 11, 3) := by decide +kernel
theorem dX10_test_34 : decode cX10_test 34 = .ok (.iload_n 2, 1) := by decide +kernel
theorem dX10_test_35 : decode cX10_test 35 = .ok (.aaload, 1) := by decide +kernel
theorem dX10_test_36 : decode cX10_test 36 = .ok (.invokevirtual 227, 3) := by decide +kernel
theorem dX10_test_39 : decode cX10_test 39 = .ok (.invokevirtual 205, 3) := by decide +kernel
theorem dX10_test_42 : decode cX10_test 42 = .ok (.ireturn, 1) := by decide +kernel
theorem dX10_duel_0 : decode cX10_duel 0 = .ok (.iload_n 1, 1) := by decide +kernel
theorem dX10_duel_1 : decode cX10_duel 1 = .ok (.ifCond .lt 8, 3) := by decide +kernel
theorem dX10_duel_4 : decode cX10_duel 4 = .ok (.iload_n 1, 1) := by decide +kernel
theorem dX10_duel_5 : decode cX10_duel 5 = .ok (.iconst 3, 1) := by decide +kernel
theorem dX10_duel_6 : decode cX10_duel 6 = .ok (.if_icmp .le 5, 3) := by decide +kernel
theorem dX10_duel_9 : decode cX10_duel 9 = .ok (.iconst (-1), 1) := by decide +kernel
theorem dX10_duel_10 : decode cX10_duel 10 = .ok (.ireturn, 1) := by decide +kernel
theorem dX10_duel_11 : decode cX10_duel 11 = .ok (.aload_n 0, 1) := by decide +kernel
theorem dX10_duel_12 : decode cX10_duel 12 = .ok (.getfield 28, 3) := by decide +kernel
theorem dX10_duel_15 : decode cX10_duel 15 = .ok (.invokevirtual 131, 3) := by decide +kernel
theorem dX10_duel_18 : decode cX10_duel 18 = .ok (.ifCond .ne 6, 3) := by decide +kernel
theorem dX10_duel_21 : decode cX10_duel 21 = .ok (.bipush (-4), 2) := by decide +kernel
theorem dX10_duel_23 : decode cX10_duel 23 = .ok (.ireturn, 1) := by decide +kernel
theorem dX10_duel_24 : decode cX10_duel 24 = .ok (.aload_n 0, 1) := by decide +kernel
theorem dX10_duel_25 : decode cX10_duel 25 = .ok (.getfield 39, 3) := by decide +kernel
theorem dX10_duel_28 : decode cX10_duel 28 = .ok (.aload_n 0, 1) := by decide +kernel
theorem dX10_duel_29 : decode cX10_duel 29 = .ok (.getfield 28, 3) := by decide +kernel
theorem dX10_duel_32 : decode cX10_duel 32 = .ok (.invokevirtual 195, 3) := by decide +kernel
theorem dX10_duel_35 : decode cX10_duel 35 = .ok (.aload_n 0, 1) := by decide +kernel
theorem dX10_duel_36 : decode cX10_duel 36 = .ok (.getfield 39, 3) := by decide +kernel
theorem dX10_duel_39 : decode cX10_duel 39 = .ok (.iload_n 1, 1) := by decide +kernel
theorem dX10_duel_40 : decode cX10_duel 40 = .ok (.invokevirtual 230, 3) := by decide +kernel
theorem dX10_duel_43 : decode cX10_duel 43 = .ok (.ireturn, 1) := by decide +kernel
theorem dX10_odds_0 : decode cX10_odds 0 = .ok (.iload_n 1, 1) := by decide +kernel
theorem dX10_odds_1 : decode cX10_odds 1 = .ok (.ifCond .lt 18, 3) := by decide +kernel
theorem dX10_odds_4 : decode cX10_odds 4 = .ok (.iload_n 1, 1) := by decide +kernel
theorem dX10_odds_5 : decode cX10_odds 5 = .ok (.bipush 63, 2) := by decide +kernel
theorem dX10_odds_7 : decode cX10_odds 7 = .ok (.if_icmp .gt 12, 3) := by decide +kernel
theorem dX10_odds_10 : decode cX10_odds 10 = .ok (.aload_n 0, 1) := by decide +kernel
theorem dX10_odds_11 : decode cX10_odds 11 = .ok (.iload_n 2, 1) := by decide +kernel
theorem dX10_odds_12 : decode cX10_odds 12 = .ok (.iload_n 3, 1) := by decide +kernel
theorem dX10_odds_13 : decode cX10_odds 13 = .ok (.invokevirtual 233, 3) := by decide +kernel
theorem dX10_odds_16 : decode cX10_odds 16 = .ok (.ifCond .ne 5, 3) := by decide +kernel
theorem dX10_odds_19 : decode cX10_odds 19 = .ok (.iconst (-1), 1) := by decide +kernel
theorem dX10_odds_20 : decode cX10_odds 20 = .ok (.ireturn, 1) := by decide +kernel
theorem dX10_odds_21 : decode cX10_odds 21 = .ok (.aload_n 0, 1) := by decide +kernel
theorem dX10_odds_22 : decode cX10_odds 22 = .ok (.getfield 28, 3) := by decide +kernel
theorem dX10_odds_25 : decode cX10_odds 25 = .ok (.invokevirtual 131, 3) := by decide +kernel
theorem dX10_odds_28 : decode cX10_odds 28 = .ok (.ifCond .ne 6, 3) := by decide +kernel
theorem dX10_odds_31 : decode cX10_odds 31 = .ok (.bipush (-4), 2) := by decide +kernel
theorem dX10_odds_33 : decode cX10_odds 33 = .ok (.ireturn, 1) := by decide +kernel
theorem dX10_odds_34 : decode cX10_odds 34 = .ok (.aload_n 0, 1) := by decide +kernel
theorem dX10_odds_35 : decode cX10_odds 35 = .ok (.getfield 39, 3) := by decide +kernel
theorem dX10_odds_38 : decode cX10_odds 38 = .ok (.aload_n 0, 1) := by decide +kernel
theorem dX10_odds_39 : decode cX10_odds 39 = .ok (.getfield 28, 3) := by decide +kernel
theorem dX10_odds_42 : decode cX10_odds 42 = .ok (.invokevirtual 195, 3) := by decide +kernel
theorem dX10_odds_45 : decode cX10_odds 45 = .ok (.aload_n 0, 1) := by decide +kernel
theorem dX10_odds_46 : decode cX10_odds 46 = .ok (.getfield 39, 3) := by decide +kernel
theorem dX10_odds_49 : decode cX10_odds 49 = .ok (.iload_n 1, 1) := by decide +kernel
theorem dX10_odds_50 : decode cX10_odds 50 = .ok (.iload_n 2, 1) := by decide +kernel
theorem dX10_odds_51 : decode cX10_odds 51 = .ok (.iload_n 3, 1) := by decide +kernel
theorem dX10_odds_52 : decode cX10_odds 52 = .ok (.invokevirtual 236, 3) := by decide +kernel
theorem dX10_odds_55 : decode cX10_odds 55 = .ok (.aload_n 0, 1) := by decide +kernel
theorem dX10_odds_56 : decode cX10_odds 56 = .ok (.aload_n 0, 1) := by decide +kernel
theorem dX10_odds_57 : decode cX10_odds 57 = .ok (.getfield 39, 3) := by decide +kernel
theorem dX10_odds_60 : decode cX10_odds 60 = .ok (.getfield 239, 3) := by decide +kernel
theorem dX10_odds_63 : decode cX10_odds 63 = .ok (.aload_n 0, 1) := by decide +kernel
theorem dX10_odds_64 : decode cX10_odds 64 = .ok (.getfield 39, 3) := by decide +kernel
theorem dX10_odds_67 : decode cX10_odds 67 = .ok (.getfield 242, 3) := by decide +kernel
theorem dX10_odds_70 : decode cX10_odds 70 = .ok (.invokevirtual 245, 3) := by decide +kernel
theorem dX10_odds_73 : decode cX10_odds 73 = .ok (.iconst 1, 1) := by decide +kernel
theorem dX10_odds_74 : decode cX10_odds 74 = .ok (.ireturn, 1) := by decide +kernel
theorem dX10_mid_0 : decode cX10_mid 0 = .ok (.aload_n 0, 1) := by decide +kernel
theorem dX10_mid_1 : decode cX10_mid 1 = .ok (.iload_n 1, 1) := by decide +kernel
theorem dX10_mid_2 : decode cX10_mid 2 = .ok (.iload_n 2, 1) := by decide +kernel
theorem dX10_mid_3 : decode cX10_mid 3 = .ok (.invokevirtual 233, 3) := by decide +kernel
theorem dX10_mid_6 : decode cX10_mid 6 = .ok (.ifCond .ne 5, 3) := by decide +kernel
theorem dX10_mid_9 : decode cX10_mid 9 = .ok (.iconst (-1), 1) := by decide +kernel
theorem dX10_mid_10 : decode cX10_mid 10 = .ok (.ireturn, 1) := by decide +kernel
theorem dX10_mid_11 : decode cX10_mid 11 = .ok (.aload_n 0, 1) := by decide +kernel
theorem dX10_mid_12 : decode cX10_mid 12 = .ok (.getfield 28, 3) := by decide +kernel
theorem dX10_mid_15 : decode cX10_mid 15 = .ok (.invokevirtual 131, 3) := by decide +kernel
theorem dX10_mid_18 : decode cX10_mid 18 = .ok (.ifCond .ne 6, 3) := by decide +kernel
theorem dX10_mid_21 : decode cX10_mid 21 = .ok (.bipush (-4), 2) := by decide +kernel
theorem dX10_mid_23 : decode cX10_mid 23 = .ok (.ireturn, 1) := by decide +kernel
theorem dX10_mid_24 : decode cX10_mid 24 = .ok (.aload_n 0, 1) := by decide +kernel
theorem dX10_mid_25 : decode cX10_mid 25 = .ok (.getfield 39, 3) := by decide +kernel
theorem dX10_mid_28 : decode cX10_mid 28 = .ok (.aload_n 0, 1) := by decide +kernel
theorem dX10_mid_29 : decode cX10_mid 29 = .ok (.getfield 28, 3) := by decide +kernel
theorem dX10_mid_32 : decode cX10_mid 32 = .ok (.invokevirtual 195, 3) := by decide +kernel
theorem dX10_mid_35 : decode cX10_mid 35 = .ok (.aload_n 0, 1) := by decide +kernel
theorem dX10_mid_36 : decode cX10_mid 36 = .ok (.getfield 39, 3) := by decide +kernel
theorem dX10_mid_39 : decode cX10_mid 39 = .ok (.iconst 0, 1) := by decide +kernel
theorem dX10_mid_40 : decode cX10_mid 40 = .ok (.iload_n 1, 1) := by decide +kernel
theorem dX10_mid_41 : decode cX10_mid 41 = .ok (.iload_n 2, 1) := by decide +kernel
theorem dX10_mid_42 : decode cX10_mid 42 = .ok (.invokevirtual 236, 3) := by decide +kernel
theorem dX10_mid_45 : decode cX10_mid 45 = .ok (.aload_n 0, 1) := by decide +kernel
theorem dX10_mid_46 : decode cX10_mid 46 = .ok (.aload_n 0, 1) := by decide +kernel
theorem dX10_mid_47 : decode cX10_mid 47 = .ok (.getfield 39, 3) := by decide +kernel
theorem dX10_mid_50 : decode cX10_mid 50 = .ok (.getfield 249, 3) := by decide +kernel
theorem dX10_mid_53 : decode cX10_mid 53 = .ok (.aload_n 0, 1) := by decide +kernel
theorem dX10_mid_54 : decode cX10_mid 54 = .ok (.getfield 39, 3) := by decide +kernel
theorem dX10_mid_57 : decode cX10_mid 57 = .ok (.getfield 242, 3) := by decide +kernel
theorem dX10_mid_60 : decode cX10_mid 60 = .ok (.invokevirtual 245, 3) := by decide +kernel
theorem dX10_mid_63 : decode cX10_mid 63 = .ok (.iconst 1, 1) := by decide +kernel
theorem dX10_mid_64 : decode cX10_mid 64 = .ok (.ireturn, 1) := by decide +kernel
theorem dX10_lots_0 : decode cX10_lots 0 = .ok (.iload_n 1, 1) := by decide +kernel
theorem dX10_lots_1 : decode cX10_lots 1 = .ok (.iconst 1, 1) := by decide +kernel
theorem dX10_lots_2 : decode cX10_lots 2 = .ok (.if_icmp .lt 23, 3) := by decide +kernel
theorem dX10_lots_5 : decode cX10_lots 5 = .ok (.iload_n 1, 1) := by decide +kernel
theorem dX10_lots_6 : decode cX10_lots 6 = .ok (.bipush 20, 2) := by decide +kernel
theorem dX10_lots_8 : decode cX10_lots 8 = .ok (.if_icmp .gt 17, 3) := by decide +kernel
theorem dX10_lots_11 : decode cX10_lots 11 = .ok (.iload_n 2, 1) := by decide +kernel
theorem dX10_lots_12 : decode cX10_lots 12 = .ok (.iconst 1, 1) := by decide +kernel
theorem dX10_lots_13 : decode cX10_lots 13 = .ok (.if_icmp .lt 12, 3) := by decide +kernel
theorem dX10_lots_16 : decode cX10_lots 16 = .ok (.iload_n 2, 1) := by decide +kernel
theorem dX10_lots_17 : decode cX10_lots 17 = .ok (.i2l, 1) := by decide +kernel
theorem dX10_lots_18 : decode cX10_lots 18 = .ok (.ldc2_w 252, 3) := by decide +kernel
theorem dX10_lots_21 : decode cX10_lots 21 = .ok (.lcmp, 1) := by decide +kernel
theorem dX10_lots_22 : decode cX10_lots 22 = .ok (.ifCond .lt 5, 3) := by decide +kernel
theorem dX10_lots_25 : decode cX10_lots 25 = .ok (.iconst (-1), 1) := by decide +kernel
theorem dX10_lots_26 : decode cX10_lots 26 = .ok (.ireturn, 1) := by decide +kernel
theorem dX10_lots_27 : decode cX10_lots 27 = .ok (.aload_n 0, 1) := by decide +kernel
theorem dX10_lots_28 : decode cX10_lots 28 = .ok (.getfield 28, 3) := by decide +kernel
theorem dX10_lots_31 : decode cX10_lots 31 = .ok (.invokevirtual 131, 3) := by decide +kernel
theorem dX10_lots_34 : decode cX10_lots 34 = .ok (.ifCond .ne 6, 3) := by decide +kernel
theorem dX10_lots_37 : decode cX10_lots 37 = .ok (.bipush (-4), 2) := by decide +kernel
theorem dX10_lots_39 : decode cX10_lots 39 = .ok (.ireturn, 1) := by decide +kernel
theorem dX10_lots_40 : decode cX10_lots 40 = .ok (.aload_n 0, 1) := by decide +kernel
theorem dX10_lots_41 : decode cX10_lots 41 = .ok (.getfield 28, 3) := by decide +kernel
theorem dX10_lots_44 : decode cX10_lots 44 = .ok (.getfield 168, 3) := by decide +kernel
theorem dX10_lots_47 : decode cX10_lots 47 = .ok (.iload_n 1, 1) := by decide +kernel
theorem dX10_lots_48 : decode cX10_lots 48 = .ok (.iadd, 1) := by decide +kernel
theorem dX10_lots_49 : decode cX10_lots 49 = .ok (.bipush 40, 2) := by decide +kernel
theorem dX10_lots_51 : decode cX10_lots 51 = .ok (.if_icmp .le 6, 3) := by decide +kernel
theorem dX10_lots_54 : decode cX10_lots 54 = .ok (.bipush (-2), 2) := by decide +kernel
theorem dX10_lots_56 : decode cX10_lots 56 = .ok (.ireturn, 1) := by decide +kernel
theorem dX10_lots_57 : decode cX10_lots 57 = .ok (.iload_n 2, 1) := by decide +kernel
theorem dX10_lots_58 : decode cX10_lots 58 = .ok (.i2l, 1) := by decide +kernel
theorem dX10_lots_59 : decode cX10_lots 59 = .ok (.lstore_n 3, 1) := by decide +kernel
theorem dX10_lots_60 : decode cX10_lots 60 = .ok (.iconst 0, 1) := by decide +kernel
theorem dX10_lots_61 : decode cX10_lots 61 = .ok (.istore 5, 2) := by decide +kernel
theorem dX10_lots_63 : decode cX10_lots 63 = .ok (.iload 5, 2) := by decide +kernel
theorem dX10_lots_65 : decode cX10_lots 65 = .ok (.iload_n 1, 1) := by decide +kernel
theorem dX10_lots_66 : decode cX10_lots 66 = .ok (.if_icmp .ge 24, 3) := by decide +kernel
theorem dX10_lots_69 : decode cX10_lots 69 = .ok (.lload_n 3, 1) := by decide +kernel
theorem dX10_lots_70 : decode cX10_lots 70 = .ok (.ldc2_w 254, 3) := by decide +kernel
theorem dX10_lots_73 : decode cX10_lots 73 = .ok (.lmul, 1) := by decide +kernel
theorem dX10_lots_74 : decode cX10_lots 74 = .ok (.ldc2_w 252, 3) := by decide +kernel
theorem dX10_lots_77 : decode cX10_lots 77 = .ok (.lrem, 1) := by decide +kernel
theorem dX10_lots_78 : decode cX10_lots 78 = .ok (.lstore_n 3, 1) := by decide +kernel
theorem dX10_lots_79 : decode cX10_lots 79 = .ok (.aload_n 0, 1) := by decide +kernel
theorem dX10_lots_80 : decode cX10_lots 80 = .ok (.lload_n 3, 1) := by decide +kernel
theorem dX10_lots_81 : decode cX10_lots 81 = .ok (.invokevirtual 256, 3) := by decide +kernel
theorem dX10_lots_84 : decode cX10_lots 84 = .ok (.iinc 5 1, 3) := by decide +kernel
theorem dX10_lots_87 : decode cX10_lots 87 = .ok (.goto (-24), 3) := by decide +kernel
theorem dX10_lots_90 : decode cX10_lots 90 = .ok (.aload_n 0, 1) := by decide +kernel
theorem dX10_lots_91 : decode cX10_lots 91 = .ok (.getfield 28, 3) := by decide +kernel
theorem dX10_lots_94 : decode cX10_lots 94 = .ok (.invokevirtual 175, 3) := by decide +kernel
theorem dX10_lots_97 : decode cX10_lots 97 = .ok (.ireturn, 1) := by decide +kernel
theorem dX10_asked_0 : decode cX10_asked 0 = .ok (.aload_n 0, 1) := by decide +kernel
theorem dX10_asked_1 : decode cX10_asked 1 = .ok (.getfield 51, 3) := by decide +kernel
theorem dX10_asked_4 : decode cX10_asked 4 = .ok (.ireturn, 1) := by decide +kernel
theorem dX10_upper_0 : decode cX10_upper 0 = .ok (.aload_n 0, 1) := by decide +kernel
theorem dX10_upper_1 : decode cX10_upper 1 = .ok (.getfield 54, 3) := by decide +kernel
theorem dX10_upper_4 : decode cX10_upper 4 = .ok (.lreturn, 1) := by decide +kernel
theorem dX10_lower_0 : decode cX10_lower 0 = .ok (.aload_n 0, 1) := by decide +kernel
theorem dX10_lower_1 : decode cX10_lower 1 = .ok (.getfield 58, 3) := by decide +kernel
theorem dX10_lower_4 : decode cX10_lower 4 = .ok (.lreturn, 1) := by decide +kernel
theorem dX10_count_0 : decode cX10_count 0 = .ok (.iload_n 1, 1) := by decide +kernel
theorem dX10_count_1 : decode cX10_count 1 = .ok (.tableswitch 152 0 11 #[63, 71, 79, 87, 95, 103, 111, 119, 127, 135, 140, 146], 63) := by decide +kernel
theorem dX10_count_64 : decode cX10_count 64 = .ok (.aload_n 0, 1) := by decide +kernel
theorem dX10_count_65 : decode cX10_count 65 = .ok (.getfield 28, 3) := by decide +kernel
theorem dX10_count_68 : decode cX10_count 68 = .ok (.getfield 118, 3) := by decide +kernel
theorem dX10_count_71 : decode cX10_count 71 = .ok (.ireturn, 1) := by decide +kernel
theorem dX10_count_72 : decode cX10_count 72 = .ok (.aload_n 0, 1) := by decide +kernel
theorem dX10_count_73 : decode cX10_count 73 = .ok (.getfield 28, 3) := by decide +kernel
theorem dX10_count_76 : decode cX10_count 76 = .ok (.getfield 151, 3) := by decide +kernel
theorem dX10_count_79 : decode cX10_count 79 = .ok (.ireturn, 1) := by decide +kernel
theorem dX10_count_80 : decode cX10_count 80 = .ok (.aload_n 0, 1) := by decide +kernel
theorem dX10_count_81 : decode cX10_count 81 = .ok (.getfield 28, 3) := by decide +kernel
theorem dX10_count_84 : decode cX10_count 84 = .ok (.getfield 168, 3) := by decide +kernel
theorem dX10_count_87 : decode cX10_count 87 = .ok (.ireturn, 1) := by decide +kernel
theorem dX10_count_88 : decode cX10_count 88 = .ok (.aload_n 0, 1) := by decide +kernel
theorem dX10_count_89 : decode cX10_count 89 = .ok (.getfield 28, 3) := by decide +kernel
theorem dX10_count_92 : decode cX10_count 92 = .ok (.invokevirtual 175, 3) := by decide +kernel
theorem dX10_count_95 : decode cX10_count 95 = .ok (.ireturn, 1) := by decide +kernel
theorem dX10_count_96 : decode cX10_count 96 = .ok (.aload_n 0, 1) := by decide +kernel
theorem dX10_count_97 : decode cX10_count 97 = .ok (.getfield 28, 3) := by decide +kernel
theorem dX10_count_100 : decode cX10_count 100 = .ok (.invokevirtual 260, 3) := by decide +kernel
theorem dX10_count_103 : decode cX10_count 103 = .ok (.ireturn, 1) := by decide +kernel
theorem dX10_count_104 : decode cX10_count 104 = .ok (.aload_n 0, 1) := by decide +kernel
theorem dX10_count_105 : decode cX10_count 105 = .ok (.getfield 28, 3) := by decide +kernel
theorem dX10_count_108 : decode cX10_count 108 = .ok (.invokevirtual 263, 3) := by decide +kernel
theorem dX10_count_111 : decode cX10_count 111 = .ok (.ireturn, 1) := by decide +kernel
theorem dX10_count_112 : decode cX10_count 112 = .ok (.aload_n 0, 1) := by decide +kernel
theorem dX10_count_113 : decode cX10_count 113 = .ok (.getfield 28, 3) := by decide +kernel
theorem dX10_count_116 : decode cX10_count 116 = .ok (.invokevirtual 266, 3) := by decide +kernel
theorem dX10_count_119 : decode cX10_count 119 = .ok (.ireturn, 1) := by decide +kernel
theorem dX10_count_120 : decode cX10_count 120 = .ok (.aload_n 0, 1) := by decide +kernel
theorem dX10_count_121 : decode cX10_count 121 = .ok (.getfield 11, 3) := by decide +kernel
theorem dX10_count_124 : decode cX10_count 124 = .ok (.invokestatic 269, 3) := by decide +kernel
theorem dX10_count_127 : decode cX10_count 127 = .ok (.ireturn, 1) := by decide +kernel
theorem dX10_count_128 : decode cX10_count 128 = .ok (.aload_n 0, 1) := by decide +kernel
theorem dX10_count_129 : decode cX10_count 129 = .ok (.getfield 15, 3) := by decide +kernel
theorem dX10_count_132 : decode cX10_count 132 = .ok (.invokestatic 269, 3) := by decide +kernel
theorem dX10_count_135 : decode cX10_count 135 = .ok (.ireturn, 1) := by decide +kernel
theorem dX10_count_136 : decode cX10_count 136 = .ok (.aload_n 0, 1) := by decide +kernel
theorem dX10_count_137 : decode cX10_count 137 = .ok (.invokevirtual 273, 3) := by decide +kernel
theorem dX10_count_140 : decode cX10_count 140 = .ok (.ireturn, 1) := by decide +kernel
theorem dX10_count_141 : decode cX10_count 141 = .ok (.aload_n 0, 1) := by decide +kernel
theorem dX10_count_142 : decode cX10_count 142 = .ok (.iconst 1, 1) := by decide +kernel
theorem dX10_count_143 : decode cX10_count 143 = .ok (.invokevirtual 276, 3) := by decide +kernel
theorem dX10_count_146 : decode cX10_count 146 = .ok (.ireturn, 1) := by decide +kernel
theorem dX10_count_147 : decode cX10_count 147 = .ok (.aload_n 0, 1) := by decide +kernel
theorem dX10_count_148 : decode cX10_count 148 = .ok (.iconst 2, 1) := by decide +kernel
theorem dX10_count_149 : decode cX10_count 149 = .ok (.invokevirtual 276, 3) := by decide +kernel
theorem dX10_count_152 : decode cX10_count 152 = .ok (.ireturn, 1) := by decide +kernel
theorem dX10_count_153 : decode cX10_count 153 = .ok (.iconst (-1), 1) := by decide +kernel
theorem dX10_count_154 : decode cX10_count 154 = .ok (.ireturn, 1) := by decide +kernel
theorem dX10_finding_0 : decode cX10_finding 0 = .ok (.aload_n 0, 1) := by decide +kernel
theorem dX10_finding_1 : decode cX10_finding 1 = .ok (.getfield 47, 3) := by decide +kernel
theorem dX10_finding_4 : decode cX10_finding 4 = .ok (.ireturn, 1) := by decide +kernel
theorem dX10_findings_0 : decode cX10_findings 0 = .ok (.iload_n 1, 1) := by decide +kernel
theorem dX10_findings_1 : decode cX10_findings 1 = .ok (.iconst 1, 1) := by decide +kernel
theorem dX10_findings_2 : decode cX10_findings 2 = .ok (.if_icmp .lt 8, 3) := by decide +kernel
theorem dX10_findings_5 : decode cX10_findings 5 = .ok (.iload_n 1, 1) := by decide +kernel
theorem dX10_findings_6 : decode cX10_findings 6 = .ok (.iconst 5, 1) := by decide +kernel
theorem dX10_findings_7 : decode cX10_findings 7 = .ok (.if_icmp .le 5, 3) := by decide +kernel
theorem dX10_findings_10 : decode cX10_findings 10 = .ok (.iconst (-1), 1) := by decide +kernel
theorem dX10_findings_11 : decode cX10_findings 11 = .ok (.ireturn, 1) := by decide +kernel
theorem dX10_findings_12 : decode cX10_findings 12 = .ok (.aload_n 0, 1) := by decide +kernel
theorem dX10_findings_13 : decode cX10_findings 13 = .ok (.getfield 43, 3) := by decide +kernel
theorem dX10_findings_16 : decode cX10_findings 16 = .ok (.iload_n 1, 1) := by decide +kernel
theorem dX10_findings_17 : decode cX10_findings 17 = .ok (.iaload, 1) := by decide +kernel
theorem dX10_findings_18 : decode cX10_findings 18 = .ok (.ireturn, 1) := by decide +kernel
theorem dX10_digest_0 : decode cX10_digest 0 = .ok (.ldc2_w 279, 3) := by decide +kernel
theorem dX10_digest_3 : decode cX10_digest 3 = .ok (.lstore_n 1, 1) := by decide +kernel
theorem dX10_digest_4 : decode cX10_digest 4 = .ok (.iconst 0, 1) := by decide +kernel
theorem dX10_digest_5 : decode cX10_digest 5 = .ok (.istore_n 3, 1) := by decide +kernel
theorem dX10_digest_6 : decode cX10_digest 6 = .ok (.iload_n 3, 1) := by decide +kernel
theorem dX10_digest_7 : decode cX10_digest 7 = .ok (.bipush 12, 2) := by decide +kernel
theorem dX10_digest_9 : decode cX10_digest 9 = .ok (.if_icmp .ge 22, 3) := by decide +kernel
theorem dX10_digest_12 : decode cX10_digest 12 = .ok (.ldc2_w 281, 3) := by decide +kernel
theorem dX10_digest_15 : decode cX10_digest 15 = .ok (.lload_n 1, 1) := by decide +kernel
theorem dX10_digest_16 : decode cX10_digest 16 = .ok (.lmul, 1) := by decide +kernel
theorem dX10_digest_17 : decode cX10_digest 17 = .ok (.aload_n 0, 1) := by decide +kernel
theorem dX10_digest_18 : decode cX10_digest 18 = .ok (.iload_n 3, 1) := by decide +kernel
theorem dX10_digest_19 : decode cX10_digest 19 = .ok (.invokevirtual 283, 3) := by decide +kernel
theorem dX10_digest_22 : decode cX10_digest 22 = .ok (.i2l, 1) := by decide +kernel
theorem dX10_digest_23 : decode cX10_digest 23 = .ok (.ladd, 1) := by decide +kernel
theorem dX10_digest_24 : decode cX10_digest 24 = .ok (.lstore_n 1, 1) := by decide +kernel
theorem dX10_digest_25 : decode cX10_digest 25 = .ok (.iinc 3 1, 3) := by decide +kernel
theorem dX10_digest_28 : decode cX10_digest 28 = .ok (.goto (-22), 3) := by decide +kernel
theorem dX10_digest_31 : decode cX10_digest 31 = .ok (.iconst 0, 1) := by decide +kernel
theorem dX10_digest_32 : decode cX10_digest 32 = .ok (.istore_n 3, 1) := by decide +kernel
theorem dX10_digest_33 : decode cX10_digest 33 = .ok (.iload_n 3, 1) := by decide +kernel
theorem dX10_digest_34 : decode cX10_digest 34 = .ok (.aload_n 0, 1) := by decide +kernel
theorem dX10_digest_35 : decode cX10_digest 35 = .ok (.getfield 28, 3) := by decide +kernel
theorem dX10_digest_38 : decode cX10_digest 38 = .ok (.getfield 118, 3) := by decide +kernel
theorem dX10_digest_41 : decode cX10_digest 41 = .ok (.if_icmp .ge 43, 3) := by decide +kernel
theorem dX10_digest_44 : decode cX10_digest 44 = .ok (.iconst 0, 1) := by decide +kernel
theorem dX10_digest_45 : decode cX10_digest 45 = .ok (.istore 4, 2) := by decide +kernel
theorem dX10_digest_47 : decode cX10_digest 47 = .ok (.iload 4, 2) := by decide +kernel
theorem dX10_digest_49 : decode cX10_digest 49 = .ok (.bipush 7, 2) := by decide +kernel
theorem dX10_digest_51 : decode cX10_digest 51 = .ok (.if_icmp .ge 27, 3) := by decide +kernel
theorem dX10_digest_54 : decode cX10_digest 54 = .ok (.ldc2_w 281, 3) := by decide +kernel
theorem dX10_digest_57 : decode cX10_digest 57 = .ok (.lload_n 1, 1) := by decide +kernel
theorem dX10_digest_58 : decode cX10_digest 58 = .ok (.lmul, 1) := by decide +kernel
theorem dX10_digest_59 : decode cX10_digest 59 = .ok (.aload_n 0, 1) := by decide +kernel
theorem dX10_digest_60 : decode cX10_digest 60 = .ok (.getfield 28, 3) := by decide +kernel
theorem dX10_digest_63 : decode cX10_digest 63 = .ok (.iload_n 3, 1) := by decide +kernel
theorem dX10_digest_64 : decode cX10_digest 64 = .ok (.iload 4, 2) := by decide +kernel
theorem dX10_digest_66 : decode cX10_digest 66 = .ok (.invokevirtual 124, 3) := by decide +kernel
theorem dX10_digest_69 : decode cX10_digest 69 = .ok (.i2l, 1) := by decide +kernel
theorem dX10_digest_70 : decode cX10_digest 70 = .ok (.ladd, 1) := by decide +kernel
theorem dX10_digest_71 : decode cX10_digest 71 = .ok (.lstore_n 1, 1) := by decide +kernel
theorem dX10_digest_72 : decode cX10_digest 72 = .ok (.iinc 4 1, 3) := by decide +kernel
theorem dX10_digest_75 : decode cX10_digest 75 = .ok (.goto (-28), 3) := by decide +kernel
theorem dX10_digest_78 : decode cX10_digest 78 = .ok (.iinc 3 1, 3) := by decide +kernel
theorem dX10_digest_81 : decode cX10_digest 81 = .ok (.goto (-48), 3) := by decide +kernel
theorem dX10_digest_84 : decode cX10_digest 84 = .ok (.iconst 0, 1) := by decide +kernel
theorem dX10_digest_85 : decode cX10_digest 85 = .ok (.istore_n 3, 1) := by decide +kernel
theorem dX10_digest_86 : decode cX10_digest 86 = .ok (.iload_n 3, 1) := by decide +kernel
theorem dX10_digest_87 : decode cX10_digest 87 = .ok (.iconst 5, 1) := by decide +kernel
theorem dX10_digest_88 : decode cX10_digest 88 = .ok (.if_icmp .ge 26, 3) := by decide +kernel
theorem dX10_digest_91 : decode cX10_digest 91 = .ok (.ldc2_w 281, 3) := by decide +kernel
theorem dX10_digest_94 : decode cX10_digest 94 = .ok (.lload_n 1, 1) := by decide +kernel
theorem dX10_digest_95 : decode cX10_digest 95 = .ok (.lmul, 1) := by decide +kernel
theorem dX10_digest_96 : decode cX10_digest 96 = .ok (.aload_n 0, 1) := by decide +kernel
theorem dX10_digest_97 : decode cX10_digest 97 = .ok (.getfield 28, 3) := by decide +kernel
theorem dX10_digest_100 : decode cX10_digest 100 = .ok (.getfield 137, 3) := by decide +kernel
theorem dX10_digest_103 : decode cX10_digest 103 = .ok (.iload_n 3, 1) := by decide +kernel
theorem dX10_digest_104 : decode cX10_digest 104 = .ok (.iaload, 1) := by decide +kernel
theorem dX10_digest_105 : decode cX10_digest 105 = .ok (.i2l, 1) := by decide +kernel
theorem dX10_digest_106 : decode cX10_digest 106 = .ok (.ladd, 1) := by decide +kernel
theorem dX10_digest_107 : decode cX10_digest 107 = .ok (.lstore_n 1, 1) := by decide +kernel
theorem dX10_digest_108 : decode cX10_digest 108 = .ok (.iinc 3 1, 3) := by decide +kernel
theorem dX10_digest_111 : decode cX10_digest 111 = .ok (.goto (-25), 3) := by decide +kernel
theorem dX10_digest_114 : decode cX10_digest 114 = .ok (.iconst 0, 1) := by decide +kernel
theorem dX10_digest_115 : decode cX10_digest 115 = .ok (.istore_n 3, 1) := by decide +kernel
theorem dX10_digest_116 : decode cX10_digest 116 = .ok (.iload_n 3, 1) := by decide +kernel
theorem dX10_digest_117 : decode cX10_digest 117 = .ok (.iconst 3, 1) := by decide +kernel
theorem dX10_digest_118 : decode cX10_digest 118 = .ok (.if_icmp .ge 42, 3) := by decide +kernel
theorem dX10_digest_121 : decode cX10_digest 121 = .ok (.ldc2_w 281, 3) := by decide +kernel
theorem dX10_digest_124 : decode cX10_digest 124 = .ok (.lload_n 1, 1) := by decide +kernel
theorem dX10_digest_125 : decode cX10_digest 125 = .ok (.lmul, 1) := by decide +kernel
theorem dX10_digest_126 : decode cX10_digest 126 = .ok (.aload_n 0, 1) := by decide +kernel
theorem dX10_digest_127 : decode cX10_digest 127 = .ok (.getfield 32, 3) := by decide +kernel
theorem dX10_digest_130 : decode cX10_digest 130 = .ok (.iload_n 3, 1) := by decide +kernel
theorem dX10_digest_131 : decode cX10_digest 131 = .ok (.aaload, 1) := by decide +kernel
theorem dX10_digest_132 : decode cX10_digest 132 = .ok (.invokevirtual 131, 3) := by decide +kernel
theorem dX10_digest_135 : decode cX10_digest 135 = .ok (.ifCond .eq 15, 3) := by decide +kernel
theorem dX10_digest_138 : decode cX10_digest 138 = .ok (.aload_n 0, 1) := by decide +kernel
theorem dX10_digest_139 : decode cX10_digest 139 = .ok (.getfield 32, 3) := by decide +kernel
theorem dX10_digest_142 : decode cX10_digest 142 = .ok (.iload_n 3, 1) := by decide +kernel
theorem dX10_digest_143 : decode cX10_digest 143 = .ok (.aaload, 1) := by decide +kernel
theorem dX10_digest_144 : decode cX10_digest 144 = .ok (.getfield 168, 3) := by decide +kernel
theorem dX10_digest_147 : decode cX10_digest 147 = .ok (.goto 4, 3) := by decide +kernel
theorem dX10_digest_150 : decode cX10_digest 150 = .ok (.iconst (-1), 1) := by decide +kernel
theorem dX10_digest_151 : decode cX10_digest 151 = .ok (.i2l, 1) := by decide +kernel
theorem dX10_digest_152 : decode cX10_digest 152 = .ok (.ladd, 1) := by decide +kernel
theorem dX10_digest_153 : decode cX10_digest 153 = .ok (.lstore_n 1, 1) := by decide +kernel
theorem dX10_digest_154 : decode cX10_digest 154 = .ok (.iinc 3 1, 3) := by decide +kernel
theorem dX10_digest_157 : decode cX10_digest 157 = .ok (.goto (-41), 3) := by decide +kernel
theorem dX10_digest_160 : decode cX10_digest 160 = .ok (.iconst 0, 1) := by decide +kernel
theorem dX10_digest_161 : decode cX10_digest 161 = .ok (.istore_n 3, 1) := by decide +kernel
theorem dX10_digest_162 : decode cX10_digest 162 = .ok (.iload_n 3, 1) := by decide +kernel
theorem dX10_digest_163 : decode cX10_digest 163 = .ok (.bipush 6, 2) := by decide +kernel
theorem dX10_digest_165 : decode cX10_digest 165 = .ok (.if_icmp .ge 20, 3) := by decide +kernel
theorem dX10_digest_168 : decode cX10_digest 168 = .ok (.aload_n 0, 1) := by decide +kernel
theorem dX10_digest_169 : decode cX10_digest 169 = .ok (.getfield 11, 3) := by decide +kernel
theorem dX10_digest_172 : decode cX10_digest 172 = .ok (.iload_n 3, 1) := by decide +kernel
theorem dX10_digest_173 : decode cX10_digest 173 = .ok (.aaload, 1) := by decide +kernel
theorem dX10_digest_174 : decode cX10_digest 174 = .ok (.lload_n 1, 1) := by decide +kernel
theorem dX10_digest_175 : decode cX10_digest 175 = .ok (.invokevirtual 286, 3) := by decide +kernel
theorem dX10_digest_178 : decode cX10_digest 178 = .ok (.lstore_n 1, 1) := by decide +kernel
theorem dX10_digest_179 : decode cX10_digest 179 = .ok (.iinc 3 1, 3) := by decide +kernel
theorem dX10_digest_182 : decode cX10_digest 182 = .ok (.goto (-20), 3) := by decide +kernel
theorem dX10_digest_185 : decode cX10_digest 185 = .ok (.iconst 0, 1) := by decide +kernel
theorem dX10_digest_186 : decode cX10_digest 186 = .ok (.istore_n 3, 1) := by decide +kernel
theorem dX10_digest_187 : decode cX10_digest 187 = .ok (.iload_n 3, 1) := by decide +kernel
theorem dX10_digest_188 : decode cX10_digest 188 = .ok (.iconst 4, 1) := by decide +kernel
theorem dX10_digest_189 : decode cX10_digest 189 = .ok (.if_icmp .ge 20, 3) := by decide +kernel
theorem dX10_digest_192 : decode cX10_digest 192 = .ok (.aload_n 0, 1) := by decide +kernel
theorem dX10_digest_193 : decode cX10_digest 193 = .ok (.getfield 15, 3) := by decide +kernel
theorem dX10_digest_196 : decode cX10_digest 196 = .ok (.iload_n 3, 1) := by decide +kernel
theorem dX10_digest_197 : decode cX10_digest 197 = .ok (.aaload, 1) := by decide +kernel
theorem dX10_digest_198 : decode cX10_digest 198 = .ok (.lload_n 1, 1) := by decide +kernel
theorem dX10_digest_199 : decode cX10_digest 199 = .ok (.invokevirtual 286, 3) := by decide +kernel
theorem dX10_digest_202 : decode cX10_digest 202 = .ok (.lstore_n 1, 1) := by decide +kernel
theorem dX10_digest_203 : decode cX10_digest 203 = .ok (.iinc 3 1, 3) := by decide +kernel
theorem dX10_digest_206 : decode cX10_digest 206 = .ok (.goto (-19), 3) := by decide +kernel
theorem dX10_digest_209 : decode cX10_digest 209 = .ok (.lload_n 1, 1) := by decide +kernel
theorem dX10_digest_210 : decode cX10_digest 210 = .ok (.lreturn, 1) := by decide +kernel
theorem dX10_isRow_0 : decode cX10_isRow 0 = .ok (.iload_n 1, 1) := by decide +kernel
theorem dX10_isRow_1 : decode cX10_isRow 1 = .ok (.ifCond .lt 13, 3) := by decide +kernel
theorem dX10_isRow_4 : decode cX10_isRow 4 = .ok (.iload_n 1, 1) := by decide +kernel
theorem dX10_isRow_5 : decode cX10_isRow 5 = .ok (.bipush 6, 2) := by decide +kernel
theorem dX10_isRow_7 : decode cX10_isRow 7 = .ok (.if_icmp .ge 7, 3) := by decide +kernel
theorem dX10_isRow_10 : decode cX10_isRow 10 = .ok (.iconst 1, 1) := by decide +kernel
theorem dX10_isRow_11 : decode cX10_isRow 11 = .ok (.goto 4, 3) := by decide +kernel
theorem dX10_isRow_14 : decode cX10_isRow 14 = .ok (.iconst 0, 1) := by decide +kernel
theorem dX10_isRow_15 : decode cX10_isRow 15 = .ok (.ireturn, 1) := by decide +kernel
theorem dX10_isText_0 : decode cX10_isText 0 = .ok (.iload_n 1, 1) := by decide +kernel
theorem dX10_isText_1 : decode cX10_isText 1 = .ok (.ifCond .lt 12, 3) := by decide +kernel
theorem dX10_isText_4 : decode cX10_isText 4 = .ok (.iload_n 1, 1) := by decide +kernel
theorem dX10_isText_5 : decode cX10_isText 5 = .ok (.iconst 4, 1) := by decide +kernel
theorem dX10_isText_6 : decode cX10_isText 6 = .ok (.if_icmp .ge 7, 3) := by decide +kernel
theorem dX10_isText_9 : decode cX10_isText 9 = .ok (.iconst 1, 1) := by decide +kernel
theorem dX10_isText_10 : decode cX10_isText 10 = .ok (.goto 4, 3) := by decide +kernel
theorem dX10_isText_13 : decode cX10_isText 13 = .ok (.iconst 0, 1) := by decide +kernel
theorem dX10_isText_14 : decode cX10_isText 14 = .ok (.ireturn, 1) := by decide +kernel
theorem dX10_isStreet_0 : decode cX10_isStreet 0 = .ok (.iload_n 1, 1) := by decide +kernel
theorem dX10_isStreet_1 : decode cX10_isStreet 1 = .ok (.ifCond .lt 12, 3) := by decide +kernel
theorem dX10_isStreet_4 : decode cX10_isStreet 4 = .ok (.iload_n 1, 1) := by decide +kernel
theorem dX10_isStreet_5 : decode cX10_isStreet 5 = .ok (.iconst 5, 1) := by decide +kernel
theorem dX10_isStreet_6 : decode cX10_isStreet 6 = .ok (.if_icmp .ge 7, 3) := by decide +kernel
theorem dX10_isStreet_9 : decode cX10_isStreet 9 = .ok (.iconst 1, 1) := by decide +kernel
theorem dX10_isStreet_10 : decode cX10_isStreet 10 = .ok (.goto 4, 3) := by decide +kernel
theorem dX10_isStreet_13 : decode cX10_isStreet 13 = .ok (.iconst 0, 1) := by decide +kernel
theorem dX10_isStreet_14 : decode cX10_isStreet 14 = .ok (.ireturn, 1) := by decide +kernel
theorem dX10_isPerson_0 : decode cX10_isPerson 0 = .ok (.iload_n 1, 1) := by decide +kernel
theorem dX10_isPerson_1 : decode cX10_isPerson 1 = .ok (.ifCond .lt 18, 3) := by decide +kernel
theorem dX10_isPerson_4 : decode cX10_isPerson 4 = .ok (.iload_n 1, 1) := by decide +kernel
theorem dX10_isPerson_5 : decode cX10_isPerson 5 = .ok (.aload_n 0, 1) := by decide +kernel
theorem dX10_isPerson_6 : decode cX10_isPerson 6 = .ok (.getfield 28, 3) := by decide +kernel
theorem dX10_isPerson_9 : decode cX10_isPerson 9 = .ok (.getfield 118, 3) := by decide +kernel
theorem dX10_isPerson_12 : decode cX10_isPerson 12 = .ok (.if_icmp .ge 7, 3) := by decide +kernel
theorem dX10_isPerson_15 : decode cX10_isPerson 15 = .ok (.iconst 1, 1) := by decide +kernel
theorem dX10_isPerson_16 : decode cX10_isPerson 16 = .ok (.goto 4, 3) := by decide +kernel
theorem dX10_isPerson_19 : decode cX10_isPerson 19 = .ok (.iconst 0, 1) := by decide +kernel
theorem dX10_isPerson_20 : decode cX10_isPerson 20 = .ok (.ireturn, 1) := by decide +kernel
theorem dX10_isKeepingPlace_0 : decode cX10_isKeepingPlace 0 = .ok (.iload_n 1, 1) := by decide +kernel
theorem dX10_isKeepingPlace_1 : decode cX10_isKeepingPlace 1 = .ok (.ifCond .lt 12, 3) := by decide +kernel
theorem dX10_isKeepingPlace_4 : decode cX10_isKeepingPlace 4 = .ok (.iload_n 1, 1) := by decide +kernel
theorem dX10_isKeepingPlace_5 : decode cX10_isKeepingPlace 5 = .ok (.iconst 3, 1) := by decide +kernel
theorem dX10_isKeepingPlace_6 : decode cX10_isKeepingPlace 6 = .ok (.if_icmp .ge 7, 3) := by decide +kernel
theorem dX10_isKeepingPlace_9 : decode cX10_isKeepingPlace 9 = .ok (.iconst 1, 1) := by decide +kernel
theorem dX10_isKeepingPlace_10 : decode cX10_isKeepingPlace 10 = .ok (.goto 4, 3) := by decide +kernel
theorem dX10_isKeepingPlace_13 : decode cX10_isKeepingPlace 13 = .ok (.iconst 0, 1) := by decide +kernel
theorem dX10_isKeepingPlace_14 : decode cX10_isKeepingPlace 14 = .ok (.ireturn, 1) := by decide +kernel
theorem dX10_areChances_0 : decode cX10_areChances 0 = .ok (.iload_n 1, 1) := by decide +kernel
theorem dX10_areChances_1 : decode cX10_areChances 1 = .ok (.ifCond .lt 23, 3) := by decide +kernel
theorem dX10_areChances_4 : decode cX10_areChances 4 = .ok (.iload_n 1, 1) := by decide +kernel
theorem dX10_areChances_5 : decode cX10_areChances 5 = .ok (.bipush 20, 2) := by decide +kernel
theorem dX10_areChances_7 : decode cX10_areChances 7 = .ok (.if_icmp .gt 17, 3) := by decide +kernel
theorem dX10_areChances_10 : decode cX10_areChances 10 = .ok (.iload_n 2, 1) := by decide +kernel
theorem dX10_areChances_11 : decode cX10_areChances 11 = .ok (.ifCond .lt 13, 3) := by decide +kernel
theorem dX10_areChances_14 : decode cX10_areChances 14 = .ok (.iload_n 2, 1) := by decide +kernel
theorem dX10_areChances_15 : decode cX10_areChances 15 = .ok (.bipush 12, 2) := by decide +kernel
theorem dX10_areChances_17 : decode cX10_areChances 17 = .ok (.if_icmp .gt 7, 3) := by decide +kernel
theorem dX10_areChances_20 : decode cX10_areChances 20 = .ok (.iconst 1, 1) := by decide +kernel
theorem dX10_areChances_21 : decode cX10_areChances 21 = .ok (.goto 4, 3) := by decide +kernel
theorem dX10_areChances_24 : decode cX10_areChances 24 = .ok (.iconst 0, 1) := by decide +kernel
theorem dX10_areChances_25 : decode cX10_areChances 25 = .ok (.ireturn, 1) := by decide +kernel
theorem dX10_isOfKind_0 : decode cX10_isOfKind 0 = .ok (.iload_n 2, 1) := by decide +kernel
theorem dX10_isOfKind_1 : decode cX10_isOfKind 1 = .ok (.tableswitch 60 1 5 #[35, 40, 45, 50, 55], 35) := by decide +kernel
theorem dX10_isOfKind_36 : decode cX10_isOfKind 36 = .ok (.aload_n 1, 1) := by decide +kernel
theorem dX10_isOfKind_37 : decode cX10_isOfKind 37 = .ok (.instanceof 290, 3) := by decide +kernel
theorem dX10_isOfKind_40 : decode cX10_isOfKind 40 = .ok (.ireturn, 1) := by decide +kernel
theorem dX10_isOfKind_41 : decode cX10_isOfKind 41 = .ok (.aload_n 1, 1) := by decide +kernel
theorem dX10_isOfKind_42 : decode cX10_isOfKind 42 = .ok (.instanceof 292, 3) := by decide +kernel
theorem dX10_isOfKind_45 : decode cX10_isOfKind 45 = .ok (.ireturn, 1) := by decide +kernel
theorem dX10_isOfKind_46 : decode cX10_isOfKind 46 = .ok (.aload_n 1, 1) := by decide +kernel
theorem dX10_isOfKind_47 : decode cX10_isOfKind 47 = .ok (.instanceof 294, 3) := by decide +kernel
theorem dX10_isOfKind_50 : decode cX10_isOfKind 50 = .ok (.ireturn, 1) := by decide +kernel
theorem dX10_isOfKind_51 : decode cX10_isOfKind 51 = .ok (.aload_n 1, 1) := by decide +kernel
theorem dX10_isOfKind_52 : decode cX10_isOfKind 52 = .ok (.instanceof 296, 3) := by decide +kernel
theorem dX10_isOfKind_55 : decode cX10_isOfKind 55 = .ok (.ireturn, 1) := by decide +kernel
theorem dX10_isOfKind_56 : decode cX10_isOfKind 56 = .ok (.aload_n 1, 1) := by decide +kernel
theorem dX10_isOfKind_57 : decode cX10_isOfKind 57 = .ok (.instanceof 298, 3) := by decide +kernel
theorem dX10_isOfKind_60 : decode cX10_isOfKind 60 = .ok (.ireturn, 1) := by decide +kernel
theorem dX10_isOfKind_61 : decode cX10_isOfKind 61 = .ok (.iconst 1, 1) := by decide +kernel
theorem dX10_isOfKind_62 : decode cX10_isOfKind 62 = .ok (.ireturn, 1) := by decide +kernel
theorem dX10_foundOut_0 : decode cX10_foundOut 0 = .ok (.aload_n 0, 1) := by decide +kernel
theorem dX10_foundOut_1 : decode cX10_foundOut 1 = .ok (.iload_n 1, 1) := by decide +kernel
theorem dX10_foundOut_2 : decode cX10_foundOut 2 = .ok (.putfield 47, 3) := by decide +kernel
theorem dX10_foundOut_5 : decode cX10_foundOut 5 = .ok (.iload_n 1, 1) := by decide +kernel
theorem dX10_foundOut_6 : decode cX10_foundOut 6 = .ok (.iconst 1, 1) := by decide +kernel
theorem dX10_foundOut_7 : decode cX10_foundOut 7 = .ok (.if_icmp .lt 18, 3) := by decide +kernel
theorem dX10_foundOut_10 : decode cX10_foundOut 10 = .ok (.iload_n 1, 1) := by decide +kernel
theorem dX10_foundOut_11 : decode cX10_foundOut 11 = .ok (.iconst 5, 1) := by decide +kernel
theorem dX10_foundOut_12 : decode cX10_foundOut 12 = .ok (.if_icmp .gt 13, 3) := by decide +kernel
theorem dX10_foundOut_15 : decode cX10_foundOut 15 = .ok (.aload_n 0, 1) := by decide +kernel
theorem dX10_foundOut_16 : decode cX10_foundOut 16 = .ok (.getfield 43, 3) := by decide +kernel
theorem dX10_foundOut_19 : decode cX10_foundOut 19 = .ok (.iload_n 1, 1) := by decide +kernel
theorem dX10_foundOut_20 : decode cX10_foundOut 20 = .ok (.dup2, 1) := by decide +kernel
theorem dX10_foundOut_21 : decode cX10_foundOut 21 = .ok (.iaload, 1) := by decide +kernel
theorem dX10_foundOut_22 : decode cX10_foundOut 22 = .ok (.iconst 1, 1) := by decide +kernel
theorem dX10_foundOut_23 : decode cX10_foundOut 23 = .ok (.iadd, 1) := by decide +kernel
theorem dX10_foundOut_24 : decode cX10_foundOut 24 = .ok (.iastore, 1) := by decide +kernel
theorem dX10_foundOut_25 : decode cX10_foundOut 25 = .ok (.bipush (-3), 2) := by decide +kernel
theorem dX10_foundOut_27 : decode cX10_foundOut 27 = .ok (.ireturn, 1) := by decide +kernel
theorem dX10_refusalOfPlace_0 : decode cX10_refusalOfPlace 0 = .ok (.aload_n 1, 1) := by decide +kernel
theorem dX10_refusalOfPlace_1 : decode cX10_refusalOfPlace 1 = .ok (.invokevirtual 83, 3) := by decide +kernel
theorem dX10_refusalOfPlace_4 : decode cX10_refusalOfPlace 4 = .ok (.ifCond .ne 9, 3) := by decide +kernel
theorem dX10_refusalOfPlace_7 : decode cX10_refusalOfPlace 7 = .ok (.aload_n 0, 1) := by decide +kernel
theorem dX10_refusalOfPlace_8 : decode cX10_refusalOfPlace 8 = .ok (.iconst 1, 1) := by decide +kernel
theorem dX10_refusalOfPlace_9 : decode cX10_refusalOfPlace 9 = .ok (.invokevirtual 68, 3) := by decide +kernel
theorem dX10_refusalOfPlace_12 : decode cX10_refusalOfPlace 12 = .ok (.ireturn, 1) := by decide +kernel
theorem dX10_refusalOfPlace_13 : decode cX10_refusalOfPlace 13 = .ok (.aload_n 1, 1) := by decide +kernel
theorem dX10_refusalOfPlace_14 : decode cX10_refusalOfPlace 14 = .ok (.iload_n 2, 1) := by decide +kernel
theorem dX10_refusalOfPlace_15 : decode cX10_refusalOfPlace 15 = .ok (.invokevirtual 300, 3) := by decide +kernel
theorem dX10_refusalOfPlace_18 : decode cX10_refusalOfPlace 18 = .ok (.ifCond .eq 7, 3) := by decide +kernel
theorem dX10_refusalOfPlace_21 : decode cX10_refusalOfPlace 21 = .ok (.iconst 0, 1) := by decide +kernel
theorem dX10_refusalOfPlace_22 : decode cX10_refusalOfPlace 22 = .ok (.goto 8, 3) := by decide +kernel
theorem dX10_refusalOfPlace_25 : decode cX10_refusalOfPlace 25 = .ok (.aload_n 0, 1) := by decide +kernel
theorem dX10_refusalOfPlace_26 : decode cX10_refusalOfPlace 26 = .ok (.iconst 2, 1) := by decide +kernel
theorem dX10_refusalOfPlace_27 : decode cX10_refusalOfPlace 27 = .ok (.invokevirtual 68, 3) := by decide +kernel
theorem dX10_refusalOfPlace_30 : decode cX10_refusalOfPlace 30 = .ok (.ireturn, 1) := by decide +kernel
theorem dX10_refusalOfRecord_0 : decode cX10_refusalOfRecord 0 = .ok (.aload_n 0, 1) := by decide +kernel
theorem dX10_refusalOfRecord_1 : decode cX10_refusalOfRecord 1 = .ok (.iload_n 1, 1) := by decide +kernel
theorem dX10_refusalOfRecord_2 : decode cX10_refusalOfRecord 2 = .ok (.invokevirtual 121, 3) := by decide +kernel
theorem dX10_refusalOfRecord_5 : decode cX10_refusalOfRecord 5 = .ok (.ifCond .eq 11, 3) := by decide +kernel
theorem dX10_refusalOfRecord_8 : decode cX10_refusalOfRecord 8 = .ok (.aload_n 0, 1) := by decide +kernel
theorem dX10_refusalOfRecord_9 : decode cX10_refusalOfRecord 9 = .ok (.iload_n 2, 1) := by decide +kernel
theorem dX10_refusalOfRecord_10 : decode cX10_refusalOfRecord 10 = .ok (.invokevirtual 64, 3) := by decide +kernel
theorem dX10_refusalOfRecord_13 : decode cX10_refusalOfRecord 13 = .ok (.ifCond .ne 5, 3) := by decide +kernel
theorem dX10_refusalOfRecord_16 : decode cX10_refusalOfRecord 16 = .ok (.iconst (-1), 1) := by decide +kernel
theorem dX10_refusalOfRecord_17 : decode cX10_refusalOfRecord 17 = .ok (.ireturn, 1) := by decide +kernel
theorem dX10_refusalOfRecord_18 : decode cX10_refusalOfRecord 18 = .ok (.aload_n 0, 1) := by decide +kernel
theorem dX10_refusalOfRecord_19 : decode cX10_refusalOfRecord 19 = .ok (.getfield 11, 3) := by decide +kernel
theorem dX10_refusalOfRecord_22 : decode cX10_refusalOfRecord 22 = .ok (.iload_n 2, 1) := by decide +kernel
theorem dX10_refusalOfRecord_23 : decode cX10_refusalOfRecord 23 = .ok (.aaload, 1) := by decide +kernel
theorem dX10_refusalOfRecord_24 : decode cX10_refusalOfRecord 24 = .ok (.astore_n 3, 1) := by decide +kernel
theorem dX10_refusalOfRecord_25 : decode cX10_refusalOfRecord 25 = .ok (.aload_n 3, 1) := by decide +kernel
theorem dX10_refusalOfRecord_26 : decode cX10_refusalOfRecord 26 = .ok (.invokevirtual 83, 3) := by decide +kernel
theorem dX10_refusalOfRecord_29 : decode cX10_refusalOfRecord 29 = .ok (.ifCond .ne 9, 3) := by decide +kernel
theorem dX10_refusalOfRecord_32 : decode cX10_refusalOfRecord 32 = .ok (.aload_n 0, 1) := by decide +kernel
theorem dX10_refusalOfRecord_33 : decode cX10_refusalOfRecord 33 = .ok (.iconst 1, 1) := by decide +kernel
theorem dX10_refusalOfRecord_34 : decode cX10_refusalOfRecord 34 = .ok (.invokevirtual 68, 3) := by decide +kernel
theorem dX10_refusalOfRecord_37 : decode cX10_refusalOfRecord 37 = .ok (.ireturn, 1) := by decide +kernel
theorem dX10_refusalOfRecord_38 : decode cX10_refusalOfRecord 38 = .ok (.aload_n 3, 1) := by decide +kernel
theorem dX10_refusalOfRecord_39 : decode cX10_refusalOfRecord 39 = .ok (.getfield 100, 3) := by decide +kernel
theorem dX10_refusalOfRecord_42 : decode cX10_refusalOfRecord 42 = .ok (.iconst 1, 1) := by decide +kernel
theorem dX10_refusalOfRecord_43 : decode cX10_refusalOfRecord 43 = .ok (.if_icmp .lt 12, 3) := by decide +kernel
theorem dX10_refusalOfRecord_46 : decode cX10_refusalOfRecord 46 = .ok (.aload_n 3, 1) := by decide +kernel
theorem dX10_refusalOfRecord_47 : decode cX10_refusalOfRecord 47 = .ok (.getfield 100, 3) := by decide +kernel
theorem dX10_refusalOfRecord_50 : decode cX10_refusalOfRecord 50 = .ok (.bipush 20, 2) := by decide +kernel
theorem dX10_refusalOfRecord_52 : decode cX10_refusalOfRecord 52 = .ok (.if_icmp .le 9, 3) := by decide +kernel
theorem dX10_refusalOfRecord_55 : decode cX10_refusalOfRecord 55 = .ok (.aload_n 0, 1) := by decide +kernel
theorem dX10_refusalOfRecord_56 : decode cX10_refusalOfRecord 56 = .ok (.iconst 5, 1) := by decide +kernel
theorem dX10_refusalOfRecord_57 : decode cX10_refusalOfRecord 57 = .ok (.invokevirtual 68, 3) := by decide +kernel
theorem dX10_refusalOfRecord_60 : decode cX10_refusalOfRecord 60 = .ok (.ireturn, 1) := by decide +kernel
theorem dX10_refusalOfRecord_61 : decode cX10_refusalOfRecord 61 = .ok (.iconst 0, 1) := by decide +kernel
theorem dX10_refusalOfRecord_62 : decode cX10_refusalOfRecord 62 = .ok (.istore 4, 2) := by decide +kernel
theorem dX10_refusalOfRecord_64 : decode cX10_refusalOfRecord 64 = .ok (.iload 4, 2) := by decide +kernel
theorem dX10_refusalOfRecord_66 : decode cX10_refusalOfRecord 66 = .ok (.aload_n 3, 1) := by decide +kernel
theorem dX10_refusalOfRecord_67 : decode cX10_refusalOfRecord 67 = .ok (.getfield 100, 3) := by decide +kernel
theorem dX10_refusalOfRecord_70 : decode cX10_refusalOfRecord 70 = .ok (.if_icmp .ge 37, 3) := by decide +kernel
theorem dX10_refusalOfRecord_73 : decode cX10_refusalOfRecord 73 = .ok (.aload_n 3, 1) := by decide +kernel
theorem dX10_refusalOfRecord_74 : decode cX10_refusalOfRecord 74 = .ok (.getfield 80, 3) := by decide +kernel
theorem dX10_refusalOfRecord_77 : decode cX10_refusalOfRecord 77 = .ok (.iload 4, 2) := by decide +kernel
theorem dX10_refusalOfRecord_79 : decode cX10_refusalOfRecord 79 = .ok (.iaload, 1) := by decide +kernel
theorem dX10_refusalOfRecord_80 : decode cX10_refusalOfRecord 80 = .ok (.ifCond .lt 15, 3) := by decide +kernel
theorem dX10_refusalOfRecord_83 : decode cX10_refusalOfRecord 83 = .ok (.aload_n 3, 1) := by decide +kernel
theorem dX10_refusalOfRecord_84 : decode cX10_refusalOfRecord 84 = .ok (.getfield 80, 3) := by decide +kernel
theorem dX10_refusalOfRecord_87 : decode cX10_refusalOfRecord 87 = .ok (.iload 4, 2) := by decide +kernel
theorem dX10_refusalOfRecord_89 : decode cX10_refusalOfRecord 89 = .ok (.iaload, 1) := by decide +kernel
theorem dX10_refusalOfRecord_90 : decode cX10_refusalOfRecord 90 = .ok (.bipush 63, 2) := by decide +kernel
theorem dX10_refusalOfRecord_92 : decode cX10_refusalOfRecord 92 = .ok (.if_icmp .le 9, 3) := by decide +kernel
theorem dX10_refusalOfRecord_95 : decode cX10_refusalOfRecord 95 = .ok (.aload_n 0, 1) := by decide +kernel
theorem dX10_refusalOfRecord_96 : decode cX10_refusalOfRecord 96 = .ok (.iconst 3, 1) := by decide +kernel
theorem dX10_refusalOfRecord_97 : decode cX10_refusalOfRecord 97 = .ok (.invokevirtual 68, 3) := by decide +kernel
theorem dX10_refusalOfRecord_100 : decode cX10_refusalOfRecord 100 = .ok (.ireturn, 1) := by decide +kernel
theorem dX10_refusalOfRecord_101 : decode cX10_refusalOfRecord 101 = .ok (.iinc 4 1, 3) := by decide +kernel
theorem dX10_refusalOfRecord_104 : decode cX10_refusalOfRecord 104 = .ok (.goto (-40), 3) := by decide +kernel
theorem dX10_refusalOfRecord_107 : decode cX10_refusalOfRecord 107 = .ok (.iconst 0, 1) := by decide +kernel
theorem dX10_refusalOfRecord_108 : decode cX10_refusalOfRecord 108 = .ok (.ireturn, 1) := by decide +kernel
theorem dX10_passOn_0 : decode cX10_passOn 0 = .ok (.iload_n 1, 1) := by decide +kernel
theorem dX10_passOn_1 : decode cX10_passOn 1 = .ok (.bipush (-9), 2) := by decide +kernel
theorem dX10_passOn_3 : decode cX10_passOn 3 = .ok (.if_icmp .eq 14, 3) := by decide +kernel
theorem dX10_passOn_6 : decode cX10_passOn 6 = .ok (.aload_n 0, 1) := by decide +kernel
theorem dX10_passOn_7 : decode cX10_passOn 7 = .ok (.aload_n 0, 1) := by decide +kernel
theorem dX10_passOn_8 : decode cX10_passOn 8 = .ok (.getfield 39, 3) := by decide +kernel
theorem dX10_passOn_11 : decode cX10_passOn 11 = .ok (.getfield 303, 3) := by decide +kernel
theorem dX10_passOn_14 : decode cX10_passOn 14 = .ok (.putfield 51, 3) := by decide +kernel
theorem dX10_passOn_17 : decode cX10_passOn 17 = .ok (.iload_n 1, 1) := by decide +kernel
theorem dX10_passOn_18 : decode cX10_passOn 18 = .ok (.ireturn, 1) := by decide +kernel
theorem dX10_tellInLowestTerms_0 : decode cX10_tellInLowestTerms 0 = .ok (.lload_n 1, 1) := by decide +kernel
theorem dX10_tellInLowestTerms_1 : decode cX10_tellInLowestTerms 1 = .ok (.lload_n 3, 1) := by decide +kernel
theorem dX10_tellInLowestTerms_2 : decode cX10_tellInLowestTerms 2 = .ok (.invokestatic 304, 3) := by decide +kernel
theorem dX10_tellInLowestTerms_5 : decode cX10_tellInLowestTerms 5 = .ok (.lstore 5, 2) := by decide +kernel
theorem dX10_tellInLowestTerms_7 : decode cX10_tellInLowestTerms 7 = .ok (.lload 5, 2) := by decide +kernel
theorem dX10_tellInLowestTerms_9 : decode cX10_tellInLowestTerms 9 = .ok (.lconst 0, 1) := by decide +kernel
theorem dX10_tellInLowestTerms_10 : decode cX10_tellInLowestTerms 10 = .ok (.lcmp, 1) := by decide +kernel
theorem dX10_tellInLowestTerms_11 : decode cX10_tellInLowestTerms 11 = .ok (.ifCond .le 19, 3) := by decide +kernel
theorem dX10_tellInLowestTerms_14 : decode cX10_tellInLowestTerms 14 = .ok (.aload_n 0, 1) := by decide +kernel
theorem dX10_tellInLowestTerms_15 : decode cX10_tellInLowestTerms 15 = .ok (.lload_n 1, 1) := by decide +kernel
theorem dX10_tellInLowestTerms_16 : decode cX10_tellInLowestTerms 16 = .ok (.lload 5, 2) := by decide +kernel
theorem dX10_tellInLowestTerms_18 : decode cX10_tellInLowestTerms 18 = .ok (.ldiv, 1) := by decide +kernel
theorem dX10_tellInLowestTerms_19 : decode cX10_tellInLowestTerms 19 = .ok (.putfield 54, 3) := by decide +kernel
theorem dX10_tellInLowestTerms_22 : decode cX10_tellInLowestTerms 22 = .ok (.aload_n 0, 1) := by decide +kernel
theorem dX10_tellInLowestTerms_23 : decode cX10_tellInLowestTerms 23 = .ok (.lload_n 3, 1) := by decide +kernel
theorem dX10_tellInLowestTerms_24 : decode cX10_tellInLowestTerms 24 = .ok (.lload 5, 2) := by decide +kernel
theorem dX10_tellInLowestTerms_26 : decode cX10_tellInLowestTerms 26 = .ok (.ldiv, 1) := by decide +kernel
theorem dX10_tellInLowestTerms_27 : decode cX10_tellInLowestTerms 27 = .ok (.putfield 58, 3) := by decide +kernel
theorem dX10_tellInLowestTerms_30 : decode cX10_tellInLowestTerms 30 = .ok (.return_, 1) := by decide +kernel
theorem dX10_greatestShared_0 : decode cX10_greatestShared 0 = .ok (.lload_n 0, 1) := by decide +kernel
theorem dX10_greatestShared_1 : decode cX10_greatestShared 1 = .ok (.lstore 4, 2) := by decide +kernel
theorem dX10_greatestShared_3 : decode cX10_greatestShared 3 = .ok (.lload_n 2, 1) := by decide +kernel
theorem dX10_greatestShared_4 : decode cX10_greatestShared 4 = .ok (.lstore 6, 2) := by decide +kernel
theorem dX10_greatestShared_6 : decode cX10_greatestShared 6 = .ok (.iconst 0, 1) := by decide +kernel
theorem dX10_greatestShared_7 : decode cX10_greatestShared 7 = .ok (.istore 8, 2) := by decide +kernel
theorem dX10_greatestShared_9 : decode cX10_greatestShared 9 = .ok (.iload 8, 2) := by decide +kernel
theorem dX10_greatestShared_11 : decode cX10_greatestShared 11 = .ok (.bipush 100, 2) := by decide +kernel
theorem dX10_greatestShared_13 : decode cX10_greatestShared 13 = .ok (.if_icmp .ge 31, 3) := by decide +kernel
theorem dX10_greatestShared_16 : decode cX10_greatestShared 16 = .ok (.lload 6, 2) := by decide +kernel
theorem dX10_greatestShared_18 : decode cX10_greatestShared 18 = .ok (.lconst 0, 1) := by decide +kernel
theorem dX10_greatestShared_19 : decode cX10_greatestShared 19 = .ok (.lcmp, 1) := by decide +kernel
theorem dX10_greatestShared_20 : decode cX10_greatestShared 20 = .ok (.ifCond .eq 24, 3) := by decide +kernel
theorem dX10_greatestShared_23 : decode cX10_greatestShared 23 = .ok (.lload 4, 2) := by decide +kernel
theorem dX10_greatestShared_25 : decode cX10_greatestShared 25 = .ok (.lload 6, 2) := by decide +kernel
theorem dX10_greatestShared_27 : decode cX10_greatestShared 27 = .ok (.lrem, 1) := by decide +kernel
theorem dX10_greatestShared_28 : decode cX10_greatestShared 28 = .ok (.lstore 9, 2) := by decide +kernel
theorem dX10_greatestShared_30 : decode cX10_greatestShared 30 = .ok (.lload 6, 2) := by decide +kernel
theorem dX10_greatestShared_32 : decode cX10_greatestShared 32 = .ok (.lstore 4, 2) := by decide +kernel
theorem dX10_greatestShared_34 : decode cX10_greatestShared 34 = .ok (.lload 9, 2) := by decide +kernel
theorem dX10_greatestShared_36 : decode cX10_greatestShared 36 = .ok (.lstore 6, 2) := by decide +kernel
theorem dX10_greatestShared_38 : decode cX10_greatestShared 38 = .ok (.iinc 8 1, 3) := by decide +kernel
theorem dX10_greatestShared_41 : decode cX10_greatestShared 41 = .ok (.goto (-32), 3) := by decide +kernel
theorem dX10_greatestShared_44 : decode cX10_greatestShared 44 = .ok (.lload 4, 2) := by decide +kernel
theorem dX10_greatestShared_46 : decode cX10_greatestShared 46 = .ok (.lreturn, 1) := by decide +kernel
theorem dX10_performByLot_0 : decode cX10_performByLot 0 = .ok (.lload_n 1, 1) := by decide +kernel
theorem dX10_performByLot_1 : decode cX10_performByLot 1 = .ok (.ldc2_w 308, 3) := by decide +kernel
theorem dX10_performByLot_4 : decode cX10_performByLot 4 = .ok (.ldiv, 1) := by decide +kernel
theorem dX10_performByLot_5 : decode cX10_performByLot 5 = .ok (.ldc2_w 310, 3) := by decide +kernel
theorem dX10_performByLot_8 : decode cX10_performByLot 8 = .ok (.lrem, 1) := by decide +kernel
theorem dX10_performByLot_9 : decode cX10_performByLot 9 = .ok (.l2i, 1) := by decide +kernel
theorem dX10_performByLot_10 : decode cX10_performByLot 10 = .ok (.istore_n 3, 1) := by decide +kernel
theorem dX10_performByLot_11 : decode cX10_performByLot 11 = .ok (.lload_n 1, 1) := by decide +kernel
theorem dX10_performByLot_12 : decode cX10_performByLot 12 = .ok (.ldc2_w 308, 3) := by decide +kernel
theorem dX10_performByLot_15 : decode cX10_performByLot 15 = .ok (.lrem, 1) := by decide +kernel
theorem dX10_performByLot_16 : decode cX10_performByLot 16 = .ok (.l2i, 1) := by decide +kernel
theorem dX10_performByLot_17 : decode cX10_performByLot 17 = .ok (.istore 4, 2) := by decide +kernel
theorem dX10_performByLot_19 : decode cX10_performByLot 19 = .ok (.iload 4, 2) := by decide +kernel
theorem dX10_performByLot_21 : decode cX10_performByLot 21 = .ok (.ifCond .ne 32, 3) := by decide +kernel
theorem dX10_performByLot_24 : decode cX10_performByLot 24 = .ok (.aload_n 0, 1) := by decide +kernel
theorem dX10_performByLot_25 : decode cX10_performByLot 25 = .ok (.getfield 28, 3) := by decide +kernel
theorem dX10_performByLot_28 : decode cX10_performByLot 28 = .ok (.aload_n 0, 1) := by decide +kernel
theorem dX10_performByLot_29 : decode cX10_performByLot 29 = .ok (.getfield 28, 3) := by decide +kernel
theorem dX10_performByLot_32 : decode cX10_performByLot 32 = .ok (.getfield 137, 3) := by decide +kernel
theorem dX10_performByLot_35 : decode cX10_performByLot 35 = .ok (.iload_n 3, 1) := by decide +kernel
theorem dX10_performByLot_36 : decode cX10_performByLot 36 = .ok (.iaload, 1) := by decide +kernel
theorem dX10_performByLot_37 : decode cX10_performByLot 37 = .ok (.ifCond .le 7, 3) := by decide +kernel
theorem dX10_performByLot_40 : decode cX10_performByLot 40 = .ok (.iconst 3, 1) := by decide +kernel
theorem dX10_performByLot_41 : decode cX10_performByLot 41 = .ok (.goto 4, 3) := by decide +kernel
theorem dX10_performByLot_44 : decode cX10_performByLot 44 = .ok (.iconst 0, 1) := by decide +kernel
theorem dX10_performByLot_45 : decode cX10_performByLot 45 = .ok (.iload_n 3, 1) := by decide +kernel
theorem dX10_performByLot_46 : decode cX10_performByLot 46 = .ok (.iconst 0, 1) := by decide +kernel
theorem dX10_performByLot_47 : decode cX10_performByLot 47 = .ok (.invokevirtual 171, 3) := by decide +kernel
theorem dX10_performByLot_50 : decode cX10_performByLot 50 = .ok (.goto 135, 3) := by decide +kernel
theorem dX10_performByLot_53 : decode cX10_performByLot 53 = .ok (.iload 4, 2) := by decide +kernel
theorem dX10_performByLot_55 : decode cX10_performByLot 55 = .ok (.iconst 2, 1) := by decide +kernel
theorem dX10_performByLot_56 : decode cX10_performByLot 56 = .ok (.if_icmp .gt 34, 3) := by decide +kernel
theorem dX10_performByLot_59 : decode cX10_performByLot 59 = .ok (.aload_n 0, 1) := by decide +kernel
theorem dX10_performByLot_60 : decode cX10_performByLot 60 = .ok (.getfield 28, 3) := by decide +kernel
theorem dX10_performByLot_63 : decode cX10_performByLot 63 = .ok (.aload_n 0, 1) := by decide +kernel
theorem dX10_performByLot_64 : decode cX10_performByLot 64 = .ok (.getfield 28, 3) := by decide +kernel
theorem dX10_performByLot_67 : decode cX10_performByLot 67 = .ok (.getfield 137, 3) := by decide +kernel
theorem dX10_performByLot_70 : decode cX10_performByLot 70 = .ok (.iload_n 3, 1) := by decide +kernel
theorem dX10_performByLot_71 : decode cX10_performByLot 71 = .ok (.iaload, 1) := by decide +kernel
theorem dX10_performByLot_72 : decode cX10_performByLot 72 = .ok (.bipush 9, 2) := by decide +kernel
theorem dX10_performByLot_74 : decode cX10_performByLot 74 = .ok (.if_icmp .ge 7, 3) := by decide +kernel
theorem dX10_performByLot_77 : decode cX10_performByLot 77 = .ok (.iconst 2, 1) := by decide +kernel
theorem dX10_performByLot_78 : decode cX10_performByLot 78 = .ok (.goto 4, 3) := by decide +kernel
theorem dX10_performByLot_81 : decode cX10_performByLot 81 = .ok (.iconst 0, 1) := by decide +kernel
theorem dX10_performByLot_82 : decode cX10_performByLot 82 = .ok (.iload_n 3, 1) := by decide +kernel
theorem dX10_performByLot_83 : decode cX10_performByLot 83 = .ok (.iconst 1, 1) := by decide +kernel
theorem dX10_performByLot_84 : decode cX10_performByLot 84 = .ok (.invokevirtual 171, 3) := by decide +kernel
theorem dX10_performByLot_87 : decode cX10_performByLot 87 = .ok (.goto 98, 3) := by decide +kernel
theorem dX10_performByLot_90 : decode cX10_performByLot 90 = .ok (.iload 4, 2) := by decide +kernel
theorem dX10_performByLot_92 : decode cX10_performByLot 92 = .ok (.iconst 3, 1) := by decide +kernel
theorem dX10_performByLot_93 : decode cX10_performByLot 93 = .ok (.if_icmp .ne 66, 3) := by decide +kernel
theorem dX10_performByLot_96 : decode cX10_performByLot 96 = .ok (.aload_n 0, 1) := by decide +kernel
theorem dX10_performByLot_97 : decode cX10_performByLot 97 = .ok (.getfield 28, 3) := by decide +kernel
theorem dX10_performByLot_100 : decode cX10_performByLot 100 = .ok (.getfield 118, 3) := by decide +kernel
theorem dX10_performByLot_103 : decode cX10_performByLot 103 = .ok (.ifCond .le 21, 3) := by decide +kernel
theorem dX10_performByLot_106 : decode cX10_performByLot 106 = .ok (.lload_n 1, 1) := by decide +kernel
theorem dX10_performByLot_107 : decode cX10_performByLot 107 = .ok (.ldc2_w 312, 3) := by decide +kernel
theorem dX10_performByLot_110 : decode cX10_performByLot 110 = .ok (.ldiv, 1) := by decide +kernel
theorem dX10_performByLot_111 : decode cX10_performByLot 111 = .ok (.aload_n 0, 1) := by decide +kernel
theorem dX10_performByLot_112 : decode cX10_performByLot 112 = .ok (.getfield 28, 3) := by decide +kernel
theorem dX10_performByLot_115 : decode cX10_performByLot 115 = .ok (.getfield 118, 3) := by decide +kernel
theorem dX10_performByLot_118 : decode cX10_performByLot 118 = .ok (.i2l, 1) := by decide +kernel
theorem dX10_performByLot_119 : decode cX10_performByLot 119 = .ok (.lrem, 1) := by decide +kernel
theorem dX10_performByLot_120 : decode cX10_performByLot 120 = .ok (.l2i, 1) := by decide +kernel
theorem dX10_performByLot_121 : decode cX10_performByLot 121 = .ok (.goto 4, 3) := by decide +kernel
theorem dX10_performByLot_124 : decode cX10_performByLot 124 = .ok (.iconst 0, 1) := by decide +kernel
theorem dX10_performByLot_125 : decode cX10_performByLot 125 = .ok (.istore 5, 2) := by decide +kernel
theorem dX10_performByLot_127 : decode cX10_performByLot 127 = .ok (.aload_n 0, 1) := by decide +kernel
theorem dX10_performByLot_128 : decode cX10_performByLot 128 = .ok (.getfield 28, 3) := by decide +kernel
theorem dX10_performByLot_131 : decode cX10_performByLot 131 = .ok (.aload_n 0, 1) := by decide +kernel
theorem dX10_performByLot_132 : decode cX10_performByLot 132 = .ok (.getfield 28, 3) := by decide +kernel
theorem dX10_performByLot_135 : decode cX10_performByLot 135 = .ok (.getfield 179, 3) := by decide +kernel
theorem dX10_performByLot_138 : decode cX10_performByLot 138 = .ok (.iload 5, 2) := by decide +kernel
theorem dX10_performByLot_140 : decode cX10_performByLot 140 = .ok (.iaload, 1) := by decide +kernel
theorem dX10_performByLot_141 : decode cX10_performByLot 141 = .ok (.iload_n 3, 1) := by decide +kernel
theorem dX10_performByLot_142 : decode cX10_performByLot 142 = .ok (.if_icmp .eq 7, 3) := by decide +kernel
theorem dX10_performByLot_145 : decode cX10_performByLot 145 = .ok (.iconst 4, 1) := by decide +kernel
theorem dX10_performByLot_146 : decode cX10_performByLot 146 = .ok (.goto 4, 3) := by decide +kernel
theorem dX10_performByLot_149 : decode cX10_performByLot 149 = .ok (.iconst 0, 1) := by decide +kernel
theorem dX10_performByLot_150 : decode cX10_performByLot 150 = .ok (.iload 5, 2) := by decide +kernel
theorem dX10_performByLot_152 : decode cX10_performByLot 152 = .ok (.iload_n 3, 1) := by decide +kernel
theorem dX10_performByLot_153 : decode cX10_performByLot 153 = .ok (.invokevirtual 171, 3) := by decide +kernel
theorem dX10_performByLot_156 : decode cX10_performByLot 156 = .ok (.goto 29, 3) := by decide +kernel
theorem dX10_performByLot_159 : decode cX10_performByLot 159 = .ok (.aload_n 0, 1) := by decide +kernel
theorem dX10_performByLot_160 : decode cX10_performByLot 160 = .ok (.getfield 28, 3) := by decide +kernel
theorem dX10_performByLot_163 : decode cX10_performByLot 163 = .ok (.aload_n 0, 1) := by decide +kernel
theorem dX10_performByLot_164 : decode cX10_performByLot 164 = .ok (.getfield 28, 3) := by decide +kernel
theorem dX10_performByLot_167 : decode cX10_performByLot 167 = .ok (.getfield 151, 3) := by decide +kernel
theorem dX10_performByLot_170 : decode cX10_performByLot 170 = .ok (.bipush 99, 2) := by decide +kernel
theorem dX10_performByLot_172 : decode cX10_performByLot 172 = .ok (.if_icmp .ge 7, 3) := by decide +kernel
theorem dX10_performByLot_175 : decode cX10_performByLot 175 = .ok (.iconst 1, 1) := by decide +kernel
theorem dX10_performByLot_176 : decode cX10_performByLot 176 = .ok (.goto 4, 3) := by decide +kernel
theorem dX10_performByLot_179 : decode cX10_performByLot 179 = .ok (.iconst 0, 1) := by decide +kernel
theorem dX10_performByLot_180 : decode cX10_performByLot 180 = .ok (.iconst 0, 1) := by decide +kernel
theorem dX10_performByLot_181 : decode cX10_performByLot 181 = .ok (.iconst 0, 1) := by decide +kernel
theorem dX10_performByLot_182 : decode cX10_performByLot 182 = .ok (.invokevirtual 171, 3) := by decide +kernel
theorem dX10_performByLot_185 : decode cX10_performByLot 185 = .ok (.return_, 1) := by decide +kernel
theorem dX10_howManyAreThere_0 : decode cX10_howManyAreThere 0 = .ok (.iconst 0, 1) := by decide +kernel
theorem dX10_howManyAreThere_1 : decode cX10_howManyAreThere 1 = .ok (.istore_n 1, 1) := by decide +kernel
theorem dX10_howManyAreThere_2 : decode cX10_howManyAreThere 2 = .ok (.aload_n 0, 1) := by decide +kernel
theorem dX10_howManyAreThere_3 : decode cX10_howManyAreThere 3 = .ok (.astore_n 2, 1) := by decide +kernel
theorem dX10_howManyAreThere_4 : decode cX10_howManyAreThere 4 = .ok (.aload_n 2, 1) := by decide +kernel
theorem dX10_howManyAreThere_5 : decode cX10_howManyAreThere 5 = .ok (.arraylength, 1) := by decide +kernel
theorem dX10_howManyAreThere_6 : decode cX10_howManyAreThere 6 = .ok (.istore_n 3, 1) := by decide +kernel
theorem dX10_howManyAreThere_7 : decode cX10_howManyAreThere 7 = .ok (.iconst 0, 1) := by decide +kernel
theorem dX10_howManyAreThere_8 : decode cX10_howManyAreThere 8 = .ok (.istore 4, 2) := by decide +kernel
theorem dX10_howManyAreThere_10 : decode cX10_howManyAreThere 10 = .ok (.iload 4, 2) := by decide +kernel
theorem dX10_howManyAreThere_12 : decode cX10_howManyAreThere 12 = .ok (.iload_n 3, 1) := by decide +kernel
theorem dX10_howManyAreThere_13 : decode cX10_howManyAreThere 13 = .ok (.if_icmp .ge 26, 3) := by decide +kernel
theorem dX10_howManyAreThere_16 : decode cX10_howManyAreThere 16 = .ok (.aload_n 2, 1) := by decide +kernel
theorem dX10_howManyAreThere_17 : decode cX10_howManyAreThere 17 = .ok (.iload 4, 2) := by decide +kernel
theorem dX10_howManyAreThere_19 : decode cX10_howManyAreThere 19 = .ok (.aaload, 1) := by decide +kernel
theorem dX10_howManyAreThere_20 : decode cX10_howManyAreThere 20 = .ok (.astore 5, 2) := by decide +kernel
theorem dX10_howManyAreThere_22 : decode cX10_howManyAreThere 22 = .ok (.aload 5, 2) := by decide +kernel
theorem dX10_howManyAreThere_24 : decode cX10_howManyAreThere 24 = .ok (.invokevirtual 83, 3) := by decide +kernel
theorem dX10_howManyAreThere_27 : decode cX10_howManyAreThere 27 = .ok (.ifCond .eq 6, 3) := by decide +kernel
theorem dX10_howManyAreThere_30 : decode cX10_howManyAreThere 30 = .ok (.iinc 1 1, 3) := by decide +kernel
theorem dX10_howManyAreThere_33 : decode cX10_howManyAreThere 33 = .ok (.iinc 4 1, 3) := by decide +kernel
theorem dX10_howManyAreThere_36 : decode cX10_howManyAreThere 36 = .ok (.goto (-26), 3) := by decide +kernel
theorem dX10_howManyAreThere_39 : decode cX10_howManyAreThere 39 = .ok (.iload_n 1, 1) := by decide +kernel
theorem dX10_howManyAreThere_40 : decode cX10_howManyAreThere 40 = .ok (.ireturn, 1) := by decide +kernel
theorem dX10_howManyAreKept_0 : decode cX10_howManyAreKept 0 = .ok (.iconst 0, 1) := by decide +kernel
theorem dX10_howManyAreKept_1 : decode cX10_howManyAreKept 1 = .ok (.istore_n 1, 1) := by decide +kernel
theorem dX10_howManyAreKept_2 : decode cX10_howManyAreKept 2 = .ok (.iconst 0, 1) := by decide +kernel
theorem dX10_howManyAreKept_3 : decode cX10_howManyAreKept 3 = .ok (.istore_n 2, 1) := by decide +kernel
theorem dX10_howManyAreKept_4 : decode cX10_howManyAreKept 4 = .ok (.iload_n 2, 1) := by decide +kernel
theorem dX10_howManyAreKept_5 : decode cX10_howManyAreKept 5 = .ok (.iconst 3, 1) := by decide +kernel
theorem dX10_howManyAreKept_6 : decode cX10_howManyAreKept 6 = .ok (.if_icmp .ge 24, 3) := by decide +kernel
theorem dX10_howManyAreKept_9 : decode cX10_howManyAreKept 9 = .ok (.aload_n 0, 1) := by decide +kernel
theorem dX10_howManyAreKept_10 : decode cX10_howManyAreKept 10 = .ok (.getfield 32, 3) := by decide +kernel
theorem dX10_howManyAreKept_13 : decode cX10_howManyAreKept 13 = .ok (.iload_n 2, 1) := by decide +kernel
theorem dX10_howManyAreKept_14 : decode cX10_howManyAreKept 14 = .ok (.aaload, 1) := by decide +kernel
theorem dX10_howManyAreKept_15 : decode cX10_howManyAreKept 15 = .ok (.invokevirtual 131, 3) := by decide +kernel
theorem dX10_howManyAreKept_18 : decode cX10_howManyAreKept 18 = .ok (.ifCond .eq 6, 3) := by decide +kernel
theorem dX10_howManyAreKept_21 : decode cX10_howManyAreKept 21 = .ok (.iinc 1 1, 3) := by decide +kernel
theorem dX10_howManyAreKept_24 : decode cX10_howManyAreKept 24 = .ok (.iinc 2 1, 3) := by decide +kernel
theorem dX10_howManyAreKept_27 : decode cX10_howManyAreKept 27 = .ok (.goto (-23), 3) := by decide +kernel
theorem dX10_howManyAreKept_30 : decode cX10_howManyAreKept 30 = .ok (.iload_n 1, 1) := by decide +kernel
theorem dX10_howManyAreKept_31 : decode cX10_howManyAreKept 31 = .ok (.ireturn, 1) := by decide +kernel
theorem dX10_howManyOfKind_0 : decode cX10_howManyOfKind 0 = .ok (.iconst 0, 1) := by decide +kernel
theorem dX10_howManyOfKind_1 : decode cX10_howManyOfKind 1 = .ok (.istore_n 2, 1) := by decide +kernel
theorem dX10_howManyOfKind_2 : decode cX10_howManyOfKind 2 = .ok (.iconst 0, 1) := by decide +kernel
theorem dX10_howManyOfKind_3 : decode cX10_howManyOfKind 3 = .ok (.istore_n 3, 1) := by decide +kernel
theorem dX10_howManyOfKind_4 : decode cX10_howManyOfKind 4 = .ok (.iload_n 3, 1) := by decide +kernel
theorem dX10_howManyOfKind_5 : decode cX10_howManyOfKind 5 = .ok (.aload_n 0, 1) := by decide +kernel
theorem dX10_howManyOfKind_6 : decode cX10_howManyOfKind 6 = .ok (.getfield 28, 3) := by decide +kernel
theorem dX10_howManyOfKind_9 : decode cX10_howManyOfKind 9 = .ok (.getfield 118, 3) := by decide +kernel
theorem dX10_howManyOfKind_12 : decode cX10_howManyOfKind 12 = .ok (.if_icmp .ge 28, 3) := by decide +kernel
theorem dX10_howManyOfKind_15 : decode cX10_howManyOfKind 15 = .ok (.aload_n 0, 1) := by decide +kernel
theorem dX10_howManyOfKind_16 : decode cX10_howManyOfKind 16 = .ok (.aload_n 0, 1) := by decide +kernel
theorem dX10_howManyOfKind_17 : decode cX10_howManyOfKind 17 = .ok (.getfield 28, 3) := by decide +kernel
theorem dX10_howManyOfKind_20 : decode cX10_howManyOfKind 20 = .ok (.iload_n 3, 1) := by decide +kernel
theorem dX10_howManyOfKind_21 : decode cX10_howManyOfKind 21 = .ok (.invokevirtual 140, 3) := by decide +kernel
theorem dX10_howManyOfKind_24 : decode cX10_howManyOfKind 24 = .ok (.iload_n 1, 1) := by decide +kernel
theorem dX10_howManyOfKind_25 : decode cX10_howManyOfKind 25 = .ok (.invokevirtual 144, 3) := by decide +kernel
theorem dX10_howManyOfKind_28 : decode cX10_howManyOfKind 28 = .ok (.ifCond .eq 6, 3) := by decide +kernel
theorem dX10_howManyOfKind_31 : decode cX10_howManyOfKind 31 = .ok (.iinc 2 1, 3) := by decide +kernel
theorem dX10_howManyOfKind_34 : decode cX10_howManyOfKind 34 = .ok (.iinc 3 1, 3) := by decide +kernel
theorem dX10_howManyOfKind_37 : decode cX10_howManyOfKind 37 = .ok (.goto (-33), 3) := by decide +kernel
theorem dX10_howManyOfKind_40 : decode cX10_howManyOfKind 40 = .ok (.iload_n 2, 1) := by decide +kernel
theorem dX10_howManyOfKind_41 : decode cX10_howManyOfKind 41 = .ok (.ireturn, 1) := by decide +kernel
end
section
theorem dX11_init_0 : decode cX11_init 0 = .ok (.aload_n 0, 1) := by decide +kernel
theorem dX11_init_1 : decode cX11_init 1 = .ok (.invokespecial 1, 3) := by decide +kernel
theorem dX11_init_4 : decode cX11_init 4 = .ok (.aload_n 0, 1) := by decide +kernel
theorem dX11_init_5 : decode cX11_init 5 = .ok (.lconst 1, 1) := by decide +kernel
theorem dX11_init_6 : decode cX11_init 6 = .ok (.putfield 7, 3) := by decide +kernel
theorem dX11_init_9 : decode cX11_init 9 = .ok (.aload_n 0, 1) := by decide +kernel
theorem dX11_init_10 : decode cX11_init 10 = .ok (.bipush 6, 2) := by decide +kernel
theorem dX11_init_12 : decode cX11_init 12 = .ok (.newarray .int, 2) := by decide +kernel
theorem dX11_init_14 : decode cX11_init 14 = .ok (.putfield 13, 3) := by decide +kernel
theorem dX11_init_17 : decode cX11_init 17 = .ok (.aload_n 0, 1) := by decide +kernel
theorem dX11_init_18 : decode cX11_init 18 = .ok (.bipush 6, 2) := by decide +kernel
theorem dX11_init_20 : decode cX11_init 20 = .ok (.newarray .int, 2) := by decide +kernel
theorem dX11_init_22 : decode cX11_init 22 = .ok (.putfield 17, 3) := by decide +kernel
theorem dX11_init_25 : decode cX11_init 25 = .ok (.aload_n 0, 1) := by decide +kernel
theorem dX11_init_26 : decode cX11_init 26 = .ok (.sipush 240, 3) := by decide +kernel
theorem dX11_init_29 : decode cX11_init 29 = .ok (.newarray .int, 2) := by decide +kernel
theorem dX11_init_31 : decode cX11_init 31 = .ok (.putfield 20, 3) := by decide +kernel
theorem dX11_init_34 : decode cX11_init 34 = .ok (.aload_n 0, 1) := by decide +kernel
theorem dX11_init_35 : decode cX11_init 35 = .ok (.bipush 40, 2) := by decide +kernel
theorem dX11_init_37 : decode cX11_init 37 = .ok (.newarray .int, 2) := by decide +kernel
theorem dX11_init_39 : decode cX11_init 39 = .ok (.putfield 23, 3) := by decide +kernel
theorem dX11_init_42 : decode cX11_init 42 = .ok (.aload_n 0, 1) := by decide +kernel
theorem dX11_init_43 : decode cX11_init 43 = .ok (.iconst 4, 1) := by decide +kernel
theorem dX11_init_44 : decode cX11_init 44 = .ok (.newarray .int, 2) := by decide +kernel
theorem dX11_init_46 : decode cX11_init 46 = .ok (.putfield 26, 3) := by decide +kernel
theorem dX11_init_49 : decode cX11_init 49 = .ok (.aload_n 0, 1) := by decide +kernel
theorem dX11_init_50 : decode cX11_init 50 = .ok (.sipush 480, 3) := by decide +kernel
theorem dX11_init_53 : decode cX11_init 53 = .ok (.newarray .byte, 2) := by decide +kernel
theorem dX11_init_55 : decode cX11_init 55 = .ok (.putfield 29, 3) := by decide +kernel
theorem dX11_init_58 : decode cX11_init 58 = .ok (.aload_n 0, 1) := by decide +kernel
theorem dX11_init_59 : decode cX11_init 59 = .ok (.iconst 5, 1) := by decide +kernel
theorem dX11_init_60 : decode cX11_init 60 = .ok (.newarray .int, 2) := by decide +kernel
theorem dX11_init_62 : decode cX11_init 62 = .ok (.putfield 33, 3) := by decide +kernel
theorem dX11_init_65 : decode cX11_init 65 = .ok (.aload_n 0, 1) := by decide +kernel
theorem dX11_init_66 : decode cX11_init 66 = .ok (.bipush 35, 2) := by decide +kernel
theorem dX11_init_68 : decode cX11_init 68 = .ok (.newarray .int, 2) := by decide +kernel
theorem dX11_init_70 : decode cX11_init 70 = .ok (.putfield 36, 3) := by decide +kernel
theorem dX11_init_73 : decode cX11_init 73 = .ok (.aload_n 0, 1) := by decide +kernel
theorem dX11_init_74 : decode cX11_init 74 = .ok (.bipush 7, 2) := by decide +kernel
theorem dX11_init_76 : decode cX11_init 76 = .ok (.newarray .int, 2) := by decide +kernel
theorem dX11_init_78 : decode cX11_init 78 = .ok (.putfield 39, 3) := by decide +kernel
theorem dX11_init_81 : decode cX11_init 81 = .ok (.aload_n 0, 1) := by decide +kernel
theorem dX11_init_82 : decode cX11_init 82 = .ok (.bipush 7, 2) := by decide +kernel
theorem dX11_init_84 : decode cX11_init 84 = .ok (.newarray .int, 2) := by decide +kernel
theorem dX11_init_86 : decode cX11_init 86 = .ok (.putfield 42, 3) := by decide +kernel
theorem dX11_init_89 : decode cX11_init 89 = .ok (.aload_n 0, 1) := by decide +kernel
theorem dX11_init_90 : decode cX11_init 90 = .ok (.bipush 7, 2) := by decide +kernel
theorem dX11_init_92 : decode cX11_init 92 = .ok (.newarray .int, 2) := by decide +kernel
theorem dX11_init_94 : decode cX11_init 94 = .ok (.putfield 45, 3) := by decide +kernel
theorem dX11_init_97 : decode cX11_init 97 = .ok (.aload_n 0, 1) := by decide +kernel
theorem dX11_init_98 : decode cX11_init 98 = .ok (.bipush 20, 2) := by decide +kernel
theorem dX11_init_100 : decode cX11_init 100 = .ok (.newarray .int, 2) := by decide +kernel
theorem dX11_init_102 : decode cX11_init 102 = .ok (.putfield 48, 3) := by decide +kernel
theorem dX11_init_105 : decode cX11_init 105 = .ok (.aload_n 0, 1) := by decide +kernel
theorem dX11_init_106 : decode cX11_init 106 = .ok (.bipush 20, 2) := by decide +kernel
theorem dX11_init_108 : decode cX11_init 108 = .ok (.newarray .int, 2) := by decide +kernel
theorem dX11_init_110 : decode cX11_init 110 = .ok (.putfield 51, 3) := by decide +kernel
theorem dX11_init_113 : decode cX11_init 113 = .ok (.aload_n 0, 1) := by decide +kernel
theorem dX11_init_114 : decode cX11_init 114 = .ok (.sipush 800, 3) := by decide +kernel
theorem dX11_init_117 : decode cX11_init 117 = .ok (.newarray .int, 2) := by decide +kernel
theorem dX11_init_119 : decode cX11_init 119 = .ok (.putfield 54, 3) := by decide +kernel
theorem dX11_init_122 : decode cX11_init 122 = .ok (.aload_n 0, 1) := by decide +kernel
theorem dX11_init_123 : decode cX11_init 123 = .ok (.iconst 3, 1) := by decide +kernel
theorem dX11_init_124 : decode cX11_init 124 = .ok (.newarray .int, 2) := by decide +kernel
theorem dX11_init_126 : decode cX11_init 126 = .ok (.putfield 57, 3) := by decide +kernel
theorem dX11_init_129 : decode cX11_init 129 = .ok (.aload_n 0, 1) := by decide +kernel
theorem dX11_init_130 : decode cX11_init 130 = .ok (.sipush 2460, 3) := by decide +kernel
theorem dX11_init_133 : decode cX11_init 133 = .ok (.newarray .int, 2) := by decide +kernel
theorem dX11_init_135 : decode cX11_init 135 = .ok (.putfield 60, 3) := by decide +kernel
theorem dX11_init_138 : decode cX11_init 138 = .ok (.aload_n 0, 1) := by decide +kernel
theorem dX11_init_139 : decode cX11_init 139 = .ok (.sipush 216, 3) := by decide +kernel
theorem dX11_init_142 : decode cX11_init 142 = .ok (.newarray .int, 2) := by decide +kernel
theorem dX11_init_144 : decode cX11_init 144 = .ok (.putfield 63, 3) := by decide +kernel
theorem dX11_init_147 : decode cX11_init 147 = .ok (.iconst 0, 1) := by decide +kernel
theorem dX11_init_148 : decode cX11_init 148 = .ok (.istore_n 1, 1) := by decide +kernel
theorem dX11_init_149 : decode cX11_init 149 = .ok (.iload_n 1, 1) := by decide +kernel
theorem dX11_init_150 : decode cX11_init 150 = .ok (.bipush 6, 2) := by decide +kernel
theorem dX11_init_152 : decode cX11_init 152 = .ok (.if_icmp .ge 16, 3) := by decide +kernel
theorem dX11_init_155 : decode cX11_init 155 = .ok (.aload_n 0, 1) := by decide +kernel
theorem dX11_init_156 : decode cX11_init 156 = .ok (.getfield 17, 3) := by decide +kernel
theorem dX11_init_159 : decode cX11_init 159 = .ok (.iload_n 1, 1) := by decide +kernel
theorem dX11_init_160 : decode cX11_init 160 = .ok (.iconst (-1), 1) := by decide +kernel
theorem dX11_init_161 : decode cX11_init 161 = .ok (.iastore, 1) := by decide +kernel
theorem dX11_init_162 : decode cX11_init 162 = .ok (.iinc 1 1, 3) := by decide +kernel
theorem dX11_init_165 : decode cX11_init 165 = .ok (.goto (-16), 3) := by decide +kernel
theorem dX11_init_168 : decode cX11_init 168 = .ok (.iconst 0, 1) := by decide +kernel
theorem dX11_init_169 : decode cX11_init 169 = .ok (.istore_n 1, 1) := by decide +kernel
theorem dX11_init_170 : decode cX11_init 170 = .ok (.iload_n 1, 1) := by decide +kernel
theorem dX11_init_171 : decode cX11_init 171 = .ok (.iconst 4, 1) := by decide +kernel
theorem dX11_init_172 : decode cX11_init 172 = .ok (.if_icmp .ge 16, 3) := by decide +kernel
theorem dX11_init_175 : decode cX11_init 175 = .ok (.aload_n 0, 1) := by decide +kernel
theorem dX11_init_176 : decode cX11_init 176 = .ok (.getfield 26, 3) := by decide +kernel
theorem dX11_init_179 : decode cX11_init 179 = .ok (.iload_n 1, 1) := by decide +kernel
theorem dX11_init_180 : decode cX11_init 180 = .ok (.iconst (-1), 1) := by decide +kernel
theorem dX11_init_181 : decode cX11_init 181 = .ok (.iastore, 1) := by decide +kernel
theorem dX11_init_182 : decode cX11_init 182 = .ok (.iinc 1 1, 3) := by decide +kernel
theorem dX11_init_185 : decode cX11_init 185 = .ok (.goto (-15), 3) := by decide +kernel
theorem dX11_init_188 : decode cX11_init 188 = .ok (.iconst 0, 1) := by decide +kernel
theorem dX11_init_189 : decode cX11_init 189 = .ok (.istore_n 1, 1) := by decide +kernel
theorem dX11_init_190 : decode cX11_init 190 = .ok (.iload_n 1, 1) := by decide +kernel
theorem dX11_init_191 : decode cX11_init 191 = .ok (.iconst 3, 1) := by decide +kernel
theorem dX11_init_192 : decode cX11_init 192 = .ok (.if_icmp .ge 16, 3) := by decide +kernel
theorem dX11_init_195 : decode cX11_init 195 = .ok (.aload_n 0, 1) := by decide +kernel
theorem dX11_init_196 : decode cX11_init 196 = .ok (.getfield 57, 3) := by decide +kernel
theorem dX11_init_199 : decode cX11_init 199 = .ok (.iload_n 1, 1) := by decide +kernel
theorem dX11_init_200 : decode cX11_init 200 = .ok (.iconst (-1), 1) := by decide +kernel
theorem dX11_init_201 : decode cX11_init 201 = .ok (.iastore, 1) := by decide +kernel
theorem dX11_init_202 : decode cX11_init 202 = .ok (.iinc 1 1, 3) := by decide +kernel
theorem dX11_init_205 : decode cX11_init 205 = .ok (.goto (-15), 3) := by decide +kernel
theorem dX11_init_208 : decode cX11_init 208 = .ok (.return_, 1) := by decide +kernel
theorem dX11_in_0 : decode cX11_in 0 = .ok (.iload_n 0, 1) := by decide +kernel
theorem dX11_in_1 : decode cX11_in 1 = .ok (.iload_n 1, 1) := by decide +kernel
theorem dX11_in_2 : decode cX11_in 2 = .ok (.if_icmp .lt 12, 3) := by decide +kernel
theorem dX11_in_5 : decode cX11_in 5 = .ok (.iload_n 0, 1) := by decide +kernel
theorem dX11_in_6 : decode cX11_in 6 = .ok (.iload_n 2, 1) := by decide +kernel
theorem dX11_in_7 : decode cX11_in 7 = .ok (.if_icmp .gt 7, 3) := by decide +kernel
theorem dX11_in_10 : decode cX11_in 10 = .ok (.iconst 1, 1) := by decide +kernel
theorem dX11_in_11 : decode cX11_in 11 = .ok (.goto 4, 3) := by decide +kernel
theorem dX11_in_14 : decode cX11_in 14 = .ok (.iconst 0, 1) := by decide +kernel
theorem dX11_in_15 : decode cX11_in 15 = .ok (.ireturn, 1) := by decide +kernel
theorem dX11_has_0 : decode cX11_has 0 = .ok (.iload_n 0, 1) := by decide +kernel
theorem dX11_has_1 : decode cX11_has 1 = .ok (.iload_n 1, 1) := by decide +kernel
theorem dX11_has_2 : decode cX11_has 2 = .ok (.ishr, 1) := by decide +kernel
theorem dX11_has_3 : decode cX11_has 3 = .ok (.iconst 1, 1) := by decide +kernel
theorem dX11_has_4 : decode cX11_has 4 = .ok (.iand, 1) := by decide +kernel
theorem dX11_has_5 : decode cX11_has 5 = .ok (.iconst 1, 1) := by decide +kernel
theorem dX11_has_6 : decode cX11_has 6 = .ok (.if_icmp .ne 7, 3) := by decide +kernel
theorem dX11_has_9 : decode cX11_has 9 = .ok (.iconst 1, 1) := by decide +kernel
theorem dX11_has_10 : decode cX11_has 10 = .ok (.goto 4, 3) := by decide +kernel
theorem dX11_has_13 : decode cX11_has 13 = .ok (.iconst 0, 1) := by decide +kernel
theorem dX11_has_14 : decode cX11_has 14 = .ok (.ireturn, 1) := by decide +kernel
theorem dX11_bits_0 : decode cX11_bits 0 = .ok (.iconst 0, 1) := by decide +kernel
theorem dX11_bits_1 : decode cX11_bits 1 = .ok (.istore_n 1, 1) := by decide +kernel
theorem dX11_bits_2 : decode cX11_bits 2 = .ok (.iload_n 0, 1) := by decide +kernel
theorem dX11_bits_3 : decode cX11_bits 3 = .ok (.istore_n 2, 1) := by decide +kernel
theorem dX11_bits_4 : decode cX11_bits 4 = .ok (.iload_n 2, 1) := by decide +kernel
theorem dX11_bits_5 : decode cX11_bits 5 = .ok (.ifCond .eq 15, 3) := by decide +kernel
theorem dX11_bits_8 : decode cX11_bits 8 = .ok (.iinc 1 1, 3) := by decide +kernel
theorem dX11_bits_11 : decode cX11_bits 11 = .ok (.iload_n 2, 1) := by decide +kernel
theorem dX11_bits_12 : decode cX11_bits 12 = .ok (.iload_n 2, 1) := by decide +kernel
theorem dX11_bits_13 : decode cX11_bits 13 = .ok (.iconst 1, 1) := by decide +kernel
theorem dX11_bits_14 : decode cX11_bits 14 = .ok (.isub, 1) := by decide +kernel
theorem dX11_bits_15 : decode cX11_bits 15 = .ok (.iand, 1) := by decide +kernel
theorem dX11_bits_16 : decode cX11_bits 16 = .ok (.istore_n 2, 1) := by decide +kernel
theorem dX11_bits_17 : decode cX11_bits 17 = .ok (.goto (-13), 3) := by decide +kernel
theorem dX11_bits_20 : decode cX11_bits 20 = .ok (.iload_n 1, 1) := by decide +kernel
theorem dX11_bits_21 : decode cX11_bits 21 = .ok (.ireturn, 1) := by decide +kernel
theorem dX11_found_0 : decode cX11_found 0 = .ok (.aload_n 0, 1) := by decide +kernel
theorem dX11_found_1 : decode cX11_found 1 = .ok (.iload_n 1, 1) := by decide +kernel
theorem dX11_found_2 : decode cX11_found 2 = .ok (.putfield 66, 3) := by decide +kernel
theorem dX11_found_5 : decode cX11_found 5 = .ok (.aload_n 0, 1) := by decide +kernel
theorem dX11_found_6 : decode cX11_found 6 = .ok (.getfield 13, 3) := by decide +kernel
theorem dX11_found_9 : decode cX11_found 9 = .ok (.iload_n 1, 1) := by decide +kernel
theorem dX11_found_10 : decode cX11_found 10 = .ok (.dup2, 1) := by decide +kernel
theorem dX11_found_11 : decode cX11_found 11 = .ok (.iaload, 1) := by decide +kernel
theorem dX11_found_12 : decode cX11_found 12 = .ok (.iconst 1, 1) := by decide +kernel
theorem dX11_found_13 : decode cX11_found 13 = .ok (.iadd, 1) := by decide +kernel
theorem dX11_found_14 : decode cX11_found 14 = .ok (.iastore, 1) := by decide +kernel
theorem dX11_found_15 : decode cX11_found 15 = .ok (.bipush (-3), 2) := by decide +kernel
theorem dX11_found_17 : decode cX11_found 17 = .ok (.ireturn, 1) := by decide +kernel
theorem dX11_tells_0 : decode cX11_tells 0 = .ok (.aload_n 0, 1) := by decide +kernel
theorem dX11_tells_1 : decode cX11_tells 1 = .ok (.iload_n 1, 1) := by decide +kernel
theorem dX11_tells_2 : decode cX11_tells 2 = .ok (.putfield 70, 3) := by decide +kernel
theorem dX11_tells_5 : decode cX11_tells 5 = .ok (.iload_n 2, 1) := by decide +kernel
theorem dX11_tells_6 : decode cX11_tells 6 = .ok (.ireturn, 1) := by decide +kernel
theorem dX11_asked_0 : decode cX11_asked 0 = .ok (.aload_n 0, 1) := by decide +kernel
theorem dX11_asked_1 : decode cX11_asked 1 = .ok (.getfield 70, 3) := by decide +kernel
theorem dX11_asked_4 : decode cX11_asked 4 = .ok (.ireturn, 1) := by decide +kernel
theorem dX11_upper_0 : decode cX11_upper 0 = .ok (.aload_n 0, 1) := by decide +kernel
theorem dX11_upper_1 : decode cX11_upper 1 = .ok (.getfield 73, 3) := by decide +kernel
theorem dX11_upper_4 : decode cX11_upper 4 = .ok (.lreturn, 1) := by decide +kernel
theorem dX11_lower_0 : decode cX11_lower 0 = .ok (.aload_n 0, 1) := by decide +kernel
theorem dX11_lower_1 : decode cX11_lower 1 = .ok (.getfield 7, 3) := by decide +kernel
theorem dX11_lower_4 : decode cX11_lower 4 = .ok (.lreturn, 1) := by decide +kernel
theorem dX11_lowest_0 : decode cX11_lowest 0 = .ok (.lload_n 1, 1) := by decide +kernel
theorem dX11_lowest_1 : decode cX11_lowest 1 = .ok (.lstore 6, 2) := by decide +kernel
theorem dX11_lowest_3 : decode cX11_lowest 3 = .ok (.lload_n 3, 1) := by decide +kernel
theorem dX11_lowest_4 : decode cX11_lowest 4 = .ok (.lstore 8, 2) := by decide +kernel
theorem dX11_lowest_6 : decode cX11_lowest 6 = .ok (.lload 8, 2) := by decide +kernel
theorem dX11_lowest_8 : decode cX11_lowest 8 = .ok (.lconst 0, 1) := by decide +kernel
theorem dX11_lowest_9 : decode cX11_lowest 9 = .ok (.lcmp, 1) := by decide +kernel
theorem dX11_lowest_10 : decode cX11_lowest 10 = .ok (.ifCond .eq 21, 3) := by decide +kernel
theorem dX11_lowest_13 : decode cX11_lowest 13 = .ok (.lload 6, 2) := by decide +kernel
theorem dX11_lowest_15 : decode cX11_lowest 15 = .ok (.lload 8, 2) := by decide +kernel
theorem dX11_lowest_17 : decode cX11_lowest 17 = .ok (.lrem, 1) := by decide +kernel
theorem dX11_lowest_18 : decode cX11_lowest 18 = .ok (.lstore 10, 2) := by decide +kernel
theorem dX11_lowest_20 : decode cX11_lowest 20 = .ok (.lload 8, 2) := by decide +kernel
theorem dX11_lowest_22 : decode cX11_lowest 22 = .ok (.lstore 6, 2) := by decide +kernel
theorem dX11_lowest_24 : decode cX11_lowest 24 = .ok (.lload 10, 2) := by decide +kernel
theorem dX11_lowest_26 : decode cX11_lowest 26 = .ok (.lstore 8, 2) := by decide +kernel
theorem dX11_lowest_28 : decode cX11_lowest 28 = .ok (.goto (-22), 3) := by decide +kernel
theorem dX11_lowest_31 : decode cX11_lowest 31 = .ok (.aload_n 0, 1) := by decide +kernel
theorem dX11_lowest_32 : decode cX11_lowest 32 = .ok (.lload_n 1, 1) := by decide +kernel
theorem dX11_lowest_33 : decode cX11_lowest 33 = .ok (.lload 6, 2) := by decide +kernel
theorem dX11_lowest_35 : decode cX11_lowest 35 = .ok (.ldiv, 1) := by decide +kernel
theorem dX11_lowest_36 : decode cX11_lowest 36 = .ok (.putfield 73, 3) := by decide +kernel
theorem dX11_lowest_39 : decode cX11_lowest 39 = .ok (.aload_n 0, 1) := by decide +kernel
theorem dX11_lowest_40 : decode cX11_lowest 40 = .ok (.lload_n 3, 1) := by decide +kernel
theorem dX11_lowest_41 : decode cX11_lowest 41 = .ok (.lload 6, 2) := by decide +kernel
theorem dX11_lowest_43 : decode cX11_lowest 43 = .ok (.ldiv, 1) := by decide +kernel
theorem dX11_lowest_44 : decode cX11_lowest 44 = .ok (.putfield 7, 3) := by decide +kernel
theorem dX11_lowest_47 : decode cX11_lowest 47 = .ok (.iload 5, 2) := by decide +kernel
theorem dX11_lowest_49 : decode cX11_lowest 49 = .ok (.ireturn, 1) := by decide +kernel
theorem dX11_finding_0 : decode cX11_finding 0 = .ok (.aload_n 0, 1) := by decide +kernel
theorem dX11_finding_1 : decode cX11_finding 1 = .ok (.getfield 66, 3) := by decide +kernel
theorem dX11_finding_4 : decode cX11_finding 4 = .ok (.ireturn, 1) := by decide +kernel
theorem dX11_findings_0 : decode cX11_findings 0 = .ok (.iload_n 1, 1) := by decide +kernel
theorem dX11_findings_1 : decode cX11_findings 1 = .ok (.iconst 1, 1) := by decide +kernel
theorem dX11_findings_2 : decode cX11_findings 2 = .ok (.iconst 5, 1) := by decide +kernel
theorem dX11_findings_3 : decode cX11_findings 3 = .ok (.invokestatic 76, 3) := by decide +kernel
theorem dX11_findings_6 : decode cX11_findings 6 = .ok (.ifCond .eq 12, 3) := by decide +kernel
theorem dX11_findings_9 : decode cX11_findings 9 = .ok (.aload_n 0, 1) := by decide +kernel
theorem dX11_findings_10 : decode cX11_findings 10 = .ok (.getfield 13, 3) := by decide +kernel
theorem dX11_findings_13 : decode cX11_findings 13 = .ok (.iload_n 1, 1) := by decide +kernel
theorem dX11_findings_14 : decode cX11_findings 14 = .ok (.iaload, 1) := by decide +kernel
theorem dX11_findings_15 : decode cX11_findings 15 = .ok (.goto 4, 3) := by decide +kernel
theorem dX11_findings_18 : decode cX11_findings 18 = .ok (.iconst (-1), 1) := by decide +kernel
theorem dX11_findings_19 : decode cX11_findings 19 = .ok (.ireturn, 1) := by decide +kernel
theorem dX11_isRow_0 : decode cX11_isRow 0 = .ok (.iload_n 0, 1) := by decide +kernel
theorem dX11_isRow_1 : decode cX11_isRow 1 = .ok (.iconst 0, 1) := by decide +kernel
theorem dX11_isRow_2 : decode cX11_isRow 2 = .ok (.iconst 5, 1) := by decide +kernel
theorem dX11_isRow_3 : decode cX11_isRow 3 = .ok (.invokestatic 76, 3) := by decide +kernel
theorem dX11_isRow_6 : decode cX11_isRow 6 = .ok (.ireturn, 1) := by decide +kernel
theorem dX11_rowAt_0 : decode cX11_rowAt 0 = .ok (.aload_n 0, 1) := by decide +kernel
theorem dX11_rowAt_1 : decode cX11_rowAt 1 = .ok (.getfield 20, 3) := by decide +kernel
theorem dX11_rowAt_4 : decode cX11_rowAt 4 = .ok (.bipush 40, 2) := by decide +kernel
theorem dX11_rowAt_6 : decode cX11_rowAt 6 = .ok (.iload_n 1, 1) := by decide +kernel
theorem dX11_rowAt_7 : decode cX11_rowAt 7 = .ok (.imul, 1) := by decide +kernel
theorem dX11_rowAt_8 : decode cX11_rowAt 8 = .ok (.iload_n 2, 1) := by decide +kernel
theorem dX11_rowAt_9 : decode cX11_rowAt 9 = .ok (.iadd, 1) := by decide +kernel
theorem dX11_rowAt_10 : decode cX11_rowAt 10 = .ok (.iaload, 1) := by decide +kernel
theorem dX11_rowAt_11 : decode cX11_rowAt 11 = .ok (.ireturn, 1) := by decide +kernel
theorem dX11_row_0 : decode cX11_row 0 = .ok (.iload_n 1, 1) := by decide +kernel
theorem dX11_row_1 : decode cX11_row 1 = .ok (.invokestatic 80, 3) := by decide +kernel
theorem dX11_row_4 : decode cX11_row 4 = .ok (.ifCond .eq 9, 3) := by decide +kernel
theorem dX11_row_7 : decode cX11_row 7 = .ok (.iload_n 2, 1) := by decide +kernel
theorem dX11_row_8 : decode cX11_row 8 = .ok (.bipush 40, 2) := by decide +kernel
theorem dX11_row_10 : decode cX11_row 10 = .ok (.if_icmp .le 5, 3) := by decide +kernel
theorem dX11_row_13 : decode cX11_row 13 = .ok (.iconst (-1), 1) := by decide +kernel
theorem dX11_row_14 : decode cX11_row 14 = .ok (.ireturn, 1) := by decide +kernel
theorem dX11_row_15 : decode cX11_row 15 = .ok (.iload_n 2, 1) := by decide +kernel
theorem dX11_row_16 : decode cX11_row 16 = .ok (.ifCond .ge 9, 3) := by decide +kernel
theorem dX11_row_19 : decode cX11_row 19 = .ok (.aload_n 0, 1) := by decide +kernel
theorem dX11_row_20 : decode cX11_row 20 = .ok (.iconst 5, 1) := by decide +kernel
theorem dX11_row_21 : decode cX11_row 21 = .ok (.invokevirtual 84, 3) := by decide +kernel
theorem dX11_row_24 : decode cX11_row 24 = .ok (.ireturn, 1) := by decide +kernel
theorem dX11_row_25 : decode cX11_row 25 = .ok (.aload_n 0, 1) := by decide +kernel
theorem dX11_row_26 : decode cX11_row 26 = .ok (.getfield 17, 3) := by decide +kernel
theorem dX11_row_29 : decode cX11_row 29 = .ok (.iload_n 1, 1) := by decide +kernel
theorem dX11_row_30 : decode cX11_row 30 = .ok (.iload_n 2, 1) := by decide +kernel
theorem dX11_row_31 : decode cX11_row 31 = .ok (.iastore, 1) := by decide +kernel
theorem dX11_row_32 : decode cX11_row 32 = .ok (.iconst 0, 1) := by decide +kernel
theorem dX11_row_33 : decode cX11_row 33 = .ok (.istore_n 3, 1) := by decide +kernel
theorem dX11_row_34 : decode cX11_row 34 = .ok (.iload_n 3, 1) := by decide +kernel
theorem dX11_row_35 : decode cX11_row 35 = .ok (.bipush 40, 2) := by decide +kernel
theorem dX11_row_37 : decode cX11_row 37 = .ok (.if_icmp .ge 21, 3) := by decide +kernel
theorem dX11_row_40 : decode cX11_row 40 = .ok (.aload_n 0, 1) := by decide +kernel
theorem dX11_row_41 : decode cX11_row 41 = .ok (.getfield 20, 3) := by decide +kernel
theorem dX11_row_44 : decode cX11_row 44 = .ok (.bipush 40, 2) := by decide +kernel
theorem dX11_row_46 : decode cX11_row 46 = .ok (.iload_n 1, 1) := by decide +kernel
theorem dX11_row_47 : decode cX11_row 47 = .ok (.imul, 1) := by decide +kernel
theorem dX11_row_48 : decode cX11_row 48 = .ok (.iload_n 3, 1) := by decide +kernel
theorem dX11_row_49 : decode cX11_row 49 = .ok (.iadd, 1) := by decide +kernel
theorem dX11_row_50 : decode cX11_row 50 = .ok (.iconst 0, 1) := by decide +kernel
theorem dX11_row_51 : decode cX11_row 51 = .ok (.iastore, 1) := by decide +kernel
theorem dX11_row_52 : decode cX11_row 52 = .ok (.iinc 3 1, 3) := by decide +kernel
theorem dX11_row_55 : decode cX11_row 55 = .ok (.goto (-21), 3) := by decide +kernel
theorem dX11_row_58 : decode cX11_row 58 = .ok (.iload_n 2, 1) := by decide +kernel
theorem dX11_row_59 : decode cX11_row 59 = .ok (.ireturn, 1) := by decide +kernel
theorem dX11_lay_0 : decode cX11_lay 0 = .ok (.iload_n 1, 1) := by decide +kernel
theorem dX11_lay_1 : decode cX11_lay 1 = .ok (.invokestatic 80, 3) := by decide +kernel
theorem dX11_lay_4 : decode cX11_lay 4 = .ok (.ifCond .ne 5, 3) := by decide +kernel
theorem dX11_lay_7 : decode cX11_lay 7 = .ok (.iconst (-1), 1) := by decide +kernel
theorem dX11_lay_8 : decode cX11_lay 8 = .ok (.ireturn, 1) := by decide +kernel
theorem dX11_lay_9 : decode cX11_lay 9 = .ok (.aload_n 0, 1) := by decide +kernel
theorem dX11_lay_10 : decode cX11_lay 10 = .ok (.getfield 17, 3) := by decide +kernel
theorem dX11_lay_13 : decode cX11_lay 13 = .ok (.iload_n 1, 1) := by decide +kernel
theorem dX11_lay_14 : decode cX11_lay 14 = .ok (.iaload, 1) := by decide +kernel
theorem dX11_lay_15 : decode cX11_lay 15 = .ok (.ifCond .ge 9, 3) := by decide +kernel
theorem dX11_lay_18 : decode cX11_lay 18 = .ok (.aload_n 0, 1) := by decide +kernel
theorem dX11_lay_19 : decode cX11_lay 19 = .ok (.iconst 1, 1) := by decide +kernel
theorem dX11_lay_20 : decode cX11_lay 20 = .ok (.invokevirtual 84, 3) := by decide +kernel
theorem dX11_lay_23 : decode cX11_lay 23 = .ok (.ireturn, 1) := by decide +kernel
theorem dX11_lay_24 : decode cX11_lay 24 = .ok (.iload_n 2, 1) := by decide +kernel
theorem dX11_lay_25 : decode cX11_lay 25 = .ok (.iconst 0, 1) := by decide +kernel
theorem dX11_lay_26 : decode cX11_lay 26 = .ok (.aload_n 0, 1) := by decide +kernel
theorem dX11_lay_27 : decode cX11_lay 27 = .ok (.getfield 17, 3) := by decide +kernel
theorem dX11_lay_30 : decode cX11_lay 30 = .ok (.iload_n 1, 1) := by decide +kernel
theorem dX11_lay_31 : decode cX11_lay 31 = .ok (.iaload, 1) := by decide +kernel
theorem dX11_lay_32 : decode cX11_lay 32 = .ok (.iconst 1, 1) := by decide +kernel
theorem dX11_lay_33 : decode cX11_lay 33 = .ok (.isub, 1) := by decide +kernel
theorem dX11_lay_34 : decode cX11_lay 34 = .ok (.invokestatic 76, 3) := by decide +kernel
theorem dX11_lay_37 : decode cX11_lay 37 = .ok (.ifCond .ne 9, 3) := by decide +kernel
theorem dX11_lay_40 : decode cX11_lay 40 = .ok (.aload_n 0, 1) := by decide +kernel
theorem dX11_lay_41 : decode cX11_lay 41 = .ok (.iconst 2, 1) := by decide +kernel
theorem dX11_lay_42 : decode cX11_lay 42 = .ok (.invokevirtual 84, 3) := by decide +kernel
theorem dX11_lay_45 : decode cX11_lay 45 = .ok (.ireturn, 1) := by decide +kernel
theorem dX11_lay_46 : decode cX11_lay 46 = .ok (.aload_n 0, 1) := by decide +kernel
theorem dX11_lay_47 : decode cX11_lay 47 = .ok (.iload_n 1, 1) := by decide +kernel
theorem dX11_lay_48 : decode cX11_lay 48 = .ok (.iload_n 2, 1) := by decide +kernel
theorem dX11_lay_49 : decode cX11_lay 49 = .ok (.invokevirtual 88, 3) := by decide +kernel
theorem dX11_lay_52 : decode cX11_lay 52 = .ok (.istore 4, 2) := by decide +kernel
theorem dX11_lay_54 : decode cX11_lay 54 = .ok (.aload_n 0, 1) := by decide +kernel
theorem dX11_lay_55 : decode cX11_lay 55 = .ok (.getfield 20, 3) := by decide +kernel
theorem dX11_lay_58 : decode cX11_lay 58 = .ok (.bipush 40, 2) := by decide +kernel
theorem dX11_lay_60 : decode cX11_lay 60 = .ok (.iload_n 1, 1) := by decide +kernel
theorem dX11_lay_61 : decode cX11_lay 61 = .ok (.imul, 1) := by decide +kernel
theorem dX11_lay_62 : decode cX11_lay 62 = .ok (.iload_n 2, 1) := by decide +kernel
theorem dX11_lay_63 : decode cX11_lay 63 = .ok (.iadd, 1) := by decide +kernel
theorem dX11_lay_64 : decode cX11_lay 64 = .ok (.iload_n 3, 1) := by decide +kernel
theorem dX11_lay_65 : decode cX11_lay 65 = .ok (.iastore, 1) := by decide +kernel
theorem dX11_lay_66 : decode cX11_lay 66 = .ok (.aload_n 0, 1) := by decide +kernel
theorem dX11_lay_67 : decode cX11_lay 67 = .ok (.iload 4, 2) := by decide +kernel
theorem dX11_lay_69 : decode cX11_lay 69 = .ok (.iconst 1, 1) := by decide +kernel
theorem dX11_lay_70 : decode cX11_lay 70 = .ok (.invokevirtual 92, 3) := by decide +kernel
theorem dX11_lay_73 : decode cX11_lay 73 = .ok (.ireturn, 1) := by decide +kernel
theorem dX11_at_0 : decode cX11_at 0 = .ok (.iload_n 1, 1) := by decide +kernel
theorem dX11_at_1 : decode cX11_at 1 = .ok (.invokestatic 80, 3) := by decide +kernel
theorem dX11_at_4 : decode cX11_at 4 = .ok (.ifCond .ne 5, 3) := by decide +kernel
theorem dX11_at_7 : decode cX11_at 7 = .ok (.iconst (-1), 1) := by decide +kernel
theorem dX11_at_8 : decode cX11_at 8 = .ok (.ireturn, 1) := by decide +kernel
theorem dX11_at_9 : decode cX11_at 9 = .ok (.aload_n 0, 1) := by decide +kernel
theorem dX11_at_10 : decode cX11_at 10 = .ok (.getfield 17, 3) := by decide +kernel
theorem dX11_at_13 : decode cX11_at 13 = .ok (.iload_n 1, 1) := by decide +kernel
theorem dX11_at_14 : decode cX11_at 14 = .ok (.iaload, 1) := by decide +kernel
theorem dX11_at_15 : decode cX11_at 15 = .ok (.ifCond .ge 9, 3) := by decide +kernel
theorem dX11_at_18 : decode cX11_at 18 = .ok (.aload_n 0, 1) := by decide +kernel
theorem dX11_at_19 : decode cX11_at 19 = .ok (.iconst 1, 1) := by decide +kernel
theorem dX11_at_20 : decode cX11_at 20 = .ok (.invokevirtual 84, 3) := by decide +kernel
theorem dX11_at_23 : decode cX11_at 23 = .ok (.ireturn, 1) := by decide +kernel
theorem dX11_at_24 : decode cX11_at 24 = .ok (.iload_n 2, 1) := by decide +kernel
theorem dX11_at_25 : decode cX11_at 25 = .ok (.iconst 0, 1) := by decide +kernel
theorem dX11_at_26 : decode cX11_at 26 = .ok (.aload_n 0, 1) := by decide +kernel
theorem dX11_at_27 : decode cX11_at 27 = .ok (.getfield 17, 3) := by decide +kernel
theorem dX11_at_30 : decode cX11_at 30 = .ok (.iload_n 1, 1) := by decide +kernel
theorem dX11_at_31 : decode cX11_at 31 = .ok (.iaload, 1) := by decide +kernel
theorem dX11_at_32 : decode cX11_at 32 = .ok (.iconst 1, 1) := by decide +kernel
theorem dX11_at_33 : decode cX11_at 33 = .ok (.isub, 1) := by decide +kernel
theorem dX11_at_34 : decode cX11_at 34 = .ok (.invokestatic 76, 3) := by decide +kernel
theorem dX11_at_37 : decode cX11_at 37 = .ok (.ifCond .eq 17, 3) := by decide +kernel
theorem dX11_at_40 : decode cX11_at 40 = .ok (.aload_n 0, 1) := by decide +kernel
theorem dX11_at_41 : decode cX11_at 41 = .ok (.aload_n 0, 1) := by decide +kernel
theorem dX11_at_42 : decode cX11_at 42 = .ok (.iload_n 1, 1) := by decide +kernel
theorem dX11_at_43 : decode cX11_at 43 = .ok (.iload_n 2, 1) := by decide +kernel
theorem dX11_at_44 : decode cX11_at 44 = .ok (.invokevirtual 88, 3) := by decide +kernel
theorem dX11_at_47 : decode cX11_at 47 = .ok (.iconst 1, 1) := by decide +kernel
theorem dX11_at_48 : decode cX11_at 48 = .ok (.invokevirtual 92, 3) := by decide +kernel
theorem dX11_at_51 : decode cX11_at 51 = .ok (.goto 8, 3) := by decide +kernel
theorem dX11_at_54 : decode cX11_at 54 = .ok (.aload_n 0, 1) := by decide +kernel
theorem dX11_at_55 : decode cX11_at 55 = .ok (.iconst 2, 1) := by decide +kernel
theorem dX11_at_56 : decode cX11_at 56 = .ok (.invokevirtual 84, 3) := by decide +kernel
theorem dX11_at_59 : decode cX11_at 59 = .ok (.ireturn, 1) := by decide +kernel
theorem dX11_tear_0 : decode cX11_tear 0 = .ok (.iload_n 1, 1) := by decide +kernel
theorem dX11_tear_1 : decode cX11_tear 1 = .ok (.invokestatic 80, 3) := by decide +kernel
theorem dX11_tear_4 : decode cX11_tear 4 = .ok (.ifCond .ne 5, 3) := by decide +kernel
theorem dX11_tear_7 : decode cX11_tear 7 = .ok (.iconst (-1), 1) := by decide +kernel
theorem dX11_tear_8 : decode cX11_tear 8 = .ok (.ireturn, 1) := by decide +kernel
theorem dX11_tear_9 : decode cX11_tear 9 = .ok (.aload_n 0, 1) := by decide +kernel
theorem dX11_tear_10 : decode cX11_tear 10 = .ok (.getfield 17, 3) := by decide +kernel
theorem dX11_tear_13 : decode cX11_tear 13 = .ok (.iload_n 1, 1) := by decide +kernel
theorem dX11_tear_14 : decode cX11_tear 14 = .ok (.iaload, 1) := by decide +kernel
theorem dX11_tear_15 : decode cX11_tear 15 = .ok (.ifCond .ge 9, 3) := by decide +kernel
theorem dX11_tear_18 : decode cX11_tear 18 = .ok (.aload_n 0, 1) := by decide +kernel
theorem dX11_tear_19 : decode cX11_tear 19 = .ok (.iconst 1, 1) := by decide +kernel
theorem dX11_tear_20 : decode cX11_tear 20 = .ok (.invokevirtual 84, 3) := by decide +kernel
theorem dX11_tear_23 : decode cX11_tear 23 = .ok (.ireturn, 1) := by decide +kernel
theorem dX11_tear_24 : decode cX11_tear 24 = .ok (.aload_n 0, 1) := by decide +kernel
theorem dX11_tear_25 : decode cX11_tear 25 = .ok (.getfield 17, 3) := by decide +kernel
theorem dX11_tear_28 : decode cX11_tear 28 = .ok (.iload_n 1, 1) := by decide +kernel
theorem dX11_tear_29 : decode cX11_tear 29 = .ok (.iconst (-1), 1) := by decide +kernel
theorem dX11_tear_30 : decode cX11_tear 30 = .ok (.iastore, 1) := by decide +kernel
theorem dX11_tear_31 : decode cX11_tear 31 = .ok (.iconst 1, 1) := by decide +kernel
theorem dX11_tear_32 : decode cX11_tear 32 = .ok (.ireturn, 1) := by decide +kernel
theorem dX11_copy_0 : decode cX11_copy 0 = .ok (.iload_n 1, 1) := by decide +kernel
theorem dX11_copy_1 : decode cX11_copy 1 = .ok (.invokestatic 80, 3) := by decide +kernel
theorem dX11_copy_4 : decode cX11_copy 4 = .ok (.ifCond .eq 10, 3) := by decide +kernel
theorem dX11_copy_7 : decode cX11_copy 7 = .ok (.iload_n 3, 1) := by decide +kernel
theorem dX11_copy_8 : decode cX11_copy 8 = .ok (.invokestatic 80, 3) := by decide +kernel
theorem dX11_copy_11 : decode cX11_copy 11 = .ok (.ifCond .ne 5, 3) := by decide +kernel
theorem dX11_copy_14 : decode cX11_copy 14 = .ok (.iconst (-1), 1) := by decide +kernel
theorem dX11_copy_15 : decode cX11_copy 15 = .ok (.ireturn, 1) := by decide +kernel
theorem dX11_copy_16 : decode cX11_copy 16 = .ok (.iload 5, 2) := by decide +kernel
theorem dX11_copy_18 : decode cX11_copy 18 = .ok (.ifCond .ge 9, 3) := by decide +kernel
theorem dX11_copy_21 : decode cX11_copy 21 = .ok (.aload_n 0, 1) := by decide +kernel
theorem dX11_copy_22 : decode cX11_copy 22 = .ok (.iconst 5, 1) := by decide +kernel
theorem dX11_copy_23 : decode cX11_copy 23 = .ok (.invokevirtual 84, 3) := by decide +kernel
theorem dX11_copy_26 : decode cX11_copy 26 = .ok (.ireturn, 1) := by decide +kernel
theorem dX11_copy_27 : decode cX11_copy 27 = .ok (.aload_n 0, 1) := by decide +kernel
theorem dX11_copy_28 : decode cX11_copy 28 = .ok (.getfield 17, 3) := by decide +kernel
theorem dX11_copy_31 : decode cX11_copy 31 = .ok (.iload_n 1, 1) := by decide +kernel
theorem dX11_copy_32 : decode cX11_copy 32 = .ok (.iaload, 1) := by decide +kernel
theorem dX11_copy_33 : decode cX11_copy 33 = .ok (.ifCond .lt 12, 3) := by decide +kernel
theorem dX11_copy_36 : decode cX11_copy 36 = .ok (.aload_n 0, 1) := by decide +kernel
theorem dX11_copy_37 : decode cX11_copy 37 = .ok (.getfield 17, 3) := by decide +kernel
theorem dX11_copy_40 : decode cX11_copy 40 = .ok (.iload_n 3, 1) := by decide +kernel
theorem dX11_copy_41 : decode cX11_copy 41 = .ok (.iaload, 1) := by decide +kernel
theorem dX11_copy_42 : decode cX11_copy 42 = .ok (.ifCond .ge 9, 3) := by decide +kernel
theorem dX11_copy_45 : decode cX11_copy 45 = .ok (.aload_n 0, 1) := by decide +kernel
theorem dX11_copy_46 : decode cX11_copy 46 = .ok (.iconst 1, 1) := by decide +kernel
theorem dX11_copy_47 : decode cX11_copy 47 = .ok (.invokevirtual 84, 3) := by decide +kernel
theorem dX11_copy_50 : decode cX11_copy 50 = .ok (.ireturn, 1) := by decide +kernel
theorem dX11_copy_51 : decode cX11_copy 51 = .ok (.iload_n 2, 1) := by decide +kernel
theorem dX11_copy_52 : decode cX11_copy 52 = .ok (.ifCond .lt 43, 3) := by decide +kernel
theorem dX11_copy_55 : decode cX11_copy 55 = .ok (.iload 4, 2) := by decide +kernel
theorem dX11_copy_57 : decode cX11_copy 57 = .ok (.ifCond .lt 38, 3) := by decide +kernel
theorem dX11_copy_60 : decode cX11_copy 60 = .ok (.iload_n 2, 1) := by decide +kernel
theorem dX11_copy_61 : decode cX11_copy 61 = .ok (.i2l, 1) := by decide +kernel
theorem dX11_copy_62 : decode cX11_copy 62 = .ok (.iload 5, 2) := by decide +kernel
theorem dX11_copy_64 : decode cX11_copy 64 = .ok (.i2l, 1) := by decide +kernel
theorem dX11_copy_65 : decode cX11_copy 65 = .ok (.ladd, 1) := by decide +kernel
theorem dX11_copy_66 : decode cX11_copy 66 = .ok (.aload_n 0, 1) := by decide +kernel
theorem dX11_copy_67 : decode cX11_copy 67 = .ok (.getfield 17, 3) := by decide +kernel
theorem dX11_copy_70 : decode cX11_copy 70 = .ok (.iload_n 1, 1) := by decide +kernel
theorem dX11_copy_71 : decode cX11_copy 71 = .ok (.iaload, 1) := by decide +kernel
theorem dX11_copy_72 : decode cX11_copy 72 = .ok (.i2l, 1) := by decide +kernel
theorem dX11_copy_73 : decode cX11_copy 73 = .ok (.lcmp, 1) := by decide +kernel
theorem dX11_copy_74 : decode cX11_copy 74 = .ok (.ifCond .gt 21, 3) := by decide +kernel
theorem dX11_copy_77 : decode cX11_copy 77 = .ok (.iload 4, 2) := by decide +kernel
theorem dX11_copy_79 : decode cX11_copy 79 = .ok (.i2l, 1) := by decide +kernel
theorem dX11_copy_80 : decode cX11_copy 80 = .ok (.iload 5, 2) := by decide +kernel
theorem dX11_copy_82 : decode cX11_copy 82 = .ok (.i2l, 1) := by decide +kernel
theorem dX11_copy_83 : decode cX11_copy 83 = .ok (.ladd, 1) := by decide +kernel
theorem dX11_copy_84 : decode cX11_copy 84 = .ok (.aload_n 0, 1) := by decide +kernel
theorem dX11_copy_85 : decode cX11_copy 85 = .ok (.getfield 17, 3) := by decide +kernel
theorem dX11_copy_88 : decode cX11_copy 88 = .ok (.iload_n 3, 1) := by decide +kernel
theorem dX11_copy_89 : decode cX11_copy 89 = .ok (.iaload, 1) := by decide +kernel
theorem dX11_copy_90 : decode cX11_copy 90 = .ok (.i2l, 1) := by decide +kernel
theorem dX11_copy_91 : decode cX11_copy 91 = .ok (.lcmp, 1) := by decide +kernel
theorem dX11_copy_92 : decode cX11_copy 92 = .ok (.ifCond .le 9, 3) := by decide +kernel
theorem dX11_copy_95 : decode cX11_copy 95 = .ok (.aload_n 0, 1) := by decide +kernel
theorem dX11_copy_96 : decode cX11_copy 96 = .ok (.iconst 2, 1) := by decide +kernel
theorem dX11_copy_97 : decode cX11_copy 97 = .ok (.invokevirtual 84, 3) := by decide +kernel
theorem dX11_copy_100 : decode cX11_copy 100 = .ok (.ireturn, 1) := by decide +kernel
theorem dX11_copy_101 : decode cX11_copy 101 = .ok (.iconst 0, 1) := by decide +kernel
theorem dX11_copy_102 : decode cX11_copy 102 = .ok (.istore 6, 2) := by decide +kernel
theorem dX11_copy_104 : decode cX11_copy 104 = .ok (.iload 6, 2) := by decide +kernel
theorem dX11_copy_106 : decode cX11_copy 106 = .ok (.iload 5, 2) := by decide +kernel
theorem dX11_copy_108 : decode cX11_copy 108 = .ok (.if_icmp .ge 25, 3) := by decide +kernel
theorem dX11_copy_111 : decode cX11_copy 111 = .ok (.aload_n 0, 1) := by decide +kernel
theorem dX11_copy_112 : decode cX11_copy 112 = .ok (.getfield 23, 3) := by decide +kernel
theorem dX11_copy_115 : decode cX11_copy 115 = .ok (.iload 6, 2) := by decide +kernel
theorem dX11_copy_117 : decode cX11_copy 117 = .ok (.aload_n 0, 1) := by decide +kernel
theorem dX11_copy_118 : decode cX11_copy 118 = .ok (.iload_n 1, 1) := by decide +kernel
theorem dX11_copy_119 : decode cX11_copy 119 = .ok (.iload_n 2, 1) := by decide +kernel
theorem dX11_copy_120 : decode cX11_copy 120 = .ok (.iload 6, 2) := by decide +kernel
theorem dX11_copy_122 : decode cX11_copy 122 = .ok (.iadd, 1) := by decide +kernel
theorem dX11_copy_123 : decode cX11_copy 123 = .ok (.invokevirtual 88, 3) := by decide +kernel
theorem dX11_copy_126 : decode cX11_copy 126 = .ok (.iastore, 1) := by decide +kernel
theorem dX11_copy_127 : decode cX11_copy 127 = .ok (.iinc 6 1, 3) := by decide +kernel
theorem dX11_copy_130 : decode cX11_copy 130 = .ok (.goto (-26), 3) := by decide +kernel
theorem dX11_copy_133 : decode cX11_copy 133 = .ok (.iconst 0, 1) := by decide +kernel
theorem dX11_copy_134 : decode cX11_copy 134 = .ok (.istore 6, 2) := by decide +kernel
theorem dX11_copy_136 : decode cX11_copy 136 = .ok (.iload 6, 2) := by decide +kernel
theorem dX11_copy_138 : decode cX11_copy 138 = .ok (.iload 5, 2) := by decide +kernel
theorem dX11_copy_140 : decode cX11_copy 140 = .ok (.if_icmp .ge 31, 3) := by decide +kernel
theorem dX11_copy_143 : decode cX11_copy 143 = .ok (.aload_n 0, 1) := by decide +kernel
theorem dX11_copy_144 : decode cX11_copy 144 = .ok (.getfield 20, 3) := by decide +kernel
theorem dX11_copy_147 : decode cX11_copy 147 = .ok (.bipush 40, 2) := by decide +kernel
theorem dX11_copy_149 : decode cX11_copy 149 = .ok (.iload_n 3, 1) := by decide +kernel
theorem dX11_copy_150 : decode cX11_copy 150 = .ok (.imul, 1) := by decide +kernel
theorem dX11_copy_151 : decode cX11_copy 151 = .ok (.iload 4, 2) := by decide +kernel
theorem dX11_copy_153 : decode cX11_copy 153 = .ok (.iadd, 1) := by decide +kernel
theorem dX11_copy_154 : decode cX11_copy 154 = .ok (.iload 6, 2) := by decide +kernel
theorem dX11_copy_156 : decode cX11_copy 156 = .ok (.iadd, 1) := by decide +kernel
theorem dX11_copy_157 : decode cX11_copy 157 = .ok (.aload_n 0, 1) := by decide +kernel
theorem dX11_copy_158 : decode cX11_copy 158 = .ok (.getfield 23, 3) := by decide +kernel
theorem dX11_copy_161 : decode cX11_copy 161 = .ok (.iload 6, 2) := by decide +kernel
theorem dX11_copy_163 : decode cX11_copy 163 = .ok (.iaload, 1) := by decide +kernel
theorem dX11_copy_164 : decode cX11_copy 164 = .ok (.iastore, 1) := by decide +kernel
theorem dX11_copy_165 : decode cX11_copy 165 = .ok (.iinc 6 1, 3) := by decide +kernel
theorem dX11_copy_168 : decode cX11_copy 168 = .ok (.goto (-32), 3) := by decide +kernel
theorem dX11_copy_171 : decode cX11_copy 171 = .ok (.iconst 1, 1) := by decide +kernel
theorem dX11_copy_172 : decode cX11_copy 172 = .ok (.ireturn, 1) := by decide +kernel
theorem dX11_mean_0 : decode cX11_mean 0 = .ok (.iload_n 1, 1) := by decide +kernel
theorem dX11_mean_1 : decode cX11_mean 1 = .ok (.invokestatic 80, 3) := by decide +kernel
theorem dX11_mean_4 : decode cX11_mean 4 = .ok (.ifCond .ne 5, 3) := by decide +kernel
theorem dX11_mean_7 : decode cX11_mean 7 = .ok (.iconst (-1), 1) := by decide +kernel
theorem dX11_mean_8 : decode cX11_mean 8 = .ok (.ireturn, 1) := by decide +kernel
theorem dX11_mean_9 : decode cX11_mean 9 = .ok (.aload_n 0, 1) := by decide +kernel
theorem dX11_mean_10 : decode cX11_mean 10 = .ok (.getfield 17, 3) := by decide +kernel
theorem dX11_mean_13 : decode cX11_mean 13 = .ok (.iload_n 1, 1) := by decide +kernel
theorem dX11_mean_14 : decode cX11_mean 14 = .ok (.iaload, 1) := by decide +kernel
theorem dX11_mean_15 : decode cX11_mean 15 = .ok (.ifCond .ge 9, 3) := by decide +kernel
theorem dX11_mean_18 : decode cX11_mean 18 = .ok (.aload_n 0, 1) := by decide +kernel
theorem dX11_mean_19 : decode cX11_mean 19 = .ok (.iconst 1, 1) := by decide +kernel
theorem dX11_mean_20 : decode cX11_mean 20 = .ok (.invokevirtual 84, 3) := by decide +kernel
theorem dX11_mean_23 : decode cX11_mean 23 = .ok (.ireturn, 1) := by decide +kernel
theorem dX11_mean_24 : decode cX11_mean 24 = .ok (.aload_n 0, 1) := by decide +kernel
theorem dX11_mean_25 : decode cX11_mean 25 = .ok (.getfield 17, 3) := by decide +kernel
theorem dX11_mean_28 : decode cX11_mean 28 = .ok (.iload_n 1, 1) := by decide +kernel
theorem dX11_mean_29 : decode cX11_mean 29 = .ok (.iaload, 1) := by decide +kernel
theorem dX11_mean_30 : decode cX11_mean 30 = .ok (.ifCond .ne 9, 3) := by decide +kernel
theorem dX11_mean_33 : decode cX11_mean 33 = .ok (.aload_n 0, 1) := by decide +kernel
theorem dX11_mean_34 : decode cX11_mean 34 = .ok (.iconst 4, 1) := by decide +kernel
theorem dX11_mean_35 : decode cX11_mean 35 = .ok (.invokevirtual 84, 3) := by decide +kernel
theorem dX11_mean_38 : decode cX11_mean 38 = .ok (.ireturn, 1) := by decide +kernel
theorem dX11_mean_39 : decode cX11_mean 39 = .ok (.lconst 0, 1) := by decide +kernel
theorem dX11_mean_40 : decode cX11_mean 40 = .ok (.lstore_n 2, 1) := by decide +kernel
theorem dX11_mean_41 : decode cX11_mean 41 = .ok (.iconst 0, 1) := by decide +kernel
theorem dX11_mean_42 : decode cX11_mean 42 = .ok (.istore 4, 2) := by decide +kernel
theorem dX11_mean_44 : decode cX11_mean 44 = .ok (.iload 4, 2) := by decide +kernel
theorem dX11_mean_46 : decode cX11_mean 46 = .ok (.aload_n 0, 1) := by decide +kernel
theorem dX11_mean_47 : decode cX11_mean 47 = .ok (.getfield 17, 3) := by decide +kernel
theorem dX11_mean_50 : decode cX11_mean 50 = .ok (.iload_n 1, 1) := by decide +kernel
theorem dX11_mean_51 : decode cX11_mean 51 = .ok (.iaload, 1) := by decide +kernel
theorem dX11_mean_52 : decode cX11_mean 52 = .ok (.if_icmp .ge 20, 3) := by decide +kernel
theorem dX11_mean_55 : decode cX11_mean 55 = .ok (.lload_n 2, 1) := by decide +kernel
theorem dX11_mean_56 : decode cX11_mean 56 = .ok (.aload_n 0, 1) := by decide +kernel
theorem dX11_mean_57 : decode cX11_mean 57 = .ok (.iload_n 1, 1) := by decide +kernel
theorem dX11_mean_58 : decode cX11_mean 58 = .ok (.iload 4, 2) := by decide +kernel
theorem dX11_mean_60 : decode cX11_mean 60 = .ok (.invokevirtual 88, 3) := by decide +kernel
theorem dX11_mean_63 : decode cX11_mean 63 = .ok (.i2l, 1) := by decide +kernel
theorem dX11_mean_64 : decode cX11_mean 64 = .ok (.ladd, 1) := by decide +kernel
theorem dX11_mean_65 : decode cX11_mean 65 = .ok (.lstore_n 2, 1) := by decide +kernel
theorem dX11_mean_66 : decode cX11_mean 66 = .ok (.iinc 4 1, 3) := by decide +kernel
theorem dX11_mean_69 : decode cX11_mean 69 = .ok (.goto (-25), 3) := by decide +kernel
theorem dX11_mean_72 : decode cX11_mean 72 = .ok (.aload_n 0, 1) := by decide +kernel
theorem dX11_mean_73 : decode cX11_mean 73 = .ok (.lload_n 2, 1) := by decide +kernel
theorem dX11_mean_74 : decode cX11_mean 74 = .ok (.aload_n 0, 1) := by decide +kernel
theorem dX11_mean_75 : decode cX11_mean 75 = .ok (.getfield 17, 3) := by decide +kernel
theorem dX11_mean_78 : decode cX11_mean 78 = .ok (.iload_n 1, 1) := by decide +kernel
theorem dX11_mean_79 : decode cX11_mean 79 = .ok (.iaload, 1) := by decide +kernel
theorem dX11_mean_80 : decode cX11_mean 80 = .ok (.i2l, 1) := by decide +kernel
theorem dX11_mean_81 : decode cX11_mean 81 = .ok (.ldiv, 1) := by decide +kernel
theorem dX11_mean_82 : decode cX11_mean 82 = .ok (.l2i, 1) := by decide +kernel
theorem dX11_mean_83 : decode cX11_mean 83 = .ok (.iconst 1, 1) := by decide +kernel
theorem dX11_mean_84 : decode cX11_mean 84 = .ok (.invokevirtual 92, 3) := by decide +kernel
theorem dX11_mean_87 : decode cX11_mean 87 = .ok (.ireturn, 1) := by decide +kernel
theorem dX11_isText_0 : decode cX11_isText 0 = .ok (.iload_n 0, 1) := by decide +kernel
theorem dX11_isText_1 : decode cX11_isText 1 = .ok (.iconst 0, 1) := by decide +kernel
theorem dX11_isText_2 : decode cX11_isText 2 = .ok (.iconst 3, 1) := by decide +kernel
theorem dX11_isText_3 : decode cX11_isText 3 = .ok (.invokestatic 76, 3) := by decide +kernel
theorem dX11_isText_6 : decode cX11_isText 6 = .ok (.ireturn, 1) := by decide +kernel
theorem dX11_text_0 : decode cX11_text 0 = .ok (.iload_n 1, 1) := by decide +kernel
theorem dX11_text_1 : decode cX11_text 1 = .ok (.invokestatic 95, 3) := by decide +kernel
theorem dX11_text_4 : decode cX11_text 4 = .ok (.ifCond .eq 9, 3) := by decide +kernel
theorem dX11_text_7 : decode cX11_text 7 = .ok (.iload_n 2, 1) := by decide +kernel
theorem dX11_text_8 : decode cX11_text 8 = .ok (.bipush 60, 2) := by decide +kernel
theorem dX11_text_10 : decode cX11_text 10 = .ok (.if_icmp .le 5, 3) := by decide +kernel
theorem dX11_text_13 : decode cX11_text 13 = .ok (.iconst (-1), 1) := by decide +kernel
theorem dX11_text_14 : decode cX11_text 14 = .ok (.ireturn, 1) := by decide +kernel
theorem dX11_text_15 : decode cX11_text 15 = .ok (.iload_n 2, 1) := by decide +kernel
theorem dX11_text_16 : decode cX11_text 16 = .ok (.ifCond .ge 9, 3) := by decide +kernel
theorem dX11_text_19 : decode cX11_text 19 = .ok (.aload_n 0, 1) := by decide +kernel
theorem dX11_text_20 : decode cX11_text 20 = .ok (.iconst 5, 1) := by decide +kernel
theorem dX11_text_21 : decode cX11_text 21 = .ok (.invokevirtual 84, 3) := by decide +kernel
theorem dX11_text_24 : decode cX11_text 24 = .ok (.ireturn, 1) := by decide +kernel
theorem dX11_text_25 : decode cX11_text 25 = .ok (.aload_n 0, 1) := by decide +kernel
theorem dX11_text_26 : decode cX11_text 26 = .ok (.getfield 26, 3) := by decide +kernel
theorem dX11_text_29 : decode cX11_text 29 = .ok (.iload_n 1, 1) := by decide +kernel
theorem dX11_text_30 : decode cX11_text 30 = .ok (.iload_n 2, 1) := by decide +kernel
theorem dX11_text_31 : decode cX11_text 31 = .ok (.iastore, 1) := by decide +kernel
theorem dX11_text_32 : decode cX11_text 32 = .ok (.iconst 0, 1) := by decide +kernel
theorem dX11_text_33 : decode cX11_text 33 = .ok (.istore_n 3, 1) := by decide +kernel
theorem dX11_text_34 : decode cX11_text 34 = .ok (.iload_n 3, 1) := by decide +kernel
theorem dX11_text_35 : decode cX11_text 35 = .ok (.bipush 60, 2) := by decide +kernel
theorem dX11_text_37 : decode cX11_text 37 = .ok (.if_icmp .ge 22, 3) := by decide +kernel
theorem dX11_text_40 : decode cX11_text 40 = .ok (.aload_n 0, 1) := by decide +kernel
theorem dX11_text_41 : decode cX11_text 41 = .ok (.getfield 29, 3) := by decide +kernel
theorem dX11_text_44 : decode cX11_text 44 = .ok (.bipush 60, 2) := by decide +kernel
theorem dX11_text_46 : decode cX11_text 46 = .ok (.iload_n 1, 1) := by decide +kernel
theorem dX11_text_47 : decode cX11_text 47 = .ok (.imul, 1) := by decide +kernel
theorem dX11_text_48 : decode cX11_text 48 = .ok (.iload_n 3, 1) := by decide +kernel
theorem dX11_text_49 : decode cX11_text 49 = .ok (.iadd, 1) := by decide +kernel
theorem dX11_text_50 : decode cX11_text 50 = .ok (.bipush 32, 2) := by decide +kernel
theorem dX11_text_52 : decode cX11_text 52 = .ok (.bastore, 1) := by decide +kernel
theorem dX11_text_53 : decode cX11_text 53 = .ok (.iinc 3 1, 3) := by decide +kernel
theorem dX11_text_56 : decode cX11_text 56 = .ok (.goto (-22), 3) := by decide +kernel
theorem dX11_text_59 : decode cX11_text 59 = .ok (.iload_n 2, 1) := by decide +kernel
theorem dX11_text_60 : decode cX11_text 60 = .ok (.ireturn, 1) := by decide +kernel
theorem dX11_put_0 : decode cX11_put 0 = .ok (.iload_n 1, 1) := by decide +kernel
theorem dX11_put_1 : decode cX11_put 1 = .ok (.invokestatic 95, 3) := by decide +kernel
theorem dX11_put_4 : decode cX11_put 4 = .ok (.ifCond .ne 5, 3) := by decide +kernel
theorem dX11_put_7 : decode cX11_put 7 = .ok (.iconst (-1), 1) := by decide +kernel
theorem dX11_put_8 : decode cX11_put 8 = .ok (.ireturn, 1) := by decide +kernel
theorem dX11_put_9 : decode cX11_put 9 = .ok (.aload_n 0, 1) := by decide +kernel
theorem dX11_put_10 : decode cX11_put 10 = .ok (.getfield 26, 3) := by decide +kernel
theorem dX11_put_13 : decode cX11_put 13 = .ok (.iload_n 1, 1) := by decide +kernel
theorem dX11_put_14 : decode cX11_put 14 = .ok (.iaload, 1) := by decide +kernel
theorem dX11_put_15 : decode cX11_put 15 = .ok (.ifCond .ge 9, 3) := by decide +kernel
theorem dX11_put_18 : decode cX11_put 18 = .ok (.aload_n 0, 1) := by decide +kernel
theorem dX11_put_19 : decode cX11_put 19 = .ok (.iconst 1, 1) := by decide +kernel
theorem dX11_put_20 : decode cX11_put 20 = .ok (.invokevirtual 84, 3) := by decide +kernel
theorem dX11_put_23 : decode cX11_put 23 = .ok (.ireturn, 1) := by decide +kernel
theorem dX11_put_24 : decode cX11_put 24 = .ok (.iload_n 2, 1) := by decide +kernel
theorem dX11_put_25 : decode cX11_put 25 = .ok (.iconst 0, 1) := by decide +kernel
theorem dX11_put_26 : decode cX11_put 26 = .ok (.aload_n 0, 1) := by decide +kernel
theorem dX11_put_27 : decode cX11_put 27 = .ok (.getfield 26, 3) := by decide +kernel
theorem dX11_put_30 : decode cX11_put 30 = .ok (.iload_n 1, 1) := by decide +kernel
theorem dX11_put_31 : decode cX11_put 31 = .ok (.iaload, 1) := by decide +kernel
theorem dX11_put_32 : decode cX11_put 32 = .ok (.iconst 1, 1) := by decide +kernel
theorem dX11_put_33 : decode cX11_put 33 = .ok (.isub, 1) := by decide +kernel
theorem dX11_put_34 : decode cX11_put 34 = .ok (.invokestatic 76, 3) := by decide +kernel
theorem dX11_put_37 : decode cX11_put 37 = .ok (.ifCond .ne 9, 3) := by decide +kernel
theorem dX11_put_40 : decode cX11_put 40 = .ok (.aload_n 0, 1) := by decide +kernel
theorem dX11_put_41 : decode cX11_put 41 = .ok (.iconst 2, 1) := by decide +kernel
theorem dX11_put_42 : decode cX11_put 42 = .ok (.invokevirtual 84, 3) := by decide +kernel
theorem dX11_put_45 : decode cX11_put 45 = .ok (.ireturn, 1) := by decide +kernel
theorem dX11_put_46 : decode cX11_put 46 = .ok (.aload_n 0, 1) := by decide +kernel
theorem dX11_put_47 : decode cX11_put 47 = .ok (.getfield 29, 3) := by decide +kernel
theorem dX11_put_50 : decode cX11_put 50 = .ok (.bipush 60, 2) := by decide +kernel
theorem dX11_put_52 : decode cX11_put 52 = .ok (.iload_n 1, 1) := by decide +kernel
theorem dX11_put_53 : decode cX11_put 53 = .ok (.imul, 1) := by decide +kernel
theorem dX11_put_54 : decode cX11_put 54 = .ok (.iload_n 2, 1) := by decide +kernel
theorem dX11_put_55 : decode cX11_put 55 = .ok (.iadd, 1) := by decide +kernel
theorem dX11_put_56 : decode cX11_put 56 = .ok (.baload, 1) := by decide +kernel
theorem dX11_put_57 : decode cX11_put 57 = .ok (.istore 4, 2) := by decide +kernel
theorem dX11_put_59 : decode cX11_put 59 = .ok (.aload_n 0, 1) := by decide +kernel
theorem dX11_put_60 : decode cX11_put 60 = .ok (.getfield 29, 3) := by decide +kernel
theorem dX11_put_63 : decode cX11_put 63 = .ok (.bipush 60, 2) := by decide +kernel
theorem dX11_put_65 : decode cX11_put 65 = .ok (.iload_n 1, 1) := by decide +kernel
theorem dX11_put_66 : decode cX11_put 66 = .ok (.imul, 1) := by decide +kernel
theorem dX11_put_67 : decode cX11_put 67 = .ok (.iload_n 2, 1) := by decide +kernel
theorem dX11_put_68 : decode cX11_put 68 = .ok (.iadd, 1) := by decide +kernel
theorem dX11_put_69 : decode cX11_put 69 = .ok (.iload_n 3, 1) := by decide +kernel
theorem dX11_put_70 : decode cX11_put 70 = .ok (.i2b, 1) := by decide +kernel
theorem dX11_put_71 : decode cX11_put 71 = .ok (.bastore, 1) := by decide +kernel
theorem dX11_put_72 : decode cX11_put 72 = .ok (.sipush 1000, 3) := by decide +kernel
theorem dX11_put_75 : decode cX11_put 75 = .ok (.iload 4, 2) := by decide +kernel
theorem dX11_put_77 : decode cX11_put 77 = .ok (.iadd, 1) := by decide +kernel
theorem dX11_put_78 : decode cX11_put 78 = .ok (.ireturn, 1) := by decide +kernel
theorem dX11_byteAt_0 : decode cX11_byteAt 0 = .ok (.aload_n 0, 1) := by decide +kernel
theorem dX11_byteAt_1 : decode cX11_byteAt 1 = .ok (.getfield 98, 3) := by decide +kernel
theorem dX11_byteAt_4 : decode cX11_byteAt 4 = .ok (.aload_n 0, 1) := by decide +kernel
theorem dX11_byteAt_5 : decode cX11_byteAt 5 = .ok (.getfield 26, 3) := by decide +kernel
theorem dX11_byteAt_8 : decode cX11_byteAt 8 = .ok (.iload_n 1, 1) := by decide +kernel
theorem dX11_byteAt_9 : decode cX11_byteAt 9 = .ok (.iaload, 1) := by decide +kernel
theorem dX11_byteAt_10 : decode cX11_byteAt 10 = .ok (.if_icmp .ge 20, 3) := by decide +kernel
theorem dX11_byteAt_13 : decode cX11_byteAt 13 = .ok (.aload_n 0, 1) := by decide +kernel
theorem dX11_byteAt_14 : decode cX11_byteAt 14 = .ok (.getfield 29, 3) := by decide +kernel
theorem dX11_byteAt_17 : decode cX11_byteAt 17 = .ok (.bipush 60, 2) := by decide +kernel
theorem dX11_byteAt_19 : decode cX11_byteAt 19 = .ok (.iload_n 1, 1) := by decide +kernel
theorem dX11_byteAt_20 : decode cX11_byteAt 20 = .ok (.imul, 1) := by decide +kernel
theorem dX11_byteAt_21 : decode cX11_byteAt 21 = .ok (.aload_n 0, 1) := by decide +kernel
theorem dX11_byteAt_22 : decode cX11_byteAt 22 = .ok (.getfield 98, 3) := by decide +kernel
theorem dX11_byteAt_25 : decode cX11_byteAt 25 = .ok (.iadd, 1) := by decide +kernel
theorem dX11_byteAt_26 : decode cX11_byteAt 26 = .ok (.baload, 1) := by decide +kernel
theorem dX11_byteAt_27 : decode cX11_byteAt 27 = .ok (.goto 4, 3) := by decide +kernel
theorem dX11_byteAt_30 : decode cX11_byteAt 30 = .ok (.iconst (-1), 1) := by decide +kernel
theorem dX11_byteAt_31 : decode cX11_byteAt 31 = .ok (.ireturn, 1) := by decide +kernel
theorem dX11_kindOf_0 : decode cX11_kindOf 0 = .ok (.iload_n 0, 1) := by decide +kernel
theorem dX11_kindOf_1 : decode cX11_kindOf 1 = .ok (.tableswitch 99 98 115 #[97, 99, 89, 99, 99, 99, 93, 99, 99, 99, 99, 99, 87, 99, 95, 99, 99, 91], 87) := by decide +kernel
theorem dX11_kindOf_88 : decode cX11_kindOf 88 = .ok (.iconst 0, 1) := by decide +kernel
theorem dX11_kindOf_89 : decode cX11_kindOf 89 = .ok (.ireturn, 1) := by decide +kernel
theorem dX11_kindOf_90 : decode cX11_kindOf 90 = .ok (.iconst 1, 1) := by decide +kernel
theorem dX11_kindOf_91 : decode cX11_kindOf 91 = .ok (.ireturn, 1) := by decide +kernel
theorem dX11_kindOf_92 : decode cX11_kindOf 92 = .ok (.iconst 2, 1) := by decide +kernel
theorem dX11_kindOf_93 : decode cX11_kindOf 93 = .ok (.ireturn, 1) := by decide +kernel
theorem dX11_kindOf_94 : decode cX11_kindOf 94 = .ok (.iconst 3, 1) := by decide +kernel
theorem dX11_kindOf_95 : decode cX11_kindOf 95 = .ok (.ireturn, 1) := by decide +kernel
theorem dX11_kindOf_96 : decode cX11_kindOf 96 = .ok (.iconst 4, 1) := by decide +kernel
theorem dX11_kindOf_97 : decode cX11_kindOf 97 = .ok (.ireturn, 1) := by decide +kernel
theorem dX11_kindOf_98 : decode cX11_kindOf 98 = .ok (.iconst 5, 1) := by decide +kernel
theorem dX11_kindOf_99 : decode cX11_kindOf 99 = .ok (.ireturn, 1) := by decide +kernel
theorem dX11_kindOf_100 : decode cX11_kindOf 100 = .ok (.bipush (-9), 2) := by decide +kernel
theorem dX11_kindOf_102 : decode cX11_kindOf 102 = .ok (.ireturn, 1) := by decide +kernel
theorem dX11_figure_0 : decode cX11_figure 0 = .ok (.aload_n 0, 1) := by decide +kernel
theorem dX11_figure_1 : decode cX11_figure 1 = .ok (.iload_n 1, 1) := by decide +kernel
theorem dX11_figure_2 : decode cX11_figure 2 = .ok (.invokevirtual 101, 3) := by decide +kernel
theorem dX11_figure_5 : decode cX11_figure 5 = .ok (.bipush 48, 2) := by decide +kernel
theorem dX11_figure_7 : decode cX11_figure 7 = .ok (.isub, 1) := by decide +kernel
theorem dX11_figure_8 : decode cX11_figure 8 = .ok (.istore_n 3, 1) := by decide +kernel
theorem dX11_figure_9 : decode cX11_figure 9 = .ok (.aload_n 0, 1) := by decide +kernel
theorem dX11_figure_10 : decode cX11_figure 10 = .ok (.iload_n 1, 1) := by decide +kernel
theorem dX11_figure_11 : decode cX11_figure 11 = .ok (.invokevirtual 101, 3) := by decide +kernel
theorem dX11_figure_14 : decode cX11_figure 14 = .ok (.ifCond .lt 12, 3) := by decide +kernel
theorem dX11_figure_17 : decode cX11_figure 17 = .ok (.iload_n 3, 1) := by decide +kernel
theorem dX11_figure_18 : decode cX11_figure 18 = .ok (.iconst 0, 1) := by decide +kernel
theorem dX11_figure_19 : decode cX11_figure 19 = .ok (.iload_n 2, 1) := by decide +kernel
theorem dX11_figure_20 : decode cX11_figure 20 = .ok (.invokestatic 76, 3) := by decide +kernel
theorem dX11_figure_23 : decode cX11_figure 23 = .ok (.ifCond .ne 6, 3) := by decide +kernel
theorem dX11_figure_26 : decode cX11_figure 26 = .ok (.bipush (-9), 2) := by decide +kernel
theorem dX11_figure_28 : decode cX11_figure 28 = .ok (.ireturn, 1) := by decide +kernel
theorem dX11_figure_29 : decode cX11_figure 29 = .ok (.aload_n 0, 1) := by decide +kernel
theorem dX11_figure_30 : decode cX11_figure 30 = .ok (.dup, 1) := by decide +kernel
theorem dX11_figure_31 : decode cX11_figure 31 = .ok (.getfield 98, 3) := by decide +kernel
theorem dX11_figure_34 : decode cX11_figure 34 = .ok (.iconst 1, 1) := by decide +kernel
theorem dX11_figure_35 : decode cX11_figure 35 = .ok (.iadd, 1) := by decide +kernel
theorem dX11_figure_36 : decode cX11_figure 36 = .ok (.putfield 98, 3) := by decide +kernel
theorem dX11_figure_39 : decode cX11_figure 39 = .ok (.iload_n 3, 1) := by decide +kernel
theorem dX11_figure_40 : decode cX11_figure 40 = .ok (.ireturn, 1) := by decide +kernel
theorem dX11_blanks_0 : decode cX11_blanks 0 = .ok (.aload_n 0, 1) := by decide +kernel
theorem dX11_blanks_1 : decode cX11_blanks 1 = .ok (.iload_n 1, 1) := by decide +kernel
theorem dX11_blanks_2 : decode cX11_blanks 2 = .ok (.invokevirtual 101, 3) := by decide +kernel
theorem dX11_blanks_5 : decode cX11_blanks 5 = .ok (.bipush 32, 2) := by decide +kernel
theorem dX11_blanks_7 : decode cX11_blanks 7 = .ok (.if_icmp .ne 16, 3) := by decide +kernel
theorem dX11_blanks_10 : decode cX11_blanks 10 = .ok (.aload_n 0, 1) := by decide +kernel
theorem dX11_blanks_11 : decode cX11_blanks 11 = .ok (.dup, 1) := by decide +kernel
theorem dX11_blanks_12 : decode cX11_blanks 12 = .ok (.getfield 98, 3) := by decide +kernel
theorem dX11_blanks_15 : decode cX11_blanks 15 = .ok (.iconst 1, 1) := by decide +kernel
theorem dX11_blanks_16 : decode cX11_blanks 16 = .ok (.iadd, 1) := by decide +kernel
theorem dX11_blanks_17 : decode cX11_blanks 17 = .ok (.putfield 98, 3) := by decide +kernel
theorem dX11_blanks_20 : decode cX11_blanks 20 = .ok (.goto (-20), 3) := by decide +kernel
theorem dX11_blanks_23 : decode cX11_blanks 23 = .ok (.return_, 1) := by decide +kernel
theorem dX11_readsDeep_0 : decode cX11_readsDeep 0 = .ok (.iconst 0, 1) := by decide +kernel
theorem dX11_readsDeep_1 : decode cX11_readsDeep 1 = .ok (.istore_n 2, 1) := by decide +kernel
theorem dX11_readsDeep_2 : decode cX11_readsDeep 2 = .ok (.iload_n 2, 1) := by decide +kernel
theorem dX11_readsDeep_3 : decode cX11_readsDeep 3 = .ok (.iconst 5, 1) := by decide +kernel
theorem dX11_readsDeep_4 : decode cX11_readsDeep 4 = .ok (.if_icmp .ge 35, 3) := by decide +kernel
theorem dX11_readsDeep_7 : decode cX11_readsDeep 7 = .ok (.aload_n 0, 1) := by decide +kernel
theorem dX11_readsDeep_8 : decode cX11_readsDeep 8 = .ok (.getfield 33, 3) := by decide +kernel
theorem dX11_readsDeep_11 : decode cX11_readsDeep 11 = .ok (.iload_n 2, 1) := by decide +kernel
theorem dX11_readsDeep_12 : decode cX11_readsDeep 12 = .ok (.aload_n 0, 1) := by decide +kernel
theorem dX11_readsDeep_13 : decode cX11_readsDeep 13 = .ok (.iload_n 1, 1) := by decide +kernel
theorem dX11_readsDeep_14 : decode cX11_readsDeep 14 = .ok (.bipush 9, 2) := by decide +kernel
theorem dX11_readsDeep_16 : decode cX11_readsDeep 16 = .ok (.invokevirtual 104, 3) := by decide +kernel
theorem dX11_readsDeep_19 : decode cX11_readsDeep 19 = .ok (.iastore, 1) := by decide +kernel
theorem dX11_readsDeep_20 : decode cX11_readsDeep 20 = .ok (.aload_n 0, 1) := by decide +kernel
theorem dX11_readsDeep_21 : decode cX11_readsDeep 21 = .ok (.getfield 33, 3) := by decide +kernel
theorem dX11_readsDeep_24 : decode cX11_readsDeep 24 = .ok (.iload_n 2, 1) := by decide +kernel
theorem dX11_readsDeep_25 : decode cX11_readsDeep 25 = .ok (.iaload, 1) := by decide +kernel
theorem dX11_readsDeep_26 : decode cX11_readsDeep 26 = .ok (.bipush (-9), 2) := by decide +kernel
theorem dX11_readsDeep_28 : decode cX11_readsDeep 28 = .ok (.if_icmp .ne 5, 3) := by decide +kernel
theorem dX11_readsDeep_31 : decode cX11_readsDeep 31 = .ok (.iconst 0, 1) := by decide +kernel
theorem dX11_readsDeep_32 : decode cX11_readsDeep 32 = .ok (.ireturn, 1) := by decide +kernel
theorem dX11_readsDeep_33 : decode cX11_readsDeep 33 = .ok (.iinc 2 1, 3) := by decide +kernel
theorem dX11_readsDeep_36 : decode cX11_readsDeep 36 = .ok (.goto (-34), 3) := by decide +kernel
theorem dX11_readsDeep_39 : decode cX11_readsDeep 39 = .ok (.iconst 1, 1) := by decide +kernel
theorem dX11_readsDeep_40 : decode cX11_readsDeep 40 = .ok (.ireturn, 1) := by decide +kernel
theorem dX11_readsOne_0 : decode cX11_readsOne 0 = .ok (.aload_n 0, 1) := by decide +kernel
theorem dX11_readsOne_1 : decode cX11_readsOne 1 = .ok (.iload_n 1, 1) := by decide +kernel
theorem dX11_readsOne_2 : decode cX11_readsOne 2 = .ok (.invokevirtual 101, 3) := by decide +kernel
theorem dX11_readsOne_5 : decode cX11_readsOne 5 = .ok (.invokestatic 107, 3) := by decide +kernel
theorem dX11_readsOne_8 : decode cX11_readsOne 8 = .ok (.istore_n 2, 1) := by decide +kernel
theorem dX11_readsOne_9 : decode cX11_readsOne 9 = .ok (.iload_n 2, 1) := by decide +kernel
theorem dX11_readsOne_10 : decode cX11_readsOne 10 = .ok (.bipush (-9), 2) := by decide +kernel
theorem dX11_readsOne_12 : decode cX11_readsOne 12 = .ok (.if_icmp .eq 12, 3) := by decide +kernel
theorem dX11_readsOne_15 : decode cX11_readsOne 15 = .ok (.aload_n 0, 1) := by decide +kernel
theorem dX11_readsOne_16 : decode cX11_readsOne 16 = .ok (.getfield 110, 3) := by decide +kernel
theorem dX11_readsOne_19 : decode cX11_readsOne 19 = .ok (.bipush 7, 2) := by decide +kernel
theorem dX11_readsOne_21 : decode cX11_readsOne 21 = .ok (.if_icmp .ne 5, 3) := by decide +kernel
theorem dX11_readsOne_24 : decode cX11_readsOne 24 = .ok (.iconst 0, 1) := by decide +kernel
theorem dX11_readsOne_25 : decode cX11_readsOne 25 = .ok (.ireturn, 1) := by decide +kernel
theorem dX11_readsOne_26 : decode cX11_readsOne 26 = .ok (.aload_n 0, 1) := by decide +kernel
theorem dX11_readsOne_27 : decode cX11_readsOne 27 = .ok (.dup, 1) := by decide +kernel
theorem dX11_readsOne_28 : decode cX11_readsOne 28 = .ok (.getfield 98, 3) := by decide +kernel
theorem dX11_readsOne_31 : decode cX11_readsOne 31 = .ok (.iconst 1, 1) := by decide +kernel
theorem dX11_readsOne_32 : decode cX11_readsOne 32 = .ok (.iadd, 1) := by decide +kernel
theorem dX11_readsOne_33 : decode cX11_readsOne 33 = .ok (.putfield 98, 3) := by decide +kernel
theorem dX11_readsOne_36 : decode cX11_readsOne 36 = .ok (.aload_n 0, 1) := by decide +kernel
theorem dX11_readsOne_37 : decode cX11_readsOne 37 = .ok (.getfield 36, 3) := by decide +kernel
theorem dX11_readsOne_40 : decode cX11_readsOne 40 = .ok (.iconst 5, 1) := by decide +kernel
theorem dX11_readsOne_41 : decode cX11_readsOne 41 = .ok (.aload_n 0, 1) := by decide +kernel
theorem dX11_readsOne_42 : decode cX11_readsOne 42 = .ok (.getfield 110, 3) := by decide +kernel
theorem dX11_readsOne_45 : decode cX11_readsOne 45 = .ok (.imul, 1) := by decide +kernel
theorem dX11_readsOne_46 : decode cX11_readsOne 46 = .ok (.iload_n 2, 1) := by decide +kernel
theorem dX11_readsOne_47 : decode cX11_readsOne 47 = .ok (.iastore, 1) := by decide +kernel
theorem dX11_readsOne_48 : decode cX11_readsOne 48 = .ok (.iconst 1, 1) := by decide +kernel
theorem dX11_readsOne_49 : decode cX11_readsOne 49 = .ok (.istore_n 3, 1) := by decide +kernel
theorem dX11_readsOne_50 : decode cX11_readsOne 50 = .ok (.iload_n 3, 1) := by decide +kernel
theorem dX11_readsOne_51 : decode cX11_readsOne 51 = .ok (.iconst 5, 1) := by decide +kernel
theorem dX11_readsOne_52 : decode cX11_readsOne 52 = .ok (.if_icmp .ge 51, 3) := by decide +kernel
theorem dX11_readsOne_55 : decode cX11_readsOne 55 = .ok (.aload_n 0, 1) := by decide +kernel
theorem dX11_readsOne_56 : decode cX11_readsOne 56 = .ok (.iload_n 1, 1) := by decide +kernel
theorem dX11_readsOne_57 : decode cX11_readsOne 57 = .ok (.iload_n 3, 1) := by decide +kernel
theorem dX11_readsOne_58 : decode cX11_readsOne 58 = .ok (.iconst 4, 1) := by decide +kernel
theorem dX11_readsOne_59 : decode cX11_readsOne 59 = .ok (.if_icmp .ne 7, 3) := by decide +kernel
theorem dX11_readsOne_62 : decode cX11_readsOne 62 = .ok (.iconst 4, 1) := by decide +kernel
theorem dX11_readsOne_63 : decode cX11_readsOne 63 = .ok (.goto 5, 3) := by decide +kernel
theorem dX11_readsOne_66 : decode cX11_readsOne 66 = .ok (.bipush 9, 2) := by decide +kernel
theorem dX11_readsOne_68 : decode cX11_readsOne 68 = .ok (.invokevirtual 104, 3) := by decide +kernel
theorem dX11_readsOne_71 : decode cX11_readsOne 71 = .ok (.istore 4, 2) := by decide +kernel
theorem dX11_readsOne_73 : decode cX11_readsOne 73 = .ok (.iload 4, 2) := by decide +kernel
theorem dX11_readsOne_75 : decode cX11_readsOne 75 = .ok (.bipush (-9), 2) := by decide +kernel
theorem dX11_readsOne_77 : decode cX11_readsOne 77 = .ok (.if_icmp .ne 5, 3) := by decide +kernel
theorem dX11_readsOne_80 : decode cX11_readsOne 80 = .ok (.iconst 0, 1) := by decide +kernel
theorem dX11_readsOne_81 : decode cX11_readsOne 81 = .ok (.ireturn, 1) := by decide +kernel
theorem dX11_readsOne_82 : decode cX11_readsOne 82 = .ok (.aload_n 0, 1) := by decide +kernel
theorem dX11_readsOne_83 : decode cX11_readsOne 83 = .ok (.getfield 36, 3) := by decide +kernel
theorem dX11_readsOne_86 : decode cX11_readsOne 86 = .ok (.iconst 5, 1) := by decide +kernel
theorem dX11_readsOne_87 : decode cX11_readsOne 87 = .ok (.aload_n 0, 1) := by decide +kernel
theorem dX11_readsOne_88 : decode cX11_readsOne 88 = .ok (.getfield 110, 3) := by decide +kernel
theorem dX11_readsOne_91 : decode cX11_readsOne 91 = .ok (.imul, 1) := by decide +kernel
theorem dX11_readsOne_92 : decode cX11_readsOne 92 = .ok (.iload_n 3, 1) := by decide +kernel
theorem dX11_readsOne_93 : decode cX11_readsOne 93 = .ok (.iadd, 1) := by decide +kernel
theorem dX11_readsOne_94 : decode cX11_readsOne 94 = .ok (.iload 4, 2) := by decide +kernel
theorem dX11_readsOne_96 : decode cX11_readsOne 96 = .ok (.iastore, 1) := by decide +kernel
theorem dX11_readsOne_97 : decode cX11_readsOne 97 = .ok (.iinc 3 1, 3) := by decide +kernel
theorem dX11_readsOne_100 : decode cX11_readsOne 100 = .ok (.goto (-50), 3) := by decide +kernel
theorem dX11_readsOne_103 : decode cX11_readsOne 103 = .ok (.aload_n 0, 1) := by decide +kernel
theorem dX11_readsOne_104 : decode cX11_readsOne 104 = .ok (.dup, 1) := by decide +kernel
theorem dX11_readsOne_105 : decode cX11_readsOne 105 = .ok (.getfield 110, 3) := by decide +kernel
theorem dX11_readsOne_108 : decode cX11_readsOne 108 = .ok (.iconst 1, 1) := by decide +kernel
theorem dX11_readsOne_109 : decode cX11_readsOne 109 = .ok (.iadd, 1) := by decide +kernel
theorem dX11_readsOne_110 : decode cX11_readsOne 110 = .ok (.putfield 110, 3) := by decide +kernel
theorem dX11_readsOne_113 : decode cX11_readsOne 113 = .ok (.iconst 1, 1) := by decide +kernel
theorem dX11_readsOne_114 : decode cX11_readsOne 114 = .ok (.ireturn, 1) := by decide +kernel
theorem dX11_faultOf_0 : decode cX11_faultOf 0 = .ok (.aload_n 0, 1) := by decide +kernel
theorem dX11_faultOf_1 : decode cX11_faultOf 1 = .ok (.iconst 0, 1) := by decide +kernel
theorem dX11_faultOf_2 : decode cX11_faultOf 2 = .ok (.putfield 98, 3) := by decide +kernel
theorem dX11_faultOf_5 : decode cX11_faultOf 5 = .ok (.aload_n 0, 1) := by decide +kernel
theorem dX11_faultOf_6 : decode cX11_faultOf 6 = .ok (.iconst 0, 1) := by decide +kernel
theorem dX11_faultOf_7 : decode cX11_faultOf 7 = .ok (.putfield 110, 3) := by decide +kernel
theorem dX11_faultOf_10 : decode cX11_faultOf 10 = .ok (.aload_n 0, 1) := by decide +kernel
theorem dX11_faultOf_11 : decode cX11_faultOf 11 = .ok (.iload_n 1, 1) := by decide +kernel
theorem dX11_faultOf_12 : decode cX11_faultOf 12 = .ok (.invokevirtual 113, 3) := by decide +kernel
theorem dX11_faultOf_15 : decode cX11_faultOf 15 = .ok (.aload_n 0, 1) := by decide +kernel
theorem dX11_faultOf_16 : decode cX11_faultOf 16 = .ok (.getfield 98, 3) := by decide +kernel
theorem dX11_faultOf_19 : decode cX11_faultOf 19 = .ok (.aload_n 0, 1) := by decide +kernel
theorem dX11_faultOf_20 : decode cX11_faultOf 20 = .ok (.getfield 26, 3) := by decide +kernel
theorem dX11_faultOf_23 : decode cX11_faultOf 23 = .ok (.iload_n 1, 1) := by decide +kernel
theorem dX11_faultOf_24 : decode cX11_faultOf 24 = .ok (.iaload, 1) := by decide +kernel
theorem dX11_faultOf_25 : decode cX11_faultOf 25 = .ok (.if_icmp .eq 11, 3) := by decide +kernel
theorem dX11_faultOf_28 : decode cX11_faultOf 28 = .ok (.aload_n 0, 1) := by decide +kernel
theorem dX11_faultOf_29 : decode cX11_faultOf 29 = .ok (.iload_n 1, 1) := by decide +kernel
theorem dX11_faultOf_30 : decode cX11_faultOf 30 = .ok (.invokevirtual 117, 3) := by decide +kernel
theorem dX11_faultOf_33 : decode cX11_faultOf 33 = .ok (.ifCond .ne 8, 3) := by decide +kernel
theorem dX11_faultOf_36 : decode cX11_faultOf 36 = .ok (.aload_n 0, 1) := by decide +kernel
theorem dX11_faultOf_37 : decode cX11_faultOf 37 = .ok (.getfield 98, 3) := by decide +kernel
theorem dX11_faultOf_40 : decode cX11_faultOf 40 = .ok (.ireturn, 1) := by decide +kernel
theorem dX11_faultOf_41 : decode cX11_faultOf 41 = .ok (.aload_n 0, 1) := by decide +kernel
theorem dX11_faultOf_42 : decode cX11_faultOf 42 = .ok (.iload_n 1, 1) := by decide +kernel
theorem dX11_faultOf_43 : decode cX11_faultOf 43 = .ok (.invokevirtual 113, 3) := by decide +kernel
theorem dX11_faultOf_46 : decode cX11_faultOf 46 = .ok (.aload_n 0, 1) := by decide +kernel
theorem dX11_faultOf_47 : decode cX11_faultOf 47 = .ok (.getfield 98, 3) := by decide +kernel
theorem dX11_faultOf_50 : decode cX11_faultOf 50 = .ok (.aload_n 0, 1) := by decide +kernel
theorem dX11_faultOf_51 : decode cX11_faultOf 51 = .ok (.getfield 26, 3) := by decide +kernel
theorem dX11_faultOf_54 : decode cX11_faultOf 54 = .ok (.iload_n 1, 1) := by decide +kernel
theorem dX11_faultOf_55 : decode cX11_faultOf 55 = .ok (.iaload, 1) := by decide +kernel
theorem dX11_faultOf_56 : decode cX11_faultOf 56 = .ok (.if_icmp .ge 24, 3) := by decide +kernel
theorem dX11_faultOf_59 : decode cX11_faultOf 59 = .ok (.aload_n 0, 1) := by decide +kernel
theorem dX11_faultOf_60 : decode cX11_faultOf 60 = .ok (.iload_n 1, 1) := by decide +kernel
theorem dX11_faultOf_61 : decode cX11_faultOf 61 = .ok (.invokevirtual 120, 3) := by decide +kernel
theorem dX11_faultOf_64 : decode cX11_faultOf 64 = .ok (.ifCond .ne 8, 3) := by decide +kernel
theorem dX11_faultOf_67 : decode cX11_faultOf 67 = .ok (.aload_n 0, 1) := by decide +kernel
theorem dX11_faultOf_68 : decode cX11_faultOf 68 = .ok (.getfield 98, 3) := by decide +kernel
theorem dX11_faultOf_71 : decode cX11_faultOf 71 = .ok (.ireturn, 1) := by decide +kernel
theorem dX11_faultOf_72 : decode cX11_faultOf 72 = .ok (.aload_n 0, 1) := by decide +kernel
theorem dX11_faultOf_73 : decode cX11_faultOf 73 = .ok (.iload_n 1, 1) := by decide +kernel
theorem dX11_faultOf_74 : decode cX11_faultOf 74 = .ok (.invokevirtual 113, 3) := by decide +kernel
theorem dX11_faultOf_77 : decode cX11_faultOf 77 = .ok (.goto (-31), 3) := by decide +kernel
theorem dX11_faultOf_80 : decode cX11_faultOf 80 = .ok (.aload_n 0, 1) := by decide +kernel
theorem dX11_faultOf_81 : decode cX11_faultOf 81 = .ok (.getfield 110, 3) := by decide +kernel
theorem dX11_faultOf_84 : decode cX11_faultOf 84 = .ok (.iconst 2, 1) := by decide +kernel
theorem dX11_faultOf_85 : decode cX11_faultOf 85 = .ok (.if_icmp .ge 12, 3) := by decide +kernel
theorem dX11_faultOf_88 : decode cX11_faultOf 88 = .ok (.aload_n 0, 1) := by decide +kernel
theorem dX11_faultOf_89 : decode cX11_faultOf 89 = .ok (.getfield 26, 3) := by decide +kernel
theorem dX11_faultOf_92 : decode cX11_faultOf 92 = .ok (.iload_n 1, 1) := by decide +kernel
theorem dX11_faultOf_93 : decode cX11_faultOf 93 = .ok (.iaload, 1) := by decide +kernel
theorem dX11_faultOf_94 : decode cX11_faultOf 94 = .ok (.goto 5, 3) := by decide +kernel
theorem dX11_faultOf_97 : decode cX11_faultOf 97 = .ok (.bipush (-9), 2) := by decide +kernel
theorem dX11_faultOf_99 : decode cX11_faultOf 99 = .ok (.ireturn, 1) := by decide +kernel
theorem dX11_fault_0 : decode cX11_fault 0 = .ok (.iload_n 1, 1) := by decide +kernel
theorem dX11_fault_1 : decode cX11_fault 1 = .ok (.invokestatic 95, 3) := by decide +kernel
theorem dX11_fault_4 : decode cX11_fault 4 = .ok (.ifCond .ne 7, 3) := by decide +kernel
theorem dX11_fault_7 : decode cX11_fault 7 = .ok (.iconst (-1), 1) := by decide +kernel
theorem dX11_fault_8 : decode cX11_fault 8 = .ok (.goto 25, 3) := by decide +kernel
theorem dX11_fault_11 : decode cX11_fault 11 = .ok (.aload_n 0, 1) := by decide +kernel
theorem dX11_fault_12 : decode cX11_fault 12 = .ok (.getfield 26, 3) := by decide +kernel
theorem dX11_fault_15 : decode cX11_fault 15 = .ok (.iload_n 1, 1) := by decide +kernel
theorem dX11_fault_16 : decode cX11_fault 16 = .ok (.iaload, 1) := by decide +kernel
theorem dX11_fault_17 : decode cX11_fault 17 = .ok (.ifCond .ge 11, 3) := by decide +kernel
theorem dX11_fault_20 : decode cX11_fault 20 = .ok (.aload_n 0, 1) := by decide +kernel
theorem dX11_fault_21 : decode cX11_fault 21 = .ok (.iconst 1, 1) := by decide +kernel
theorem dX11_fault_22 : decode cX11_fault 22 = .ok (.invokevirtual 84, 3) := by decide +kernel
theorem dX11_fault_25 : decode cX11_fault 25 = .ok (.goto 8, 3) := by decide +kernel
theorem dX11_fault_28 : decode cX11_fault 28 = .ok (.aload_n 0, 1) := by decide +kernel
theorem dX11_fault_29 : decode cX11_fault 29 = .ok (.iload_n 1, 1) := by decide +kernel
theorem dX11_fault_30 : decode cX11_fault 30 = .ok (.invokevirtual 123, 3) := by decide +kernel
theorem dX11_fault_33 : decode cX11_fault 33 = .ok (.ireturn, 1) := by decide +kernel
theorem dX11_town_0 : decode cX11_town 0 = .ok (.iload_n 1, 1) := by decide +kernel
theorem dX11_town_1 : decode cX11_town 1 = .ok (.invokestatic 95, 3) := by decide +kernel
theorem dX11_town_4 : decode cX11_town 4 = .ok (.ifCond .ne 5, 3) := by decide +kernel
theorem dX11_town_7 : decode cX11_town 7 = .ok (.iconst (-1), 1) := by decide +kernel
theorem dX11_town_8 : decode cX11_town 8 = .ok (.ireturn, 1) := by decide +kernel
theorem dX11_town_9 : decode cX11_town 9 = .ok (.aload_n 0, 1) := by decide +kernel
theorem dX11_town_10 : decode cX11_town 10 = .ok (.getfield 26, 3) := by decide +kernel
theorem dX11_town_13 : decode cX11_town 13 = .ok (.iload_n 1, 1) := by decide +kernel
theorem dX11_town_14 : decode cX11_town 14 = .ok (.iaload, 1) := by decide +kernel
theorem dX11_town_15 : decode cX11_town 15 = .ok (.ifCond .ge 9, 3) := by decide +kernel
theorem dX11_town_18 : decode cX11_town 18 = .ok (.aload_n 0, 1) := by decide +kernel
theorem dX11_town_19 : decode cX11_town 19 = .ok (.iconst 1, 1) := by decide +kernel
theorem dX11_town_20 : decode cX11_town 20 = .ok (.invokevirtual 84, 3) := by decide +kernel
theorem dX11_town_23 : decode cX11_town 23 = .ok (.ireturn, 1) := by decide +kernel
theorem dX11_town_24 : decode cX11_town 24 = .ok (.aload_n 0, 1) := by decide +kernel
theorem dX11_town_25 : decode cX11_town 25 = .ok (.iload_n 1, 1) := by decide +kernel
theorem dX11_town_26 : decode cX11_town 26 = .ok (.invokevirtual 123, 3) := by decide +kernel
theorem dX11_town_29 : decode cX11_town 29 = .ok (.bipush (-9), 2) := by decide +kernel
theorem dX11_town_31 : decode cX11_town 31 = .ok (.if_icmp .eq 6, 3) := by decide +kernel
theorem dX11_town_34 : decode cX11_town 34 = .ok (.bipush (-4), 2) := by decide +kernel
theorem dX11_town_36 : decode cX11_town 36 = .ok (.ireturn, 1) := by decide +kernel
theorem dX11_town_37 : decode cX11_town 37 = .ok (.aload_n 0, 1) := by decide +kernel
theorem dX11_town_38 : decode cX11_town 38 = .ok (.aload_n 0, 1) := by decide +kernel
theorem dX11_town_39 : decode cX11_town 39 = .ok (.getfield 110, 3) := by decide +kernel
theorem dX11_town_42 : decode cX11_town 42 = .ok (.putfield 126, 3) := by decide +kernel
theorem dX11_town_45 : decode cX11_town 45 = .ok (.aload_n 0, 1) := by decide +kernel
theorem dX11_town_46 : decode cX11_town 46 = .ok (.getfield 48, 3) := by decide +kernel
theorem dX11_town_49 : decode cX11_town 49 = .ok (.iconst 0, 1) := by decide +kernel
theorem dX11_town_50 : decode cX11_town 50 = .ok (.iconst 0, 1) := by decide +kernel
theorem dX11_town_51 : decode cX11_town 51 = .ok (.iastore, 1) := by decide +kernel
theorem dX11_town_52 : decode cX11_town 52 = .ok (.iconst 0, 1) := by decide +kernel
theorem dX11_town_53 : decode cX11_town 53 = .ok (.istore_n 2, 1) := by decide +kernel
theorem dX11_town_54 : decode cX11_town 54 = .ok (.iload_n 2, 1) := by decide +kernel
theorem dX11_town_55 : decode cX11_town 55 = .ok (.iconst 5, 1) := by decide +kernel
theorem dX11_town_56 : decode cX11_town 56 = .ok (.if_icmp .ge 23, 3) := by decide +kernel
theorem dX11_town_59 : decode cX11_town 59 = .ok (.aload_n 0, 1) := by decide +kernel
theorem dX11_town_60 : decode cX11_town 60 = .ok (.getfield 48, 3) := by decide +kernel
theorem dX11_town_63 : decode cX11_town 63 = .ok (.iconst 1, 1) := by decide +kernel
theorem dX11_town_64 : decode cX11_town 64 = .ok (.iload_n 2, 1) := by decide +kernel
theorem dX11_town_65 : decode cX11_town 65 = .ok (.iadd, 1) := by decide +kernel
theorem dX11_town_66 : decode cX11_town 66 = .ok (.aload_n 0, 1) := by decide +kernel
theorem dX11_town_67 : decode cX11_town 67 = .ok (.getfield 33, 3) := by decide +kernel
theorem dX11_town_70 : decode cX11_town 70 = .ok (.iload_n 2, 1) := by decide +kernel
theorem dX11_town_71 : decode cX11_town 71 = .ok (.iaload, 1) := by decide +kernel
theorem dX11_town_72 : decode cX11_town 72 = .ok (.iastore, 1) := by decide +kernel
theorem dX11_town_73 : decode cX11_town 73 = .ok (.iinc 2 1, 3) := by decide +kernel
theorem dX11_town_76 : decode cX11_town 76 = .ok (.goto (-22), 3) := by decide +kernel
theorem dX11_town_79 : decode cX11_town 79 = .ok (.iconst 0, 1) := by decide +kernel
theorem dX11_town_80 : decode cX11_town 80 = .ok (.istore_n 2, 1) := by decide +kernel
theorem dX11_town_81 : decode cX11_town 81 = .ok (.iload_n 2, 1) := by decide +kernel
theorem dX11_town_82 : decode cX11_town 82 = .ok (.aload_n 0, 1) := by decide +kernel
theorem dX11_town_83 : decode cX11_town 83 = .ok (.getfield 126, 3) := by decide +kernel
theorem dX11_town_86 : decode cX11_town 86 = .ok (.if_icmp .ge 100, 3) := by decide +kernel
theorem dX11_town_89 : decode cX11_town 89 = .ok (.aload_n 0, 1) := by decide +kernel
theorem dX11_town_90 : decode cX11_town 90 = .ok (.getfield 39, 3) := by decide +kernel
theorem dX11_town_93 : decode cX11_town 93 = .ok (.iload_n 2, 1) := by decide +kernel
theorem dX11_town_94 : decode cX11_town 94 = .ok (.aload_n 0, 1) := by decide +kernel
theorem dX11_town_95 : decode cX11_town 95 = .ok (.getfield 36, 3) := by decide +kernel
theorem dX11_town_98 : decode cX11_town 98 = .ok (.iconst 5, 1) := by decide +kernel
theorem dX11_town_99 : decode cX11_town 99 = .ok (.iload_n 2, 1) := by decide +kernel
theorem dX11_town_100 : decode cX11_town 100 = .ok (.imul, 1) := by decide +kernel
theorem dX11_town_101 : decode cX11_town 101 = .ok (.iaload, 1) := by decide +kernel
theorem dX11_town_102 : decode cX11_town 102 = .ok (.iastore, 1) := by decide +kernel
theorem dX11_town_103 : decode cX11_town 103 = .ok (.aload_n 0, 1) := by decide +kernel
theorem dX11_town_104 : decode cX11_town 104 = .ok (.getfield 42, 3) := by decide +kernel
theorem dX11_town_107 : decode cX11_town 107 = .ok (.iload_n 2, 1) := by decide +kernel
theorem dX11_town_108 : decode cX11_town 108 = .ok (.aload_n 0, 1) := by decide +kernel
theorem dX11_town_109 : decode cX11_town 109 = .ok (.getfield 36, 3) := by decide +kernel
theorem dX11_town_112 : decode cX11_town 112 = .ok (.iconst 5, 1) := by decide +kernel
theorem dX11_town_113 : decode cX11_town 113 = .ok (.iload_n 2, 1) := by decide +kernel
theorem dX11_town_114 : decode cX11_town 114 = .ok (.imul, 1) := by decide +kernel
theorem dX11_town_115 : decode cX11_town 115 = .ok (.iconst 1, 1) := by decide +kernel
theorem dX11_town_116 : decode cX11_town 116 = .ok (.iadd, 1) := by decide +kernel
theorem dX11_town_117 : decode cX11_town 117 = .ok (.iaload, 1) := by decide +kernel
theorem dX11_town_118 : decode cX11_town 118 = .ok (.iastore, 1) := by decide +kernel
theorem dX11_town_119 : decode cX11_town 119 = .ok (.aload_n 0, 1) := by decide +kernel
theorem dX11_town_120 : decode cX11_town 120 = .ok (.getfield 45, 3) := by decide +kernel
theorem dX11_town_123 : decode cX11_town 123 = .ok (.iload_n 2, 1) := by decide +kernel
theorem dX11_town_124 : decode cX11_town 124 = .ok (.iload_n 2, 1) := by decide +kernel
theorem dX11_town_125 : decode cX11_town 125 = .ok (.aload_n 0, 1) := by decide +kernel
theorem dX11_town_126 : decode cX11_town 126 = .ok (.getfield 36, 3) := by decide +kernel
theorem dX11_town_129 : decode cX11_town 129 = .ok (.iconst 5, 1) := by decide +kernel
theorem dX11_town_130 : decode cX11_town 130 = .ok (.iload_n 2, 1) := by decide +kernel
theorem dX11_town_131 : decode cX11_town 131 = .ok (.imul, 1) := by decide +kernel
theorem dX11_town_132 : decode cX11_town 132 = .ok (.iconst 2, 1) := by decide +kernel
theorem dX11_town_133 : decode cX11_town 133 = .ok (.iadd, 1) := by decide +kernel
theorem dX11_town_134 : decode cX11_town 134 = .ok (.iaload, 1) := by decide +kernel
theorem dX11_town_135 : decode cX11_town 135 = .ok (.iadd, 1) := by decide +kernel
theorem dX11_town_136 : decode cX11_town 136 = .ok (.aload_n 0, 1) := by decide +kernel
theorem dX11_town_137 : decode cX11_town 137 = .ok (.getfield 126, 3) := by decide +kernel
theorem dX11_town_140 : decode cX11_town 140 = .ok (.irem, 1) := by decide +kernel
theorem dX11_town_141 : decode cX11_town 141 = .ok (.iastore, 1) := by decide +kernel
theorem dX11_town_142 : decode cX11_town 142 = .ok (.aload_n 0, 1) := by decide +kernel
theorem dX11_town_143 : decode cX11_town 143 = .ok (.getfield 48, 3) := by decide +kernel
theorem dX11_town_146 : decode cX11_town 146 = .ok (.bipush 6, 2) := by decide +kernel
theorem dX11_town_148 : decode cX11_town 148 = .ok (.iload_n 2, 1) := by decide +kernel
theorem dX11_town_149 : decode cX11_town 149 = .ok (.iadd, 1) := by decide +kernel
theorem dX11_town_150 : decode cX11_town 150 = .ok (.aload_n 0, 1) := by decide +kernel
theorem dX11_town_151 : decode cX11_town 151 = .ok (.getfield 36, 3) := by decide +kernel
theorem dX11_town_154 : decode cX11_town 154 = .ok (.iconst 5, 1) := by decide +kernel
theorem dX11_town_155 : decode cX11_town 155 = .ok (.iload_n 2, 1) := by decide +kernel
theorem dX11_town_156 : decode cX11_town 156 = .ok (.imul, 1) := by decide +kernel
theorem dX11_town_157 : decode cX11_town 157 = .ok (.iconst 3, 1) := by decide +kernel
theorem dX11_town_158 : decode cX11_town 158 = .ok (.iadd, 1) := by decide +kernel
theorem dX11_town_159 : decode cX11_town 159 = .ok (.iaload, 1) := by decide +kernel
theorem dX11_town_160 : decode cX11_town 160 = .ok (.iastore, 1) := by decide +kernel
theorem dX11_town_161 : decode cX11_town 161 = .ok (.aload_n 0, 1) := by decide +kernel
theorem dX11_town_162 : decode cX11_town 162 = .ok (.getfield 48, 3) := by decide +kernel
theorem dX11_town_165 : decode cX11_town 165 = .ok (.bipush 13, 2) := by decide +kernel
theorem dX11_town_167 : decode cX11_town 167 = .ok (.iload_n 2, 1) := by decide +kernel
theorem dX11_town_168 : decode cX11_town 168 = .ok (.iadd, 1) := by decide +kernel
theorem dX11_town_169 : decode cX11_town 169 = .ok (.aload_n 0, 1) := by decide +kernel
theorem dX11_town_170 : decode cX11_town 170 = .ok (.getfield 36, 3) := by decide +kernel
theorem dX11_town_173 : decode cX11_town 173 = .ok (.iconst 5, 1) := by decide +kernel
theorem dX11_town_174 : decode cX11_town 174 = .ok (.iload_n 2, 1) := by decide +kernel
theorem dX11_town_175 : decode cX11_town 175 = .ok (.imul, 1) := by decide +kernel
theorem dX11_town_176 : decode cX11_town 176 = .ok (.iconst 4, 1) := by decide +kernel
theorem dX11_town_177 : decode cX11_town 177 = .ok (.iadd, 1) := by decide +kernel
theorem dX11_town_178 : decode cX11_town 178 = .ok (.iaload, 1) := by decide +kernel
theorem dX11_town_179 : decode cX11_town 179 = .ok (.iastore, 1) := by decide +kernel
theorem dX11_town_180 : decode cX11_town 180 = .ok (.iinc 2 1, 3) := by decide +kernel
theorem dX11_town_183 : decode cX11_town 183 = .ok (.goto (-102), 3) := by decide +kernel
theorem dX11_town_186 : decode cX11_town 186 = .ok (.aload_n 0, 1) := by decide +kernel
theorem dX11_town_187 : decode cX11_town 187 = .ok (.iconst 0, 1) := by decide +kernel
theorem dX11_town_188 : decode cX11_town 188 = .ok (.putfield 129, 3) := by decide +kernel
theorem dX11_town_191 : decode cX11_town 191 = .ok (.iconst 0, 1) := by decide +kernel
theorem dX11_town_192 : decode cX11_town 192 = .ok (.istore_n 2, 1) := by decide +kernel
theorem dX11_town_193 : decode cX11_town 193 = .ok (.iload_n 2, 1) := by decide +kernel
theorem dX11_town_194 : decode cX11_town 194 = .ok (.iconst 3, 1) := by decide +kernel
theorem dX11_town_195 : decode cX11_town 195 = .ok (.if_icmp .ge 16, 3) := by decide +kernel
theorem dX11_town_198 : decode cX11_town 198 = .ok (.aload_n 0, 1) := by decide +kernel
theorem dX11_town_199 : decode cX11_town 199 = .ok (.getfield 57, 3) := by decide +kernel
theorem dX11_town_202 : decode cX11_town 202 = .ok (.iload_n 2, 1) := by decide +kernel
theorem dX11_town_203 : decode cX11_town 203 = .ok (.iconst (-1), 1) := by decide +kernel
theorem dX11_town_204 : decode cX11_town 204 = .ok (.iastore, 1) := by decide +kernel
theorem dX11_town_205 : decode cX11_town 205 = .ok (.iinc 2 1, 3) := by decide +kernel
theorem dX11_town_208 : decode cX11_town 208 = .ok (.goto (-15), 3) := by decide +kernel
theorem dX11_town_211 : decode cX11_town 211 = .ok (.aload_n 0, 1) := by decide +kernel
theorem dX11_town_212 : decode cX11_town 212 = .ok (.getfield 126, 3) := by decide +kernel
theorem dX11_town_215 : decode cX11_town 215 = .ok (.ireturn, 1) := by decide +kernel
theorem dX11_isOne_0 : decode cX11_isOne 0 = .ok (.iload_n 1, 1) := by decide +kernel
theorem dX11_isOne_1 : decode cX11_isOne 1 = .ok (.iconst 0, 1) := by decide +kernel
theorem dX11_isOne_2 : decode cX11_isOne 2 = .ok (.aload_n 0, 1) := by decide +kernel
theorem dX11_isOne_3 : decode cX11_isOne 3 = .ok (.getfield 126, 3) := by decide +kernel
theorem dX11_isOne_6 : decode cX11_isOne 6 = .ok (.iconst 1, 1) := by decide +kernel
theorem dX11_isOne_7 : decode cX11_isOne 7 = .ok (.isub, 1) := by decide +kernel
theorem dX11_isOne_8 : decode cX11_isOne 8 = .ok (.invokestatic 76, 3) := by decide +kernel
theorem dX11_isOne_11 : decode cX11_isOne 11 = .ok (.ireturn, 1) := by decide +kernel
theorem dX11_isStreet_0 : decode cX11_isStreet 0 = .ok (.iload_n 0, 1) := by decide +kernel
theorem dX11_isStreet_1 : decode cX11_isStreet 1 = .ok (.iconst 0, 1) := by decide +kernel
theorem dX11_isStreet_2 : decode cX11_isStreet 2 = .ok (.iconst 4, 1) := by decide +kernel
theorem dX11_isStreet_3 : decode cX11_isStreet 3 = .ok (.invokestatic 76, 3) := by decide +kernel
theorem dX11_isStreet_6 : decode cX11_isStreet 6 = .ok (.ireturn, 1) := by decide +kernel
theorem dX11_isOf_0 : decode cX11_isOf 0 = .ok (.iload_n 0, 1) := by decide +kernel
theorem dX11_isOf_1 : decode cX11_isOf 1 = .ok (.iload_n 1, 1) := by decide +kernel
theorem dX11_isOf_2 : decode cX11_isOf 2 = .ok (.if_icmp .eq 23, 3) := by decide +kernel
theorem dX11_isOf_5 : decode cX11_isOf 5 = .ok (.iload_n 0, 1) := by decide +kernel
theorem dX11_isOf_6 : decode cX11_isOf 6 = .ok (.iconst 4, 1) := by decide +kernel
theorem dX11_isOf_7 : decode cX11_isOf 7 = .ok (.if_icmp .ne 8, 3) := by decide +kernel
theorem dX11_isOf_10 : decode cX11_isOf 10 = .ok (.iload_n 1, 1) := by decide +kernel
theorem dX11_isOf_11 : decode cX11_isOf 11 = .ok (.iconst 1, 1) := by decide +kernel
theorem dX11_isOf_12 : decode cX11_isOf 12 = .ok (.if_icmp .eq 13, 3) := by decide +kernel
theorem dX11_isOf_15 : decode cX11_isOf 15 = .ok (.iload_n 0, 1) := by decide +kernel
theorem dX11_isOf_16 : decode cX11_isOf 16 = .ok (.iconst 5, 1) := by decide +kernel
theorem dX11_isOf_17 : decode cX11_isOf 17 = .ok (.if_icmp .ne 12, 3) := by decide +kernel
theorem dX11_isOf_20 : decode cX11_isOf 20 = .ok (.iload_n 1, 1) := by decide +kernel
theorem dX11_isOf_21 : decode cX11_isOf 21 = .ok (.iconst 2, 1) := by decide +kernel
theorem dX11_isOf_22 : decode cX11_isOf 22 = .ok (.if_icmp .ne 7, 3) := by decide +kernel
theorem dX11_isOf_25 : decode cX11_isOf 25 = .ok (.iconst 1, 1) := by decide +kernel
theorem dX11_isOf_26 : decode cX11_isOf 26 = .ok (.goto 4, 3) := by decide +kernel
theorem dX11_isOf_29 : decode cX11_isOf 29 = .ok (.iconst 0, 1) := by decide +kernel
theorem dX11_isOf_30 : decode cX11_isOf 30 = .ok (.ireturn, 1) := by decide +kernel
theorem dX11_seen_0 : decode cX11_seen 0 = .ok (.aload_n 0, 1) := by decide +kernel
theorem dX11_seen_1 : decode cX11_seen 1 = .ok (.getfield 39, 3) := by decide +kernel
theorem dX11_seen_4 : decode cX11_seen 4 = .ok (.iload_n 1, 1) := by decide +kernel
theorem dX11_seen_5 : decode cX11_seen 5 = .ok (.iaload, 1) := by decide +kernel
theorem dX11_seen_6 : decode cX11_seen 6 = .ok (.iconst 3, 1) := by decide +kernel
theorem dX11_seen_7 : decode cX11_seen 7 = .ok (.if_icmp .ne 14, 3) := by decide +kernel
theorem dX11_seen_10 : decode cX11_seen 10 = .ok (.aload_n 0, 1) := by decide +kernel
theorem dX11_seen_11 : decode cX11_seen 11 = .ok (.getfield 42, 3) := by decide +kernel
theorem dX11_seen_14 : decode cX11_seen 14 = .ok (.iload_n 1, 1) := by decide +kernel
theorem dX11_seen_15 : decode cX11_seen 15 = .ok (.iaload, 1) := by decide +kernel
theorem dX11_seen_16 : decode cX11_seen 16 = .ok (.iconst 2, 1) := by decide +kernel
theorem dX11_seen_17 : decode cX11_seen 17 = .ok (.isub, 1) := by decide +kernel
theorem dX11_seen_18 : decode cX11_seen 18 = .ok (.goto 9, 3) := by decide +kernel
theorem dX11_seen_21 : decode cX11_seen 21 = .ok (.aload_n 0, 1) := by decide +kernel
theorem dX11_seen_22 : decode cX11_seen 22 = .ok (.getfield 42, 3) := by decide +kernel
theorem dX11_seen_25 : decode cX11_seen 25 = .ok (.iload_n 1, 1) := by decide +kernel
theorem dX11_seen_26 : decode cX11_seen 26 = .ok (.iaload, 1) := by decide +kernel
theorem dX11_seen_27 : decode cX11_seen 27 = .ok (.istore_n 2, 1) := by decide +kernel
theorem dX11_seen_28 : decode cX11_seen 28 = .ok (.iload_n 2, 1) := by decide +kernel
theorem dX11_seen_29 : decode cX11_seen 29 = .ok (.ifCond .ge 7, 3) := by decide +kernel
theorem dX11_seen_32 : decode cX11_seen 32 = .ok (.iconst 0, 1) := by decide +kernel
theorem dX11_seen_33 : decode cX11_seen 33 = .ok (.goto 4, 3) := by decide +kernel
theorem dX11_seen_36 : decode cX11_seen 36 = .ok (.iload_n 2, 1) := by decide +kernel
theorem dX11_seen_37 : decode cX11_seen 37 = .ok (.ireturn, 1) := by decide +kernel
theorem dX11_isHid_0 : decode cX11_isHid 0 = .ok (.aload_n 0, 1) := by decide +kernel
theorem dX11_isHid_1 : decode cX11_isHid 1 = .ok (.iload_n 2, 1) := by decide +kernel
theorem dX11_isHid_2 : decode cX11_isHid 2 = .ok (.invokevirtual 132, 3) := by decide +kernel
theorem dX11_isHid_5 : decode cX11_isHid 5 = .ok (.aload_n 1, 1) := by decide +kernel
theorem dX11_isHid_6 : decode cX11_isHid 6 = .ok (.iconst 1, 1) := by decide +kernel
theorem dX11_isHid_7 : decode cX11_isHid 7 = .ok (.aload_n 1, 1) := by decide +kernel
theorem dX11_isHid_8 : decode cX11_isHid 8 = .ok (.bipush 13, 2) := by decide +kernel
theorem dX11_isHid_10 : decode cX11_isHid 10 = .ok (.iload_n 2, 1) := by decide +kernel
theorem dX11_isHid_11 : decode cX11_isHid 11 = .ok (.iadd, 1) := by decide +kernel
theorem dX11_isHid_12 : decode cX11_isHid 12 = .ok (.iaload, 1) := by decide +kernel
theorem dX11_isHid_13 : decode cX11_isHid 13 = .ok (.iadd, 1) := by decide +kernel
theorem dX11_isHid_14 : decode cX11_isHid 14 = .ok (.iaload, 1) := by decide +kernel
theorem dX11_isHid_15 : decode cX11_isHid 15 = .ok (.if_icmp .gt 7, 3) := by decide +kernel
theorem dX11_isHid_18 : decode cX11_isHid 18 = .ok (.iconst 1, 1) := by decide +kernel
theorem dX11_isHid_19 : decode cX11_isHid 19 = .ok (.goto 4, 3) := by decide +kernel
theorem dX11_isHid_22 : decode cX11_isHid 22 = .ok (.iconst 0, 1) := by decide +kernel
theorem dX11_isHid_23 : decode cX11_isHid 23 = .ok (.ireturn, 1) := by decide +kernel
theorem dX11_nextTo_0 : decode cX11_nextTo 0 = .ok (.iconst 0, 1) := by decide +kernel
theorem dX11_nextTo_1 : decode cX11_nextTo 1 = .ok (.istore_n 3, 1) := by decide +kernel
theorem dX11_nextTo_2 : decode cX11_nextTo 2 = .ok (.bipush (-9), 2) := by decide +kernel
theorem dX11_nextTo_4 : decode cX11_nextTo 4 = .ok (.istore 4, 2) := by decide +kernel
theorem dX11_nextTo_6 : decode cX11_nextTo 6 = .ok (.bipush (-9), 2) := by decide +kernel
theorem dX11_nextTo_8 : decode cX11_nextTo 8 = .ok (.istore 5, 2) := by decide +kernel
theorem dX11_nextTo_10 : decode cX11_nextTo 10 = .ok (.aload_n 0, 1) := by decide +kernel
theorem dX11_nextTo_11 : decode cX11_nextTo 11 = .ok (.getfield 126, 3) := by decide +kernel
theorem dX11_nextTo_14 : decode cX11_nextTo 14 = .ok (.iconst 1, 1) := by decide +kernel
theorem dX11_nextTo_15 : decode cX11_nextTo 15 = .ok (.isub, 1) := by decide +kernel
theorem dX11_nextTo_16 : decode cX11_nextTo 16 = .ok (.istore 6, 2) := by decide +kernel
theorem dX11_nextTo_18 : decode cX11_nextTo 18 = .ok (.iload 6, 2) := by decide +kernel
theorem dX11_nextTo_20 : decode cX11_nextTo 20 = .ok (.ifCond .lt 79, 3) := by decide +kernel
theorem dX11_nextTo_23 : decode cX11_nextTo 23 = .ok (.aload_n 1, 1) := by decide +kernel
theorem dX11_nextTo_24 : decode cX11_nextTo 24 = .ok (.bipush 13, 2) := by decide +kernel
theorem dX11_nextTo_26 : decode cX11_nextTo 26 = .ok (.iload 6, 2) := by decide +kernel
theorem dX11_nextTo_28 : decode cX11_nextTo 28 = .ok (.iadd, 1) := by decide +kernel
theorem dX11_nextTo_29 : decode cX11_nextTo 29 = .ok (.iaload, 1) := by decide +kernel
theorem dX11_nextTo_30 : decode cX11_nextTo 30 = .ok (.aload_n 1, 1) := by decide +kernel
theorem dX11_nextTo_31 : decode cX11_nextTo 31 = .ok (.bipush 13, 2) := by decide +kernel
theorem dX11_nextTo_33 : decode cX11_nextTo 33 = .ok (.iload_n 2, 1) := by decide +kernel
theorem dX11_nextTo_34 : decode cX11_nextTo 34 = .ok (.iadd, 1) := by decide +kernel
theorem dX11_nextTo_35 : decode cX11_nextTo 35 = .ok (.iaload, 1) := by decide +kernel
theorem dX11_nextTo_36 : decode cX11_nextTo 36 = .ok (.if_icmp .ne 7, 3) := by decide +kernel
theorem dX11_nextTo_39 : decode cX11_nextTo 39 = .ok (.iconst 1, 1) := by decide +kernel
theorem dX11_nextTo_40 : decode cX11_nextTo 40 = .ok (.goto 4, 3) := by decide +kernel
theorem dX11_nextTo_43 : decode cX11_nextTo 43 = .ok (.iconst 0, 1) := by decide +kernel
theorem dX11_nextTo_44 : decode cX11_nextTo 44 = .ok (.istore 7, 2) := by decide +kernel
theorem dX11_nextTo_46 : decode cX11_nextTo 46 = .ok (.iload_n 3, 1) := by decide +kernel
theorem dX11_nextTo_47 : decode cX11_nextTo 47 = .ok (.iload 7, 2) := by decide +kernel
theorem dX11_nextTo_49 : decode cX11_nextTo 49 = .ok (.ifCond .eq 7, 3) := by decide +kernel
theorem dX11_nextTo_52 : decode cX11_nextTo 52 = .ok (.iconst 1, 1) := by decide +kernel
theorem dX11_nextTo_53 : decode cX11_nextTo 53 = .ok (.goto 4, 3) := by decide +kernel
theorem dX11_nextTo_56 : decode cX11_nextTo 56 = .ok (.iconst 0, 1) := by decide +kernel
theorem dX11_nextTo_57 : decode cX11_nextTo 57 = .ok (.iadd, 1) := by decide +kernel
theorem dX11_nextTo_58 : decode cX11_nextTo 58 = .ok (.istore_n 3, 1) := by decide +kernel
theorem dX11_nextTo_59 : decode cX11_nextTo 59 = .ok (.iload 7, 2) := by decide +kernel
theorem dX11_nextTo_61 : decode cX11_nextTo 61 = .ok (.ifCond .eq 8, 3) := by decide +kernel
theorem dX11_nextTo_64 : decode cX11_nextTo 64 = .ok (.iload 6, 2) := by decide +kernel
theorem dX11_nextTo_66 : decode cX11_nextTo 66 = .ok (.goto 5, 3) := by decide +kernel
theorem dX11_nextTo_69 : decode cX11_nextTo 69 = .ok (.iload 4, 2) := by decide +kernel
theorem dX11_nextTo_71 : decode cX11_nextTo 71 = .ok (.istore 4, 2) := by decide +kernel
theorem dX11_nextTo_73 : decode cX11_nextTo 73 = .ok (.iload 7, 2) := by decide +kernel
theorem dX11_nextTo_75 : decode cX11_nextTo 75 = .ok (.ifCond .eq 14, 3) := by decide +kernel
theorem dX11_nextTo_78 : decode cX11_nextTo 78 = .ok (.iload 6, 2) := by decide +kernel
theorem dX11_nextTo_80 : decode cX11_nextTo 80 = .ok (.iload_n 2, 1) := by decide +kernel
theorem dX11_nextTo_81 : decode cX11_nextTo 81 = .ok (.if_icmp .le 8, 3) := by decide +kernel
theorem dX11_nextTo_84 : decode cX11_nextTo 84 = .ok (.iload 6, 2) := by decide +kernel
theorem dX11_nextTo_86 : decode cX11_nextTo 86 = .ok (.goto 5, 3) := by decide +kernel
theorem dX11_nextTo_89 : decode cX11_nextTo 89 = .ok (.iload 5, 2) := by decide +kernel
theorem dX11_nextTo_91 : decode cX11_nextTo 91 = .ok (.istore 5, 2) := by decide +kernel
theorem dX11_nextTo_93 : decode cX11_nextTo 93 = .ok (.iinc 6 (-1), 3) := by decide +kernel
theorem dX11_nextTo_96 : decode cX11_nextTo 96 = .ok (.goto (-78), 3) := by decide +kernel
theorem dX11_nextTo_99 : decode cX11_nextTo 99 = .ok (.iload 5, 2) := by decide +kernel
theorem dX11_nextTo_101 : decode cX11_nextTo 101 = .ok (.bipush (-9), 2) := by decide +kernel
theorem dX11_nextTo_103 : decode cX11_nextTo 103 = .ok (.if_icmp .eq 8, 3) := by decide +kernel
theorem dX11_nextTo_106 : decode cX11_nextTo 106 = .ok (.iload 5, 2) := by decide +kernel
theorem dX11_nextTo_108 : decode cX11_nextTo 108 = .ok (.goto 15, 3) := by decide +kernel
theorem dX11_nextTo_111 : decode cX11_nextTo 111 = .ok (.iload_n 3, 1) := by decide +kernel
theorem dX11_nextTo_112 : decode cX11_nextTo 112 = .ok (.iconst 2, 1) := by decide +kernel
theorem dX11_nextTo_113 : decode cX11_nextTo 113 = .ok (.if_icmp .le 8, 3) := by decide +kernel
theorem dX11_nextTo_116 : decode cX11_nextTo 116 = .ok (.iload 4, 2) := by decide +kernel
theorem dX11_nextTo_118 : decode cX11_nextTo 118 = .ok (.goto 5, 3) := by decide +kernel
theorem dX11_nextTo_121 : decode cX11_nextTo 121 = .ok (.bipush (-9), 2) := by decide +kernel
theorem dX11_nextTo_123 : decode cX11_nextTo 123 = .ok (.ireturn, 1) := by decide +kernel
theorem dX11_isMet_0 : decode cX11_isMet 0 = .ok (.aload_n 0, 1) := by decide +kernel
theorem dX11_isMet_1 : decode cX11_isMet 1 = .ok (.getfield 45, 3) := by decide +kernel
theorem dX11_isMet_4 : decode cX11_isMet 4 = .ok (.iload_n 2, 1) := by decide +kernel
theorem dX11_isMet_5 : decode cX11_isMet 5 = .ok (.iaload, 1) := by decide +kernel
theorem dX11_isMet_6 : decode cX11_isMet 6 = .ok (.istore_n 3, 1) := by decide +kernel
theorem dX11_isMet_7 : decode cX11_isMet 7 = .ok (.iload_n 3, 1) := by decide +kernel
theorem dX11_isMet_8 : decode cX11_isMet 8 = .ok (.iload_n 2, 1) := by decide +kernel
theorem dX11_isMet_9 : decode cX11_isMet 9 = .ok (.if_icmp .eq 27, 3) := by decide +kernel
theorem dX11_isMet_12 : decode cX11_isMet 12 = .ok (.aload_n 0, 1) := by decide +kernel
theorem dX11_isMet_13 : decode cX11_isMet 13 = .ok (.aload_n 1, 1) := by decide +kernel
theorem dX11_isMet_14 : decode cX11_isMet 14 = .ok (.iload_n 2, 1) := by decide +kernel
theorem dX11_isMet_15 : decode cX11_isMet 15 = .ok (.invokevirtual 135, 3) := by decide +kernel
theorem dX11_isMet_18 : decode cX11_isMet 18 = .ok (.iload_n 3, 1) := by decide +kernel
theorem dX11_isMet_19 : decode cX11_isMet 19 = .ok (.if_icmp .eq 13, 3) := by decide +kernel
theorem dX11_isMet_22 : decode cX11_isMet 22 = .ok (.aload_n 0, 1) := by decide +kernel
theorem dX11_isMet_23 : decode cX11_isMet 23 = .ok (.aload_n 1, 1) := by decide +kernel
theorem dX11_isMet_24 : decode cX11_isMet 24 = .ok (.iload_n 3, 1) := by decide +kernel
theorem dX11_isMet_25 : decode cX11_isMet 25 = .ok (.invokevirtual 135, 3) := by decide +kernel
theorem dX11_isMet_28 : decode cX11_isMet 28 = .ok (.iload_n 2, 1) := by decide +kernel
theorem dX11_isMet_29 : decode cX11_isMet 29 = .ok (.if_icmp .ne 7, 3) := by decide +kernel
theorem dX11_isMet_32 : decode cX11_isMet 32 = .ok (.iconst 1, 1) := by decide +kernel
theorem dX11_isMet_33 : decode cX11_isMet 33 = .ok (.goto 4, 3) := by decide +kernel
theorem dX11_isMet_36 : decode cX11_isMet 36 = .ok (.iconst 0, 1) := by decide +kernel
theorem dX11_isMet_37 : decode cX11_isMet 37 = .ok (.ireturn, 1) := by decide +kernel
theorem dX11_isForgiven_0 : decode cX11_isForgiven 0 = .ok (.aload_n 0, 1) := by decide +kernel
theorem dX11_isForgiven_1 : decode cX11_isForgiven 1 = .ok (.getfield 39, 3) := by decide +kernel
theorem dX11_isForgiven_4 : decode cX11_isForgiven 4 = .ok (.iload_n 2, 1) := by decide +kernel
theorem dX11_isForgiven_5 : decode cX11_isForgiven 5 = .ok (.iaload, 1) := by decide +kernel
theorem dX11_isForgiven_6 : decode cX11_isForgiven 6 = .ok (.iconst 4, 1) := by decide +kernel
theorem dX11_isForgiven_7 : decode cX11_isForgiven 7 = .ok (.if_icmp .eq 17, 3) := by decide +kernel
theorem dX11_isForgiven_10 : decode cX11_isForgiven 10 = .ok (.aload_n 0, 1) := by decide +kernel
theorem dX11_isForgiven_11 : decode cX11_isForgiven 11 = .ok (.aload_n 1, 1) := by decide +kernel
theorem dX11_isForgiven_12 : decode cX11_isForgiven 12 = .ok (.aload_n 0, 1) := by decide +kernel
theorem dX11_isForgiven_13 : decode cX11_isForgiven 13 = .ok (.getfield 45, 3) := by decide +kernel
theorem dX11_isForgiven_16 : decode cX11_isForgiven 16 = .ok (.iload_n 2, 1) := by decide +kernel
theorem dX11_isForgiven_17 : decode cX11_isForgiven 17 = .ok (.iaload, 1) := by decide +kernel
theorem dX11_isForgiven_18 : decode cX11_isForgiven 18 = .ok (.invokevirtual 139, 3) := by decide +kernel
theorem dX11_isForgiven_21 : decode cX11_isForgiven 21 = .ok (.ifCond .eq 7, 3) := by decide +kernel
theorem dX11_isForgiven_24 : decode cX11_isForgiven 24 = .ok (.iconst 1, 1) := by decide +kernel
theorem dX11_isForgiven_25 : decode cX11_isForgiven 25 = .ok (.goto 4, 3) := by decide +kernel
theorem dX11_isForgiven_28 : decode cX11_isForgiven 28 = .ok (.iconst 0, 1) := by decide +kernel
theorem dX11_isForgiven_29 : decode cX11_isForgiven 29 = .ok (.ireturn, 1) := by decide +kernel
theorem dX11_lessBy_0 : decode cX11_lessBy 0 = .ok (.iload_n 0, 1) := by decide +kernel
theorem dX11_lessBy_1 : decode cX11_lessBy 1 = .ok (.iconst 1, 1) := by decide +kernel
theorem dX11_lessBy_2 : decode cX11_lessBy 2 = .ok (.invokestatic 143, 3) := by decide +kernel
theorem dX11_lessBy_5 : decode cX11_lessBy 5 = .ok (.ifCond .eq 7, 3) := by decide +kernel
theorem dX11_lessBy_8 : decode cX11_lessBy 8 = .ok (.iconst 2, 1) := by decide +kernel
theorem dX11_lessBy_9 : decode cX11_lessBy 9 = .ok (.goto 20, 3) := by decide +kernel
theorem dX11_lessBy_12 : decode cX11_lessBy 12 = .ok (.iload_n 0, 1) := by decide +kernel
theorem dX11_lessBy_13 : decode cX11_lessBy 13 = .ok (.iconst 2, 1) := by decide +kernel
theorem dX11_lessBy_14 : decode cX11_lessBy 14 = .ok (.invokestatic 143, 3) := by decide +kernel
theorem dX11_lessBy_17 : decode cX11_lessBy 17 = .ok (.ifCond .eq 11, 3) := by decide +kernel
theorem dX11_lessBy_20 : decode cX11_lessBy 20 = .ok (.iconst 1, 1) := by decide +kernel
theorem dX11_lessBy_21 : decode cX11_lessBy 21 = .ok (.iload_n 1, 1) := by decide +kernel
theorem dX11_lessBy_22 : decode cX11_lessBy 22 = .ok (.iconst 2, 1) := by decide +kernel
theorem dX11_lessBy_23 : decode cX11_lessBy 23 = .ok (.irem, 1) := by decide +kernel
theorem dX11_lessBy_24 : decode cX11_lessBy 24 = .ok (.isub, 1) := by decide +kernel
theorem dX11_lessBy_25 : decode cX11_lessBy 25 = .ok (.goto 4, 3) := by decide +kernel
theorem dX11_lessBy_28 : decode cX11_lessBy 28 = .ok (.iconst 1, 1) := by decide +kernel
theorem dX11_lessBy_29 : decode cX11_lessBy 29 = .ok (.ireturn, 1) := by decide +kernel
theorem dX11_grudgeThen_0 : decode cX11_grudgeThen 0 = .ok (.aload_n 1, 1) := by decide +kernel
theorem dX11_grudgeThen_1 : decode cX11_grudgeThen 1 = .ok (.bipush 6, 2) := by decide +kernel
theorem dX11_grudgeThen_3 : decode cX11_grudgeThen 3 = .ok (.iload_n 2, 1) := by decide +kernel
theorem dX11_grudgeThen_4 : decode cX11_grudgeThen 4 = .ok (.iadd, 1) := by decide +kernel
theorem dX11_grudgeThen_5 : decode cX11_grudgeThen 5 = .ok (.iaload, 1) := by decide +kernel
theorem dX11_grudgeThen_6 : decode cX11_grudgeThen 6 = .ok (.istore_n 3, 1) := by decide +kernel
theorem dX11_grudgeThen_7 : decode cX11_grudgeThen 7 = .ok (.aload_n 0, 1) := by decide +kernel
theorem dX11_grudgeThen_8 : decode cX11_grudgeThen 8 = .ok (.aload_n 1, 1) := by decide +kernel
theorem dX11_grudgeThen_9 : decode cX11_grudgeThen 9 = .ok (.iload_n 2, 1) := by decide +kernel
theorem dX11_grudgeThen_10 : decode cX11_grudgeThen 10 = .ok (.invokevirtual 147, 3) := by decide +kernel
theorem dX11_grudgeThen_13 : decode cX11_grudgeThen 13 = .ok (.ifCond .ne 5, 3) := by decide +kernel
theorem dX11_grudgeThen_16 : decode cX11_grudgeThen 16 = .ok (.iload_n 3, 1) := by decide +kernel
theorem dX11_grudgeThen_17 : decode cX11_grudgeThen 17 = .ok (.ireturn, 1) := by decide +kernel
theorem dX11_grudgeThen_18 : decode cX11_grudgeThen 18 = .ok (.aload_n 0, 1) := by decide +kernel
theorem dX11_grudgeThen_19 : decode cX11_grudgeThen 19 = .ok (.aload_n 1, 1) := by decide +kernel
theorem dX11_grudgeThen_20 : decode cX11_grudgeThen 20 = .ok (.iload_n 2, 1) := by decide +kernel
theorem dX11_grudgeThen_21 : decode cX11_grudgeThen 21 = .ok (.invokevirtual 150, 3) := by decide +kernel
theorem dX11_grudgeThen_24 : decode cX11_grudgeThen 24 = .ok (.ifCond .eq 32, 3) := by decide +kernel
theorem dX11_grudgeThen_27 : decode cX11_grudgeThen 27 = .ok (.aload_n 0, 1) := by decide +kernel
theorem dX11_grudgeThen_28 : decode cX11_grudgeThen 28 = .ok (.getfield 39, 3) := by decide +kernel
theorem dX11_grudgeThen_31 : decode cX11_grudgeThen 31 = .ok (.iload_n 2, 1) := by decide +kernel
theorem dX11_grudgeThen_32 : decode cX11_grudgeThen 32 = .ok (.iaload, 1) := by decide +kernel
theorem dX11_grudgeThen_33 : decode cX11_grudgeThen 33 = .ok (.aload_n 1, 1) := by decide +kernel
theorem dX11_grudgeThen_34 : decode cX11_grudgeThen 34 = .ok (.iconst 0, 1) := by decide +kernel
theorem dX11_grudgeThen_35 : decode cX11_grudgeThen 35 = .ok (.iaload, 1) := by decide +kernel
theorem dX11_grudgeThen_36 : decode cX11_grudgeThen 36 = .ok (.invokestatic 153, 3) := by decide +kernel
theorem dX11_grudgeThen_39 : decode cX11_grudgeThen 39 = .ok (.istore 4, 2) := by decide +kernel
theorem dX11_grudgeThen_41 : decode cX11_grudgeThen 41 = .ok (.iload_n 3, 1) := by decide +kernel
theorem dX11_grudgeThen_42 : decode cX11_grudgeThen 42 = .ok (.iload 4, 2) := by decide +kernel
theorem dX11_grudgeThen_44 : decode cX11_grudgeThen 44 = .ok (.if_icmp .le 10, 3) := by decide +kernel
theorem dX11_grudgeThen_47 : decode cX11_grudgeThen 47 = .ok (.iload_n 3, 1) := by decide +kernel
theorem dX11_grudgeThen_48 : decode cX11_grudgeThen 48 = .ok (.iload 4, 2) := by decide +kernel
theorem dX11_grudgeThen_50 : decode cX11_grudgeThen 50 = .ok (.isub, 1) := by decide +kernel
theorem dX11_grudgeThen_51 : decode cX11_grudgeThen 51 = .ok (.goto 4, 3) := by decide +kernel
theorem dX11_grudgeThen_54 : decode cX11_grudgeThen 54 = .ok (.iconst 0, 1) := by decide +kernel
theorem dX11_grudgeThen_55 : decode cX11_grudgeThen 55 = .ok (.ireturn, 1) := by decide +kernel
theorem dX11_grudgeThen_56 : decode cX11_grudgeThen 56 = .ok (.aload_n 0, 1) := by decide +kernel
theorem dX11_grudgeThen_57 : decode cX11_grudgeThen 57 = .ok (.getfield 39, 3) := by decide +kernel
theorem dX11_grudgeThen_60 : decode cX11_grudgeThen 60 = .ok (.iload_n 2, 1) := by decide +kernel
theorem dX11_grudgeThen_61 : decode cX11_grudgeThen 61 = .ok (.iaload, 1) := by decide +kernel
theorem dX11_grudgeThen_62 : decode cX11_grudgeThen 62 = .ok (.iconst 5, 1) := by decide +kernel
theorem dX11_grudgeThen_63 : decode cX11_grudgeThen 63 = .ok (.if_icmp .eq 9, 3) := by decide +kernel
theorem dX11_grudgeThen_66 : decode cX11_grudgeThen 66 = .ok (.iload_n 3, 1) := by decide +kernel
theorem dX11_grudgeThen_67 : decode cX11_grudgeThen 67 = .ok (.bipush 9, 2) := by decide +kernel
theorem dX11_grudgeThen_69 : decode cX11_grudgeThen 69 = .ok (.if_icmp .ne 7, 3) := by decide +kernel
theorem dX11_grudgeThen_72 : decode cX11_grudgeThen 72 = .ok (.iload_n 3, 1) := by decide +kernel
theorem dX11_grudgeThen_73 : decode cX11_grudgeThen 73 = .ok (.goto 6, 3) := by decide +kernel
theorem dX11_grudgeThen_76 : decode cX11_grudgeThen 76 = .ok (.iload_n 3, 1) := by decide +kernel
theorem dX11_grudgeThen_77 : decode cX11_grudgeThen 77 = .ok (.iconst 1, 1) := by decide +kernel
theorem dX11_grudgeThen_78 : decode cX11_grudgeThen 78 = .ok (.iadd, 1) := by decide +kernel
theorem dX11_grudgeThen_79 : decode cX11_grudgeThen 79 = .ok (.ireturn, 1) := by decide +kernel
theorem dX11_passes_0 : decode cX11_passes 0 = .ok (.iconst 0, 1) := by decide +kernel
theorem dX11_passes_1 : decode cX11_passes 1 = .ok (.istore_n 2, 1) := by decide +kernel
theorem dX11_passes_2 : decode cX11_passes 2 = .ok (.iload_n 2, 1) := by decide +kernel
theorem dX11_passes_3 : decode cX11_passes 3 = .ok (.aload_n 0, 1) := by decide +kernel
theorem dX11_passes_4 : decode cX11_passes 4 = .ok (.getfield 126, 3) := by decide +kernel
theorem dX11_passes_7 : decode cX11_passes 7 = .ok (.if_icmp .ge 21, 3) := by decide +kernel
theorem dX11_passes_10 : decode cX11_passes 10 = .ok (.aload_n 1, 1) := by decide +kernel
theorem dX11_passes_11 : decode cX11_passes 11 = .ok (.bipush 6, 2) := by decide +kernel
theorem dX11_passes_13 : decode cX11_passes 13 = .ok (.iload_n 2, 1) := by decide +kernel
theorem dX11_passes_14 : decode cX11_passes 14 = .ok (.iadd, 1) := by decide +kernel
theorem dX11_passes_15 : decode cX11_passes 15 = .ok (.aload_n 0, 1) := by decide +kernel
theorem dX11_passes_16 : decode cX11_passes 16 = .ok (.aload_n 1, 1) := by decide +kernel
theorem dX11_passes_17 : decode cX11_passes 17 = .ok (.iload_n 2, 1) := by decide +kernel
theorem dX11_passes_18 : decode cX11_passes 18 = .ok (.invokevirtual 156, 3) := by decide +kernel
theorem dX11_passes_21 : decode cX11_passes 21 = .ok (.iastore, 1) := by decide +kernel
theorem dX11_passes_22 : decode cX11_passes 22 = .ok (.iinc 2 1, 3) := by decide +kernel
theorem dX11_passes_25 : decode cX11_passes 25 = .ok (.goto (-23), 3) := by decide +kernel
theorem dX11_passes_28 : decode cX11_passes 28 = .ok (.aload_n 1, 1) := by decide +kernel
theorem dX11_passes_29 : decode cX11_passes 29 = .ok (.iconst 0, 1) := by decide +kernel
theorem dX11_passes_30 : decode cX11_passes 30 = .ok (.dup2, 1) := by decide +kernel
theorem dX11_passes_31 : decode cX11_passes 31 = .ok (.iaload, 1) := by decide +kernel
theorem dX11_passes_32 : decode cX11_passes 32 = .ok (.iconst 1, 1) := by decide +kernel
theorem dX11_passes_33 : decode cX11_passes 33 = .ok (.iadd, 1) := by decide +kernel
theorem dX11_passes_34 : decode cX11_passes 34 = .ok (.iastore, 1) := by decide +kernel
theorem dX11_passes_35 : decode cX11_passes 35 = .ok (.return_, 1) := by decide +kernel
theorem dX11_all_0 : decode cX11_all 0 = .ok (.iconst 0, 1) := by decide +kernel
theorem dX11_all_1 : decode cX11_all 1 = .ok (.istore_n 2, 1) := by decide +kernel
theorem dX11_all_2 : decode cX11_all 2 = .ok (.iconst 0, 1) := by decide +kernel
theorem dX11_all_3 : decode cX11_all 3 = .ok (.istore_n 3, 1) := by decide +kernel
theorem dX11_all_4 : decode cX11_all 4 = .ok (.iload_n 3, 1) := by decide +kernel
theorem dX11_all_5 : decode cX11_all 5 = .ok (.aload_n 0, 1) := by decide +kernel
theorem dX11_all_6 : decode cX11_all 6 = .ok (.getfield 126, 3) := by decide +kernel
theorem dX11_all_9 : decode cX11_all 9 = .ok (.if_icmp .ge 18, 3) := by decide +kernel
theorem dX11_all_12 : decode cX11_all 12 = .ok (.iload_n 2, 1) := by decide +kernel
theorem dX11_all_13 : decode cX11_all 13 = .ok (.aload_n 1, 1) := by decide +kernel
theorem dX11_all_14 : decode cX11_all 14 = .ok (.bipush 6, 2) := by decide +kernel
theorem dX11_all_16 : decode cX11_all 16 = .ok (.iload_n 3, 1) := by decide +kernel
theorem dX11_all_17 : decode cX11_all 17 = .ok (.iadd, 1) := by decide +kernel
theorem dX11_all_18 : decode cX11_all 18 = .ok (.iaload, 1) := by decide +kernel
theorem dX11_all_19 : decode cX11_all 19 = .ok (.iadd, 1) := by decide +kernel
theorem dX11_all_20 : decode cX11_all 20 = .ok (.istore_n 2, 1) := by decide +kernel
theorem dX11_all_21 : decode cX11_all 21 = .ok (.iinc 3 1, 3) := by decide +kernel
theorem dX11_all_24 : decode cX11_all 24 = .ok (.goto (-20), 3) := by decide +kernel
theorem dX11_all_27 : decode cX11_all 27 = .ok (.iload_n 2, 1) := by decide +kernel
theorem dX11_all_28 : decode cX11_all 28 = .ok (.ireturn, 1) := by decide +kernel
theorem dX11_calm_0 : decode cX11_calm 0 = .ok (.iconst 0, 1) := by decide +kernel
theorem dX11_calm_1 : decode cX11_calm 1 = .ok (.istore_n 2, 1) := by decide +kernel
theorem dX11_calm_2 : decode cX11_calm 2 = .ok (.iconst 0, 1) := by decide +kernel
theorem dX11_calm_3 : decode cX11_calm 3 = .ok (.istore_n 3, 1) := by decide +kernel
theorem dX11_calm_4 : decode cX11_calm 4 = .ok (.iload_n 3, 1) := by decide +kernel
theorem dX11_calm_5 : decode cX11_calm 5 = .ok (.aload_n 0, 1) := by decide +kernel
theorem dX11_calm_6 : decode cX11_calm 6 = .ok (.getfield 126, 3) := by decide +kernel
theorem dX11_calm_9 : decode cX11_calm 9 = .ok (.if_icmp .ge 28, 3) := by decide +kernel
theorem dX11_calm_12 : decode cX11_calm 12 = .ok (.iload_n 2, 1) := by decide +kernel
theorem dX11_calm_13 : decode cX11_calm 13 = .ok (.aload_n 1, 1) := by decide +kernel
theorem dX11_calm_14 : decode cX11_calm 14 = .ok (.bipush 6, 2) := by decide +kernel
theorem dX11_calm_16 : decode cX11_calm 16 = .ok (.iload_n 3, 1) := by decide +kernel
theorem dX11_calm_17 : decode cX11_calm 17 = .ok (.iadd, 1) := by decide +kernel
theorem dX11_calm_18 : decode cX11_calm 18 = .ok (.iaload, 1) := by decide +kernel
theorem dX11_calm_19 : decode cX11_calm 19 = .ok (.ifCond .ne 9, 3) := by decide +kernel
theorem dX11_calm_22 : decode cX11_calm 22 = .ok (.iconst 1, 1) := by decide +kernel
theorem dX11_calm_23 : decode cX11_calm 23 = .ok (.iload_n 3, 1) := by decide +kernel
theorem dX11_calm_24 : decode cX11_calm 24 = .ok (.ishl, 1) := by decide +kernel
theorem dX11_calm_25 : decode cX11_calm 25 = .ok (.goto 4, 3) := by decide +kernel
theorem dX11_calm_28 : decode cX11_calm 28 = .ok (.iconst 0, 1) := by decide +kernel
theorem dX11_calm_29 : decode cX11_calm 29 = .ok (.ior, 1) := by decide +kernel
theorem dX11_calm_30 : decode cX11_calm 30 = .ok (.istore_n 2, 1) := by decide +kernel
theorem dX11_calm_31 : decode cX11_calm 31 = .ok (.iinc 3 1, 3) := by decide +kernel
theorem dX11_calm_34 : decode cX11_calm 34 = .ok (.goto (-30), 3) := by decide +kernel
theorem dX11_calm_37 : decode cX11_calm 37 = .ok (.iload_n 2, 1) := by decide +kernel
theorem dX11_calm_38 : decode cX11_calm 38 = .ok (.ireturn, 1) := by decide +kernel
theorem dX11_copyNow_0 : decode cX11_copyNow 0 = .ok (.iconst 0, 1) := by decide +kernel
theorem dX11_copyNow_1 : decode cX11_copyNow 1 = .ok (.istore_n 1, 1) := by decide +kernel
theorem dX11_copyNow_2 : decode cX11_copyNow 2 = .ok (.iload_n 1, 1) := by decide +kernel
theorem dX11_copyNow_3 : decode cX11_copyNow 3 = .ok (.bipush 20, 2) := by decide +kernel
theorem dX11_copyNow_5 : decode cX11_copyNow 5 = .ok (.if_icmp .ge 21, 3) := by decide +kernel
theorem dX11_copyNow_8 : decode cX11_copyNow 8 = .ok (.aload_n 0, 1) := by decide +kernel
theorem dX11_copyNow_9 : decode cX11_copyNow 9 = .ok (.getfield 51, 3) := by decide +kernel
theorem dX11_copyNow_12 : decode cX11_copyNow 12 = .ok (.iload_n 1, 1) := by decide +kernel
theorem dX11_copyNow_13 : decode cX11_copyNow 13 = .ok (.aload_n 0, 1) := by decide +kernel
theorem dX11_copyNow_14 : decode cX11_copyNow 14 = .ok (.getfield 48, 3) := by decide +kernel
theorem dX11_copyNow_17 : decode cX11_copyNow 17 = .ok (.iload_n 1, 1) := by decide +kernel
theorem dX11_copyNow_18 : decode cX11_copyNow 18 = .ok (.iaload, 1) := by decide +kernel
theorem dX11_copyNow_19 : decode cX11_copyNow 19 = .ok (.iastore, 1) := by decide +kernel
theorem dX11_copyNow_20 : decode cX11_copyNow 20 = .ok (.iinc 1 1, 3) := by decide +kernel
theorem dX11_copyNow_23 : decode cX11_copyNow 23 = .ok (.goto (-21), 3) := by decide +kernel
theorem dX11_copyNow_26 : decode cX11_copyNow 26 = .ok (.return_, 1) := by decide +kernel
theorem dX11_allBehind_0 : decode cX11_allBehind 0 = .ok (.iconst 0, 1) := by decide +kernel
theorem dX11_allBehind_1 : decode cX11_allBehind 1 = .ok (.istore_n 2, 1) := by decide +kernel
theorem dX11_allBehind_2 : decode cX11_allBehind 2 = .ok (.iload_n 2, 1) := by decide +kernel
theorem dX11_allBehind_3 : decode cX11_allBehind 3 = .ok (.iload_n 1, 1) := by decide +kernel
theorem dX11_allBehind_4 : decode cX11_allBehind 4 = .ok (.if_icmp .ge 17, 3) := by decide +kernel
theorem dX11_allBehind_7 : decode cX11_allBehind 7 = .ok (.aload_n 0, 1) := by decide +kernel
theorem dX11_allBehind_8 : decode cX11_allBehind 8 = .ok (.aload_n 0, 1) := by decide +kernel
theorem dX11_allBehind_9 : decode cX11_allBehind 9 = .ok (.getfield 51, 3) := by decide +kernel
theorem dX11_allBehind_12 : decode cX11_allBehind 12 = .ok (.invokevirtual 159, 3) := by decide +kernel
theorem dX11_allBehind_15 : decode cX11_allBehind 15 = .ok (.iinc 2 1, 3) := by decide +kernel
theorem dX11_allBehind_18 : decode cX11_allBehind 18 = .ok (.goto (-16), 3) := by decide +kernel
theorem dX11_allBehind_21 : decode cX11_allBehind 21 = .ok (.aload_n 0, 1) := by decide +kernel
theorem dX11_allBehind_22 : decode cX11_allBehind 22 = .ok (.aload_n 0, 1) := by decide +kernel
theorem dX11_allBehind_23 : decode cX11_allBehind 23 = .ok (.getfield 51, 3) := by decide +kernel
theorem dX11_allBehind_26 : decode cX11_allBehind 26 = .ok (.invokevirtual 163, 3) := by decide +kernel
theorem dX11_allBehind_29 : decode cX11_allBehind 29 = .ok (.ireturn, 1) := by decide +kernel
theorem dX11_personTells_0 : decode cX11_personTells 0 = .ok (.iload_n 2, 1) := by decide +kernel
theorem dX11_personTells_1 : decode cX11_personTells 1 = .ok (.tableswitch 112 0 5 #[39, 46, 53, 74, 84, 94], 39) := by decide +kernel
theorem dX11_personTells_40 : decode cX11_personTells 40 = .ok (.aload_n 0, 1) := by decide +kernel
theorem dX11_personTells_41 : decode cX11_personTells 41 = .ok (.getfield 39, 3) := by decide +kernel
theorem dX11_personTells_44 : decode cX11_personTells 44 = .ok (.iload_n 1, 1) := by decide +kernel
theorem dX11_personTells_45 : decode cX11_personTells 45 = .ok (.iaload, 1) := by decide +kernel
theorem dX11_personTells_46 : decode cX11_personTells 46 = .ok (.ireturn, 1) := by decide +kernel
theorem dX11_personTells_47 : decode cX11_personTells 47 = .ok (.aload_n 0, 1) := by decide +kernel
theorem dX11_personTells_48 : decode cX11_personTells 48 = .ok (.getfield 42, 3) := by decide +kernel
theorem dX11_personTells_51 : decode cX11_personTells 51 = .ok (.iload_n 1, 1) := by decide +kernel
theorem dX11_personTells_52 : decode cX11_personTells 52 = .ok (.iaload, 1) := by decide +kernel
theorem dX11_personTells_53 : decode cX11_personTells 53 = .ok (.ireturn, 1) := by decide +kernel
theorem dX11_personTells_54 : decode cX11_personTells 54 = .ok (.aload_n 0, 1) := by decide +kernel
theorem dX11_personTells_55 : decode cX11_personTells 55 = .ok (.getfield 45, 3) := by decide +kernel
theorem dX11_personTells_58 : decode cX11_personTells 58 = .ok (.iload_n 1, 1) := by decide +kernel
theorem dX11_personTells_59 : decode cX11_personTells 59 = .ok (.iaload, 1) := by decide +kernel
theorem dX11_personTells_60 : decode cX11_personTells 60 = .ok (.iload_n 1, 1) := by decide +kernel
theorem dX11_personTells_61 : decode cX11_personTells 61 = .ok (.if_icmp .ne 7, 3) := by decide +kernel
theorem dX11_personTells_64 : decode cX11_personTells 64 = .ok (.iconst (-1), 1) := by decide +kernel
theorem dX11_personTells_65 : decode cX11_personTells 65 = .ok (.goto 9, 3) := by decide +kernel
theorem dX11_personTells_68 : decode cX11_personTells 68 = .ok (.aload_n 0, 1) := by decide +kernel
theorem dX11_personTells_69 : decode cX11_personTells 69 = .ok (.getfield 45, 3) := by decide +kernel
theorem dX11_personTells_72 : decode cX11_personTells 72 = .ok (.iload_n 1, 1) := by decide +kernel
theorem dX11_personTells_73 : decode cX11_personTells 73 = .ok (.iaload, 1) := by decide +kernel
theorem dX11_personTells_74 : decode cX11_personTells 74 = .ok (.ireturn, 1) := by decide +kernel
theorem dX11_personTells_75 : decode cX11_personTells 75 = .ok (.aload_n 0, 1) := by decide +kernel
theorem dX11_personTells_76 : decode cX11_personTells 76 = .ok (.getfield 48, 3) := by decide +kernel
theorem dX11_personTells_79 : decode cX11_personTells 79 = .ok (.bipush 6, 2) := by decide +kernel
theorem dX11_personTells_81 : decode cX11_personTells 81 = .ok (.iload_n 1, 1) := by decide +kernel
theorem dX11_personTells_82 : decode cX11_personTells 82 = .ok (.iadd, 1) := by decide +kernel
theorem dX11_personTells_83 : decode cX11_personTells 83 = .ok (.iaload, 1) := by decide +kernel
theorem dX11_personTells_84 : decode cX11_personTells 84 = .ok (.ireturn, 1) := by decide +kernel
theorem dX11_personTells_85 : decode cX11_personTells 85 = .ok (.aload_n 0, 1) := by decide +kernel
theorem dX11_personTells_86 : decode cX11_personTells 86 = .ok (.getfield 48, 3) := by decide +kernel
theorem dX11_personTells_89 : decode cX11_personTells 89 = .ok (.bipush 13, 2) := by decide +kernel
theorem dX11_personTells_91 : decode cX11_personTells 91 = .ok (.iload_n 1, 1) := by decide +kernel
theorem dX11_personTells_92 : decode cX11_personTells 92 = .ok (.iadd, 1) := by decide +kernel
theorem dX11_personTells_93 : decode cX11_personTells 93 = .ok (.iaload, 1) := by decide +kernel
theorem dX11_personTells_94 : decode cX11_personTells 94 = .ok (.ireturn, 1) := by decide +kernel
theorem dX11_personTells_95 : decode cX11_personTells 95 = .ok (.aload_n 0, 1) := by decide +kernel
theorem dX11_personTells_96 : decode cX11_personTells 96 = .ok (.aload_n 0, 1) := by decide +kernel
theorem dX11_personTells_97 : decode cX11_personTells 97 = .ok (.getfield 48, 3) := by decide +kernel
theorem dX11_personTells_100 : decode cX11_personTells 100 = .ok (.iload_n 1, 1) := by decide +kernel
theorem dX11_personTells_101 : decode cX11_personTells 101 = .ok (.invokevirtual 139, 3) := by decide +kernel
theorem dX11_personTells_104 : decode cX11_personTells 104 = .ok (.ifCond .eq 7, 3) := by decide +kernel
theorem dX11_personTells_107 : decode cX11_personTells 107 = .ok (.iconst 1, 1) := by decide +kernel
theorem dX11_personTells_108 : decode cX11_personTells 108 = .ok (.goto 4, 3) := by decide +kernel
theorem dX11_personTells_111 : decode cX11_personTells 111 = .ok (.iconst 0, 1) := by decide +kernel
theorem dX11_personTells_112 : decode cX11_personTells 112 = .ok (.ireturn, 1) := by decide +kernel
theorem dX11_personTells_113 : decode cX11_personTells 113 = .ok (.aload_n 0, 1) := by decide +kernel
theorem dX11_personTells_114 : decode cX11_personTells 114 = .ok (.aload_n 0, 1) := by decide +kernel
theorem dX11_personTells_115 : decode cX11_personTells 115 = .ok (.getfield 48, 3) := by decide +kernel
theorem dX11_personTells_118 : decode cX11_personTells 118 = .ok (.iload_n 1, 1) := by decide +kernel
theorem dX11_personTells_119 : decode cX11_personTells 119 = .ok (.invokevirtual 147, 3) := by decide +kernel
theorem dX11_personTells_122 : decode cX11_personTells 122 = .ok (.ifCond .eq 7, 3) := by decide +kernel
theorem dX11_personTells_125 : decode cX11_personTells 125 = .ok (.iconst 1, 1) := by decide +kernel
theorem dX11_personTells_126 : decode cX11_personTells 126 = .ok (.goto 4, 3) := by decide +kernel
theorem dX11_personTells_129 : decode cX11_personTells 129 = .ok (.iconst 0, 1) := by decide +kernel
theorem dX11_personTells_130 : decode cX11_personTells 130 = .ok (.ireturn, 1) := by decide +kernel
theorem dX11_person_0 : decode cX11_person 0 = .ok (.aload_n 0, 1) := by decide +kernel
theorem dX11_person_1 : decode cX11_person 1 = .ok (.iload_n 1, 1) := by decide +kernel
theorem dX11_person_2 : decode cX11_person 2 = .ok (.invokevirtual 167, 3) := by decide +kernel
theorem dX11_person_5 : decode cX11_person 5 = .ok (.ifCond .eq 27, 3) := by decide +kernel
theorem dX11_person_8 : decode cX11_person 8 = .ok (.iload_n 2, 1) := by decide +kernel
theorem dX11_person_9 : decode cX11_person 9 = .ok (.iconst 0, 1) := by decide +kernel
theorem dX11_person_10 : decode cX11_person 10 = .ok (.bipush 6, 2) := by decide +kernel
theorem dX11_person_12 : decode cX11_person 12 = .ok (.invokestatic 76, 3) := by decide +kernel
theorem dX11_person_15 : decode cX11_person 15 = .ok (.ifCond .eq 17, 3) := by decide +kernel
theorem dX11_person_18 : decode cX11_person 18 = .ok (.aload_n 0, 1) := by decide +kernel
theorem dX11_person_19 : decode cX11_person 19 = .ok (.aload_n 0, 1) := by decide +kernel
theorem dX11_person_20 : decode cX11_person 20 = .ok (.iload_n 1, 1) := by decide +kernel
theorem dX11_person_21 : decode cX11_person 21 = .ok (.iload_n 2, 1) := by decide +kernel
theorem dX11_person_22 : decode cX11_person 22 = .ok (.invokevirtual 170, 3) := by decide +kernel
theorem dX11_person_25 : decode cX11_person 25 = .ok (.iconst 1, 1) := by decide +kernel
theorem dX11_person_26 : decode cX11_person 26 = .ok (.invokevirtual 92, 3) := by decide +kernel
theorem dX11_person_29 : decode cX11_person 29 = .ok (.goto 4, 3) := by decide +kernel
theorem dX11_person_32 : decode cX11_person 32 = .ok (.iconst (-1), 1) := by decide +kernel
theorem dX11_person_33 : decode cX11_person 33 = .ok (.ireturn, 1) := by decide +kernel
theorem dX11_inStreet_0 : decode cX11_inStreet 0 = .ok (.iconst 0, 1) := by decide +kernel
theorem dX11_inStreet_1 : decode cX11_inStreet 1 = .ok (.istore_n 2, 1) := by decide +kernel
theorem dX11_inStreet_2 : decode cX11_inStreet 2 = .ok (.iconst 0, 1) := by decide +kernel
theorem dX11_inStreet_3 : decode cX11_inStreet 3 = .ok (.istore_n 3, 1) := by decide +kernel
theorem dX11_inStreet_4 : decode cX11_inStreet 4 = .ok (.iload_n 3, 1) := by decide +kernel
theorem dX11_inStreet_5 : decode cX11_inStreet 5 = .ok (.aload_n 0, 1) := by decide +kernel
theorem dX11_inStreet_6 : decode cX11_inStreet 6 = .ok (.getfield 126, 3) := by decide +kernel
theorem dX11_inStreet_9 : decode cX11_inStreet 9 = .ok (.if_icmp .ge 30, 3) := by decide +kernel
theorem dX11_inStreet_12 : decode cX11_inStreet 12 = .ok (.iload_n 2, 1) := by decide +kernel
theorem dX11_inStreet_13 : decode cX11_inStreet 13 = .ok (.aload_n 0, 1) := by decide +kernel
theorem dX11_inStreet_14 : decode cX11_inStreet 14 = .ok (.getfield 48, 3) := by decide +kernel
theorem dX11_inStreet_17 : decode cX11_inStreet 17 = .ok (.bipush 13, 2) := by decide +kernel
theorem dX11_inStreet_19 : decode cX11_inStreet 19 = .ok (.iload_n 3, 1) := by decide +kernel
theorem dX11_inStreet_20 : decode cX11_inStreet 20 = .ok (.iadd, 1) := by decide +kernel
theorem dX11_inStreet_21 : decode cX11_inStreet 21 = .ok (.iaload, 1) := by decide +kernel
theorem dX11_inStreet_22 : decode cX11_inStreet 22 = .ok (.iload_n 1, 1) := by decide +kernel
theorem dX11_inStreet_23 : decode cX11_inStreet 23 = .ok (.if_icmp .ne 7, 3) := by decide +kernel
theorem dX11_inStreet_26 : decode cX11_inStreet 26 = .ok (.iconst 1, 1) := by decide +kernel
theorem dX11_inStreet_27 : decode cX11_inStreet 27 = .ok (.goto 4, 3) := by decide +kernel
theorem dX11_inStreet_30 : decode cX11_inStreet 30 = .ok (.iconst 0, 1) := by decide +kernel
theorem dX11_inStreet_31 : decode cX11_inStreet 31 = .ok (.iadd, 1) := by decide +kernel
theorem dX11_inStreet_32 : decode cX11_inStreet 32 = .ok (.istore_n 2, 1) := by decide +kernel
theorem dX11_inStreet_33 : decode cX11_inStreet 33 = .ok (.iinc 3 1, 3) := by decide +kernel
theorem dX11_inStreet_36 : decode cX11_inStreet 36 = .ok (.goto (-32), 3) := by decide +kernel
theorem dX11_inStreet_39 : decode cX11_inStreet 39 = .ok (.iload_n 2, 1) := by decide +kernel
theorem dX11_inStreet_40 : decode cX11_inStreet 40 = .ok (.ireturn, 1) := by decide +kernel
theorem dX11_deep_0 : decode cX11_deep 0 = .ok (.iload_n 1, 1) := by decide +kernel
theorem dX11_deep_1 : decode cX11_deep 1 = .ok (.invokestatic 173, 3) := by decide +kernel
theorem dX11_deep_4 : decode cX11_deep 4 = .ok (.ifCond .ne 7, 3) := by decide +kernel
theorem dX11_deep_7 : decode cX11_deep 7 = .ok (.iconst (-1), 1) := by decide +kernel
theorem dX11_deep_8 : decode cX11_deep 8 = .ok (.goto 32, 3) := by decide +kernel
theorem dX11_deep_11 : decode cX11_deep 11 = .ok (.aload_n 0, 1) := by decide +kernel
theorem dX11_deep_12 : decode cX11_deep 12 = .ok (.getfield 126, 3) := by decide +kernel
theorem dX11_deep_15 : decode cX11_deep 15 = .ok (.ifCond .ne 8, 3) := by decide +kernel
theorem dX11_deep_18 : decode cX11_deep 18 = .ok (.bipush (-4), 2) := by decide +kernel
theorem dX11_deep_20 : decode cX11_deep 20 = .ok (.goto 20, 3) := by decide +kernel
theorem dX11_deep_23 : decode cX11_deep 23 = .ok (.aload_n 0, 1) := by decide +kernel
theorem dX11_deep_24 : decode cX11_deep 24 = .ok (.aload_n 0, 1) := by decide +kernel
theorem dX11_deep_25 : decode cX11_deep 25 = .ok (.iload_n 1, 1) := by decide +kernel
theorem dX11_deep_26 : decode cX11_deep 26 = .ok (.invokevirtual 176, 3) := by decide +kernel
theorem dX11_deep_29 : decode cX11_deep 29 = .ok (.aload_n 0, 1) := by decide +kernel
theorem dX11_deep_30 : decode cX11_deep 30 = .ok (.getfield 48, 3) := by decide +kernel
theorem dX11_deep_33 : decode cX11_deep 33 = .ok (.iconst 1, 1) := by decide +kernel
theorem dX11_deep_34 : decode cX11_deep 34 = .ok (.iload_n 1, 1) := by decide +kernel
theorem dX11_deep_35 : decode cX11_deep 35 = .ok (.iadd, 1) := by decide +kernel
theorem dX11_deep_36 : decode cX11_deep 36 = .ok (.iaload, 1) := by decide +kernel
theorem dX11_deep_37 : decode cX11_deep 37 = .ok (.invokevirtual 92, 3) := by decide +kernel
theorem dX11_deep_40 : decode cX11_deep 40 = .ok (.ireturn, 1) := by decide +kernel
theorem dX11_mark_0 : decode cX11_mark 0 = .ok (.aload_n 0, 1) := by decide +kernel
theorem dX11_mark_1 : decode cX11_mark 1 = .ok (.iload_n 1, 1) := by decide +kernel
theorem dX11_mark_2 : decode cX11_mark 2 = .ok (.invokevirtual 167, 3) := by decide +kernel
theorem dX11_mark_5 : decode cX11_mark 5 = .ok (.ifCond .eq 12, 3) := by decide +kernel
theorem dX11_mark_8 : decode cX11_mark 8 = .ok (.iload_n 2, 1) := by decide +kernel
theorem dX11_mark_9 : decode cX11_mark 9 = .ok (.iconst 1, 1) := by decide +kernel
theorem dX11_mark_10 : decode cX11_mark 10 = .ok (.iconst 5, 1) := by decide +kernel
theorem dX11_mark_11 : decode cX11_mark 11 = .ok (.invokestatic 76, 3) := by decide +kernel
theorem dX11_mark_14 : decode cX11_mark 14 = .ok (.ifCond .ne 5, 3) := by decide +kernel
theorem dX11_mark_17 : decode cX11_mark 17 = .ok (.iconst (-1), 1) := by decide +kernel
theorem dX11_mark_18 : decode cX11_mark 18 = .ok (.ireturn, 1) := by decide +kernel
theorem dX11_mark_19 : decode cX11_mark 19 = .ok (.aload_n 0, 1) := by decide +kernel
theorem dX11_mark_20 : decode cX11_mark 20 = .ok (.getfield 39, 3) := by decide +kernel
theorem dX11_mark_23 : decode cX11_mark 23 = .ok (.iload_n 1, 1) := by decide +kernel
theorem dX11_mark_24 : decode cX11_mark 24 = .ok (.iaload, 1) := by decide +kernel
theorem dX11_mark_25 : decode cX11_mark 25 = .ok (.iload_n 2, 1) := by decide +kernel
theorem dX11_mark_26 : decode cX11_mark 26 = .ok (.invokestatic 143, 3) := by decide +kernel
theorem dX11_mark_29 : decode cX11_mark 29 = .ok (.ifCond .ne 9, 3) := by decide +kernel
theorem dX11_mark_32 : decode cX11_mark 32 = .ok (.aload_n 0, 1) := by decide +kernel
theorem dX11_mark_33 : decode cX11_mark 33 = .ok (.iconst 3, 1) := by decide +kernel
theorem dX11_mark_34 : decode cX11_mark 34 = .ok (.invokevirtual 84, 3) := by decide +kernel
theorem dX11_mark_37 : decode cX11_mark 37 = .ok (.ireturn, 1) := by decide +kernel
theorem dX11_mark_38 : decode cX11_mark 38 = .ok (.aload_n 0, 1) := by decide +kernel
theorem dX11_mark_39 : decode cX11_mark 39 = .ok (.aload_n 0, 1) := by decide +kernel
theorem dX11_mark_40 : decode cX11_mark 40 = .ok (.getfield 48, 3) := by decide +kernel
theorem dX11_mark_43 : decode cX11_mark 43 = .ok (.iload_n 1, 1) := by decide +kernel
theorem dX11_mark_44 : decode cX11_mark 44 = .ok (.invokevirtual 147, 3) := by decide +kernel
theorem dX11_mark_47 : decode cX11_mark 47 = .ok (.ifCond .eq 24, 3) := by decide +kernel
theorem dX11_mark_50 : decode cX11_mark 50 = .ok (.aload_n 0, 1) := by decide +kernel
theorem dX11_mark_51 : decode cX11_mark 51 = .ok (.aload_n 0, 1) := by decide +kernel
theorem dX11_mark_52 : decode cX11_mark 52 = .ok (.getfield 48, 3) := by decide +kernel
theorem dX11_mark_55 : decode cX11_mark 55 = .ok (.aload_n 0, 1) := by decide +kernel
theorem dX11_mark_56 : decode cX11_mark 56 = .ok (.getfield 45, 3) := by decide +kernel
theorem dX11_mark_59 : decode cX11_mark 59 = .ok (.iload_n 1, 1) := by decide +kernel
theorem dX11_mark_60 : decode cX11_mark 60 = .ok (.iaload, 1) := by decide +kernel
theorem dX11_mark_61 : decode cX11_mark 61 = .ok (.invokevirtual 139, 3) := by decide +kernel
theorem dX11_mark_64 : decode cX11_mark 64 = .ok (.ifCond .ne 7, 3) := by decide +kernel
theorem dX11_mark_67 : decode cX11_mark 67 = .ok (.iconst 1, 1) := by decide +kernel
theorem dX11_mark_68 : decode cX11_mark 68 = .ok (.goto 4, 3) := by decide +kernel
theorem dX11_mark_71 : decode cX11_mark 71 = .ok (.iconst 0, 1) := by decide +kernel
theorem dX11_mark_72 : decode cX11_mark 72 = .ok (.istore_n 3, 1) := by decide +kernel
theorem dX11_mark_73 : decode cX11_mark 73 = .ok (.iload_n 2, 1) := by decide +kernel
theorem dX11_mark_74 : decode cX11_mark 74 = .ok (.tableswitch 78 1 4 #[30, 44, 55, 68], 30) := by decide +kernel
theorem dX11_mark_104 : decode cX11_mark 104 = .ok (.aload_n 0, 1) := by decide +kernel
theorem dX11_mark_105 : decode cX11_mark 105 = .ok (.getfield 48, 3) := by decide +kernel
theorem dX11_mark_108 : decode cX11_mark 108 = .ok (.bipush 6, 2) := by decide +kernel
theorem dX11_mark_110 : decode cX11_mark 110 = .ok (.iload_n 1, 1) := by decide +kernel
theorem dX11_mark_111 : decode cX11_mark 111 = .ok (.iadd, 1) := by decide +kernel
theorem dX11_mark_112 : decode cX11_mark 112 = .ok (.iaload, 1) := by decide +kernel
theorem dX11_mark_113 : decode cX11_mark 113 = .ok (.iconst 1, 1) := by decide +kernel
theorem dX11_mark_114 : decode cX11_mark 114 = .ok (.iadd, 1) := by decide +kernel
theorem dX11_mark_115 : decode cX11_mark 115 = .ok (.iconst 2, 1) := by decide +kernel
theorem dX11_mark_116 : decode cX11_mark 116 = .ok (.idiv, 1) := by decide +kernel
theorem dX11_mark_117 : decode cX11_mark 117 = .ok (.ireturn, 1) := by decide +kernel
theorem dX11_mark_118 : decode cX11_mark 118 = .ok (.iconst 1, 1) := by decide +kernel
theorem dX11_mark_119 : decode cX11_mark 119 = .ok (.aload_n 0, 1) := by decide +kernel
theorem dX11_mark_120 : decode cX11_mark 120 = .ok (.getfield 48, 3) := by decide +kernel
theorem dX11_mark_123 : decode cX11_mark 123 = .ok (.iconst 0, 1) := by decide +kernel
theorem dX11_mark_124 : decode cX11_mark 124 = .ok (.iaload, 1) := by decide +kernel
theorem dX11_mark_125 : decode cX11_mark 125 = .ok (.iconst 2, 1) := by decide +kernel
theorem dX11_mark_126 : decode cX11_mark 126 = .ok (.irem, 1) := by decide +kernel
theorem dX11_mark_127 : decode cX11_mark 127 = .ok (.isub, 1) := by decide +kernel
theorem dX11_mark_128 : decode cX11_mark 128 = .ok (.ireturn, 1) := by decide +kernel
theorem dX11_mark_129 : decode cX11_mark 129 = .ok (.aload_n 0, 1) := by decide +kernel
theorem dX11_mark_130 : decode cX11_mark 130 = .ok (.getfield 42, 3) := by decide +kernel
theorem dX11_mark_133 : decode cX11_mark 133 = .ok (.iload_n 1, 1) := by decide +kernel
theorem dX11_mark_134 : decode cX11_mark 134 = .ok (.iaload, 1) := by decide +kernel
theorem dX11_mark_135 : decode cX11_mark 135 = .ok (.aload_n 0, 1) := by decide +kernel
theorem dX11_mark_136 : decode cX11_mark 136 = .ok (.iload_n 1, 1) := by decide +kernel
theorem dX11_mark_137 : decode cX11_mark 137 = .ok (.invokevirtual 132, 3) := by decide +kernel
theorem dX11_mark_140 : decode cX11_mark 140 = .ok (.isub, 1) := by decide +kernel
theorem dX11_mark_141 : decode cX11_mark 141 = .ok (.ireturn, 1) := by decide +kernel
theorem dX11_mark_142 : decode cX11_mark 142 = .ok (.iload_n 3, 1) := by decide +kernel
theorem dX11_mark_143 : decode cX11_mark 143 = .ok (.ifCond .eq 7, 3) := by decide +kernel
theorem dX11_mark_146 : decode cX11_mark 146 = .ok (.iconst 1, 1) := by decide +kernel
theorem dX11_mark_147 : decode cX11_mark 147 = .ok (.goto 4, 3) := by decide +kernel
theorem dX11_mark_150 : decode cX11_mark 150 = .ok (.iconst 0, 1) := by decide +kernel
theorem dX11_mark_151 : decode cX11_mark 151 = .ok (.ireturn, 1) := by decide +kernel
theorem dX11_mark_152 : decode cX11_mark 152 = .ok (.iload_n 3, 1) := by decide +kernel
theorem dX11_mark_153 : decode cX11_mark 153 = .ok (.ifCond .eq 21, 3) := by decide +kernel
theorem dX11_mark_156 : decode cX11_mark 156 = .ok (.aload_n 0, 1) := by decide +kernel
theorem dX11_mark_157 : decode cX11_mark 157 = .ok (.getfield 48, 3) := by decide +kernel
theorem dX11_mark_160 : decode cX11_mark 160 = .ok (.bipush 6, 2) := by decide +kernel
theorem dX11_mark_162 : decode cX11_mark 162 = .ok (.iload_n 1, 1) := by decide +kernel
theorem dX11_mark_163 : decode cX11_mark 163 = .ok (.iadd, 1) := by decide +kernel
theorem dX11_mark_164 : decode cX11_mark 164 = .ok (.iaload, 1) := by decide +kernel
theorem dX11_mark_165 : decode cX11_mark 165 = .ok (.bipush 9, 2) := by decide +kernel
theorem dX11_mark_167 : decode cX11_mark 167 = .ok (.if_icmp .ge 7, 3) := by decide +kernel
theorem dX11_mark_170 : decode cX11_mark 170 = .ok (.iconst 1, 1) := by decide +kernel
theorem dX11_mark_171 : decode cX11_mark 171 = .ok (.goto 4, 3) := by decide +kernel
theorem dX11_mark_174 : decode cX11_mark 174 = .ok (.iconst 0, 1) := by decide +kernel
theorem dX11_mark_175 : decode cX11_mark 175 = .ok (.ireturn, 1) := by decide +kernel
theorem dX11_remember_0 : decode cX11_remember 0 = .ok (.iconst 0, 1) := by decide +kernel
theorem dX11_remember_1 : decode cX11_remember 1 = .ok (.istore_n 1, 1) := by decide +kernel
theorem dX11_remember_2 : decode cX11_remember 2 = .ok (.iload_n 1, 1) := by decide +kernel
theorem dX11_remember_3 : decode cX11_remember 3 = .ok (.bipush 20, 2) := by decide +kernel
theorem dX11_remember_5 : decode cX11_remember 5 = .ok (.if_icmp .ge 29, 3) := by decide +kernel
theorem dX11_remember_8 : decode cX11_remember 8 = .ok (.aload_n 0, 1) := by decide +kernel
theorem dX11_remember_9 : decode cX11_remember 9 = .ok (.getfield 54, 3) := by decide +kernel
theorem dX11_remember_12 : decode cX11_remember 12 = .ok (.bipush 20, 2) := by decide +kernel
theorem dX11_remember_14 : decode cX11_remember 14 = .ok (.aload_n 0, 1) := by decide +kernel
theorem dX11_remember_15 : decode cX11_remember 15 = .ok (.getfield 129, 3) := by decide +kernel
theorem dX11_remember_18 : decode cX11_remember 18 = .ok (.imul, 1) := by decide +kernel
theorem dX11_remember_19 : decode cX11_remember 19 = .ok (.iload_n 1, 1) := by decide +kernel
theorem dX11_remember_20 : decode cX11_remember 20 = .ok (.iadd, 1) := by decide +kernel
theorem dX11_remember_21 : decode cX11_remember 21 = .ok (.aload_n 0, 1) := by decide +kernel
theorem dX11_remember_22 : decode cX11_remember 22 = .ok (.getfield 48, 3) := by decide +kernel
theorem dX11_remember_25 : decode cX11_remember 25 = .ok (.iload_n 1, 1) := by decide +kernel
theorem dX11_remember_26 : decode cX11_remember 26 = .ok (.iaload, 1) := by decide +kernel
theorem dX11_remember_27 : decode cX11_remember 27 = .ok (.iastore, 1) := by decide +kernel
theorem dX11_remember_28 : decode cX11_remember 28 = .ok (.iinc 1 1, 3) := by decide +kernel
theorem dX11_remember_31 : decode cX11_remember 31 = .ok (.goto (-29), 3) := by decide +kernel
theorem dX11_remember_34 : decode cX11_remember 34 = .ok (.aload_n 0, 1) := by decide +kernel
theorem dX11_remember_35 : decode cX11_remember 35 = .ok (.dup, 1) := by decide +kernel
theorem dX11_remember_36 : decode cX11_remember 36 = .ok (.getfield 129, 3) := by decide +kernel
theorem dX11_remember_39 : decode cX11_remember 39 = .ok (.iconst 1, 1) := by decide +kernel
theorem dX11_remember_40 : decode cX11_remember 40 = .ok (.iadd, 1) := by decide +kernel
theorem dX11_remember_41 : decode cX11_remember 41 = .ok (.putfield 129, 3) := by decide +kernel
theorem dX11_remember_44 : decode cX11_remember 44 = .ok (.return_, 1) := by decide +kernel
theorem dX11_undo_0 : decode cX11_undo 0 = .ok (.iload_n 1, 1) := by decide +kernel
theorem dX11_undo_1 : decode cX11_undo 1 = .ok (.iconst 0, 1) := by decide +kernel
theorem dX11_undo_2 : decode cX11_undo 2 = .ok (.aload_n 0, 1) := by decide +kernel
theorem dX11_undo_3 : decode cX11_undo 3 = .ok (.getfield 129, 3) := by decide +kernel
theorem dX11_undo_6 : decode cX11_undo 6 = .ok (.invokestatic 76, 3) := by decide +kernel
theorem dX11_undo_9 : decode cX11_undo 9 = .ok (.ifCond .ne 5, 3) := by decide +kernel
theorem dX11_undo_12 : decode cX11_undo 12 = .ok (.iconst (-1), 1) := by decide +kernel
theorem dX11_undo_13 : decode cX11_undo 13 = .ok (.ireturn, 1) := by decide +kernel
theorem dX11_undo_14 : decode cX11_undo 14 = .ok (.aload_n 0, 1) := by decide +kernel
theorem dX11_undo_15 : decode cX11_undo 15 = .ok (.getfield 129, 3) := by decide +kernel
theorem dX11_undo_18 : decode cX11_undo 18 = .ok (.iload_n 1, 1) := by decide +kernel
theorem dX11_undo_19 : decode cX11_undo 19 = .ok (.isub, 1) := by decide +kernel
theorem dX11_undo_20 : decode cX11_undo 20 = .ok (.istore_n 2, 1) := by decide +kernel
theorem dX11_undo_21 : decode cX11_undo 21 = .ok (.iconst 0, 1) := by decide +kernel
theorem dX11_undo_22 : decode cX11_undo 22 = .ok (.istore_n 3, 1) := by decide +kernel
theorem dX11_undo_23 : decode cX11_undo 23 = .ok (.iload_n 3, 1) := by decide +kernel
theorem dX11_undo_24 : decode cX11_undo 24 = .ok (.bipush 20, 2) := by decide +kernel
theorem dX11_undo_26 : decode cX11_undo 26 = .ok (.if_icmp .ge 30, 3) := by decide +kernel
theorem dX11_undo_29 : decode cX11_undo 29 = .ok (.iload_n 2, 1) := by decide +kernel
theorem dX11_undo_30 : decode cX11_undo 30 = .ok (.ifCond .le 26, 3) := by decide +kernel
theorem dX11_undo_33 : decode cX11_undo 33 = .ok (.aload_n 0, 1) := by decide +kernel
theorem dX11_undo_34 : decode cX11_undo 34 = .ok (.getfield 48, 3) := by decide +kernel
theorem dX11_undo_37 : decode cX11_undo 37 = .ok (.iload_n 3, 1) := by decide +kernel
theorem dX11_undo_38 : decode cX11_undo 38 = .ok (.aload_n 0, 1) := by decide +kernel
theorem dX11_undo_39 : decode cX11_undo 39 = .ok (.getfield 54, 3) := by decide +kernel
theorem dX11_undo_42 : decode cX11_undo 42 = .ok (.bipush 20, 2) := by decide +kernel
theorem dX11_undo_44 : decode cX11_undo 44 = .ok (.iload_n 1, 1) := by decide +kernel
theorem dX11_undo_45 : decode cX11_undo 45 = .ok (.imul, 1) := by decide +kernel
theorem dX11_undo_46 : decode cX11_undo 46 = .ok (.iload_n 3, 1) := by decide +kernel
theorem dX11_undo_47 : decode cX11_undo 47 = .ok (.iadd, 1) := by decide +kernel
theorem dX11_undo_48 : decode cX11_undo 48 = .ok (.iaload, 1) := by decide +kernel
theorem dX11_undo_49 : decode cX11_undo 49 = .ok (.iastore, 1) := by decide +kernel
theorem dX11_undo_50 : decode cX11_undo 50 = .ok (.iinc 3 1, 3) := by decide +kernel
theorem dX11_undo_53 : decode cX11_undo 53 = .ok (.goto (-30), 3) := by decide +kernel
theorem dX11_undo_56 : decode cX11_undo 56 = .ok (.aload_n 0, 1) := by decide +kernel
theorem dX11_undo_57 : decode cX11_undo 57 = .ok (.iload_n 1, 1) := by decide +kernel
theorem dX11_undo_58 : decode cX11_undo 58 = .ok (.putfield 129, 3) := by decide +kernel
theorem dX11_undo_61 : decode cX11_undo 61 = .ok (.iload_n 2, 1) := by decide +kernel
theorem dX11_undo_62 : decode cX11_undo 62 = .ok (.ireturn, 1) := by decide +kernel
theorem dX11_keep_0 : decode cX11_keep 0 = .ok (.iload_n 1, 1) := by decide +kernel
theorem dX11_keep_1 : decode cX11_keep 1 = .ok (.iconst 0, 1) := by decide +kernel
theorem dX11_keep_2 : decode cX11_keep 2 = .ok (.iconst 2, 1) := by decide +kernel
theorem dX11_keep_3 : decode cX11_keep 3 = .ok (.invokestatic 76, 3) := by decide +kernel
theorem dX11_keep_6 : decode cX11_keep 6 = .ok (.ifCond .ne 5, 3) := by decide +kernel
theorem dX11_keep_9 : decode cX11_keep 9 = .ok (.iconst (-1), 1) := by decide +kernel
theorem dX11_keep_10 : decode cX11_keep 10 = .ok (.ireturn, 1) := by decide +kernel
theorem dX11_keep_11 : decode cX11_keep 11 = .ok (.aload_n 0, 1) := by decide +kernel
theorem dX11_keep_12 : decode cX11_keep 12 = .ok (.getfield 126, 3) := by decide +kernel
theorem dX11_keep_15 : decode cX11_keep 15 = .ok (.ifCond .ne 6, 3) := by decide +kernel
theorem dX11_keep_18 : decode cX11_keep 18 = .ok (.bipush (-4), 2) := by decide +kernel
theorem dX11_keep_20 : decode cX11_keep 20 = .ok (.ireturn, 1) := by decide +kernel
theorem dX11_keep_21 : decode cX11_keep 21 = .ok (.aload_n 0, 1) := by decide +kernel
theorem dX11_keep_22 : decode cX11_keep 22 = .ok (.getfield 57, 3) := by decide +kernel
theorem dX11_keep_25 : decode cX11_keep 25 = .ok (.iload_n 1, 1) := by decide +kernel
theorem dX11_keep_26 : decode cX11_keep 26 = .ok (.aload_n 0, 1) := by decide +kernel
theorem dX11_keep_27 : decode cX11_keep 27 = .ok (.getfield 129, 3) := by decide +kernel
theorem dX11_keep_30 : decode cX11_keep 30 = .ok (.iastore, 1) := by decide +kernel
theorem dX11_keep_31 : decode cX11_keep 31 = .ok (.iconst 0, 1) := by decide +kernel
theorem dX11_keep_32 : decode cX11_keep 32 = .ok (.istore_n 2, 1) := by decide +kernel
theorem dX11_keep_33 : decode cX11_keep 33 = .ok (.iload_n 2, 1) := by decide +kernel
theorem dX11_keep_34 : decode cX11_keep 34 = .ok (.bipush 20, 2) := by decide +kernel
theorem dX11_keep_36 : decode cX11_keep 36 = .ok (.if_icmp .ge 27, 3) := by decide +kernel
theorem dX11_keep_39 : decode cX11_keep 39 = .ok (.aload_n 0, 1) := by decide +kernel
theorem dX11_keep_40 : decode cX11_keep 40 = .ok (.getfield 60, 3) := by decide +kernel
theorem dX11_keep_43 : decode cX11_keep 43 = .ok (.sipush 820, 3) := by decide +kernel
theorem dX11_keep_46 : decode cX11_keep 46 = .ok (.iload_n 1, 1) := by decide +kernel
theorem dX11_keep_47 : decode cX11_keep 47 = .ok (.imul, 1) := by decide +kernel
theorem dX11_keep_48 : decode cX11_keep 48 = .ok (.iload_n 2, 1) := by decide +kernel
theorem dX11_keep_49 : decode cX11_keep 49 = .ok (.iadd, 1) := by decide +kernel
theorem dX11_keep_50 : decode cX11_keep 50 = .ok (.aload_n 0, 1) := by decide +kernel
theorem dX11_keep_51 : decode cX11_keep 51 = .ok (.getfield 48, 3) := by decide +kernel
theorem dX11_keep_54 : decode cX11_keep 54 = .ok (.iload_n 2, 1) := by decide +kernel
theorem dX11_keep_55 : decode cX11_keep 55 = .ok (.iaload, 1) := by decide +kernel
theorem dX11_keep_56 : decode cX11_keep 56 = .ok (.iastore, 1) := by decide +kernel
theorem dX11_keep_57 : decode cX11_keep 57 = .ok (.iinc 2 1, 3) := by decide +kernel
theorem dX11_keep_60 : decode cX11_keep 60 = .ok (.goto (-27), 3) := by decide +kernel
theorem dX11_keep_63 : decode cX11_keep 63 = .ok (.iconst 0, 1) := by decide +kernel
theorem dX11_keep_64 : decode cX11_keep 64 = .ok (.istore_n 2, 1) := by decide +kernel
theorem dX11_keep_65 : decode cX11_keep 65 = .ok (.iload_n 2, 1) := by decide +kernel
theorem dX11_keep_66 : decode cX11_keep 66 = .ok (.bipush 20, 2) := by decide +kernel
theorem dX11_keep_68 : decode cX11_keep 68 = .ok (.aload_n 0, 1) := by decide +kernel
theorem dX11_keep_69 : decode cX11_keep 69 = .ok (.getfield 129, 3) := by decide +kernel
theorem dX11_keep_72 : decode cX11_keep 72 = .ok (.imul, 1) := by decide +kernel
theorem dX11_keep_73 : decode cX11_keep 73 = .ok (.if_icmp .ge 30, 3) := by decide +kernel
theorem dX11_keep_76 : decode cX11_keep 76 = .ok (.aload_n 0, 1) := by decide +kernel
theorem dX11_keep_77 : decode cX11_keep 77 = .ok (.getfield 60, 3) := by decide +kernel
theorem dX11_keep_80 : decode cX11_keep 80 = .ok (.sipush 820, 3) := by decide +kernel
theorem dX11_keep_83 : decode cX11_keep 83 = .ok (.iload_n 1, 1) := by decide +kernel
theorem dX11_keep_84 : decode cX11_keep 84 = .ok (.imul, 1) := by decide +kernel
theorem dX11_keep_85 : decode cX11_keep 85 = .ok (.bipush 20, 2) := by decide +kernel
theorem dX11_keep_87 : decode cX11_keep 87 = .ok (.iadd, 1) := by decide +kernel
theorem dX11_keep_88 : decode cX11_keep 88 = .ok (.iload_n 2, 1) := by decide +kernel
theorem dX11_keep_89 : decode cX11_keep 89 = .ok (.iadd, 1) := by decide +kernel
theorem dX11_keep_90 : decode cX11_keep 90 = .ok (.aload_n 0, 1) := by decide +kernel
theorem dX11_keep_91 : decode cX11_keep 91 = .ok (.getfield 54, 3) := by decide +kernel
theorem dX11_keep_94 : decode cX11_keep 94 = .ok (.iload_n 2, 1) := by decide +kernel
theorem dX11_keep_95 : decode cX11_keep 95 = .ok (.iaload, 1) := by decide +kernel
theorem dX11_keep_96 : decode cX11_keep 96 = .ok (.iastore, 1) := by decide +kernel
theorem dX11_keep_97 : decode cX11_keep 97 = .ok (.iinc 2 1, 3) := by decide +kernel
theorem dX11_keep_100 : decode cX11_keep 100 = .ok (.goto (-35), 3) := by decide +kernel
theorem dX11_keep_103 : decode cX11_keep 103 = .ok (.aload_n 0, 1) := by decide +kernel
theorem dX11_keep_104 : decode cX11_keep 104 = .ok (.getfield 129, 3) := by decide +kernel
theorem dX11_keep_107 : decode cX11_keep 107 = .ok (.ireturn, 1) := by decide +kernel
end
section
theorem dX11_on_0 : decode cX11_on 0 = .ok (.iload_n 1, 1) := by decide +kernel
theorem dX11_on_1 : decode cX11_on 1 = .ok (.iconst 0, 1) := by decide +kernel
theorem dX11_on_2 : decode cX11_on 2 = .ok (.iconst 2, 1) := by decide +kernel
theorem dX11_on_3 : decode cX11_on 3 = .ok (.invokestatic 76, 3) := by decide +kernel
theorem dX11_on_6 : decode cX11_on 6 = .ok (.ifCond .ne 5, 3) := by decide +kernel
theorem dX11_on_9 : decode cX11_on 9 = .ok (.iconst (-1), 1) := by decide +kernel
theorem dX11_on_10 : decode cX11_on 10 = .ok (.ireturn, 1) := by decide +kernel
theorem dX11_on_11 : decode cX11_on 11 = .ok (.aload_n 0, 1) := by decide +kernel
theorem dX11_on_12 : decode cX11_on 12 = .ok (.getfield 57, 3) := by decide +kernel
theorem dX11_on_15 : decode cX11_on 15 = .ok (.iload_n 1, 1) := by decide +kernel
theorem dX11_on_16 : decode cX11_on 16 = .ok (.iaload, 1) := by decide +kernel
theorem dX11_on_17 : decode cX11_on 17 = .ok (.ifCond .ge 9, 3) := by decide +kernel
theorem dX11_on_20 : decode cX11_on 20 = .ok (.aload_n 0, 1) := by decide +kernel
theorem dX11_on_21 : decode cX11_on 21 = .ok (.iconst 1, 1) := by decide +kernel
theorem dX11_on_22 : decode cX11_on 22 = .ok (.invokevirtual 84, 3) := by decide +kernel
theorem dX11_on_25 : decode cX11_on 25 = .ok (.ireturn, 1) := by decide +kernel
theorem dX11_on_26 : decode cX11_on 26 = .ok (.aload_n 0, 1) := by decide +kernel
theorem dX11_on_27 : decode cX11_on 27 = .ok (.aload_n 0, 1) := by decide +kernel
theorem dX11_on_28 : decode cX11_on 28 = .ok (.getfield 57, 3) := by decide +kernel
theorem dX11_on_31 : decode cX11_on 31 = .ok (.iload_n 1, 1) := by decide +kernel
theorem dX11_on_32 : decode cX11_on 32 = .ok (.iaload, 1) := by decide +kernel
theorem dX11_on_33 : decode cX11_on 33 = .ok (.putfield 129, 3) := by decide +kernel
theorem dX11_on_36 : decode cX11_on 36 = .ok (.iconst 0, 1) := by decide +kernel
theorem dX11_on_37 : decode cX11_on 37 = .ok (.istore_n 2, 1) := by decide +kernel
theorem dX11_on_38 : decode cX11_on 38 = .ok (.iload_n 2, 1) := by decide +kernel
theorem dX11_on_39 : decode cX11_on 39 = .ok (.bipush 20, 2) := by decide +kernel
theorem dX11_on_41 : decode cX11_on 41 = .ok (.if_icmp .ge 27, 3) := by decide +kernel
theorem dX11_on_44 : decode cX11_on 44 = .ok (.aload_n 0, 1) := by decide +kernel
theorem dX11_on_45 : decode cX11_on 45 = .ok (.getfield 48, 3) := by decide +kernel
theorem dX11_on_48 : decode cX11_on 48 = .ok (.iload_n 2, 1) := by decide +kernel
theorem dX11_on_49 : decode cX11_on 49 = .ok (.aload_n 0, 1) := by decide +kernel
theorem dX11_on_50 : decode cX11_on 50 = .ok (.getfield 60, 3) := by decide +kernel
theorem dX11_on_53 : decode cX11_on 53 = .ok (.sipush 820, 3) := by decide +kernel
theorem dX11_on_56 : decode cX11_on 56 = .ok (.iload_n 1, 1) := by decide +kernel
theorem dX11_on_57 : decode cX11_on 57 = .ok (.imul, 1) := by decide +kernel
theorem dX11_on_58 : decode cX11_on 58 = .ok (.iload_n 2, 1) := by decide +kernel
theorem dX11_on_59 : decode cX11_on 59 = .ok (.iadd, 1) := by decide +kernel
theorem dX11_on_60 : decode cX11_on 60 = .ok (.iaload, 1) := by decide +kernel
theorem dX11_on_61 : decode cX11_on 61 = .ok (.iastore, 1) := by decide +kernel
theorem dX11_on_62 : decode cX11_on 62 = .ok (.iinc 2 1, 3) := by decide +kernel
theorem dX11_on_65 : decode cX11_on 65 = .ok (.goto (-27), 3) := by decide +kernel
theorem dX11_on_68 : decode cX11_on 68 = .ok (.iconst 0, 1) := by decide +kernel
theorem dX11_on_69 : decode cX11_on 69 = .ok (.istore_n 2, 1) := by decide +kernel
theorem dX11_on_70 : decode cX11_on 70 = .ok (.iload_n 2, 1) := by decide +kernel
theorem dX11_on_71 : decode cX11_on 71 = .ok (.bipush 20, 2) := by decide +kernel
theorem dX11_on_73 : decode cX11_on 73 = .ok (.aload_n 0, 1) := by decide +kernel
theorem dX11_on_74 : decode cX11_on 74 = .ok (.getfield 129, 3) := by decide +kernel
theorem dX11_on_77 : decode cX11_on 77 = .ok (.imul, 1) := by decide +kernel
theorem dX11_on_78 : decode cX11_on 78 = .ok (.if_icmp .ge 30, 3) := by decide +kernel
theorem dX11_on_81 : decode cX11_on 81 = .ok (.aload_n 0, 1) := by decide +kernel
theorem dX11_on_82 : decode cX11_on 82 = .ok (.getfield 54, 3) := by decide +kernel
theorem dX11_on_85 : decode cX11_on 85 = .ok (.iload_n 2, 1) := by decide +kernel
theorem dX11_on_86 : decode cX11_on 86 = .ok (.aload_n 0, 1) := by decide +kernel
theorem dX11_on_87 : decode cX11_on 87 = .ok (.getfield 60, 3) := by decide +kernel
theorem dX11_on_90 : decode cX11_on 90 = .ok (.sipush 820, 3) := by decide +kernel
theorem dX11_on_93 : decode cX11_on 93 = .ok (.iload_n 1, 1) := by decide +kernel
theorem dX11_on_94 : decode cX11_on 94 = .ok (.imul, 1) := by decide +kernel
theorem dX11_on_95 : decode cX11_on 95 = .ok (.bipush 20, 2) := by decide +kernel
theorem dX11_on_97 : decode cX11_on 97 = .ok (.iadd, 1) := by decide +kernel
theorem dX11_on_98 : decode cX11_on 98 = .ok (.iload_n 2, 1) := by decide +kernel
theorem dX11_on_99 : decode cX11_on 99 = .ok (.iadd, 1) := by decide +kernel
theorem dX11_on_100 : decode cX11_on 100 = .ok (.iaload, 1) := by decide +kernel
theorem dX11_on_101 : decode cX11_on 101 = .ok (.iastore, 1) := by decide +kernel
theorem dX11_on_102 : decode cX11_on 102 = .ok (.iinc 2 1, 3) := by decide +kernel
theorem dX11_on_105 : decode cX11_on 105 = .ok (.goto (-35), 3) := by decide +kernel
theorem dX11_on_108 : decode cX11_on 108 = .ok (.aload_n 0, 1) := by decide +kernel
theorem dX11_on_109 : decode cX11_on 109 = .ok (.getfield 129, 3) := by decide +kernel
theorem dX11_on_112 : decode cX11_on 112 = .ok (.ireturn, 1) := by decide +kernel
theorem dX11_day_0 : decode cX11_day 0 = .ok (.aload_n 0, 1) := by decide +kernel
theorem dX11_day_1 : decode cX11_day 1 = .ok (.getfield 126, 3) := by decide +kernel
theorem dX11_day_4 : decode cX11_day 4 = .ok (.ifCond .eq 14, 3) := by decide +kernel
theorem dX11_day_7 : decode cX11_day 7 = .ok (.aload_n 0, 1) := by decide +kernel
theorem dX11_day_8 : decode cX11_day 8 = .ok (.getfield 48, 3) := by decide +kernel
theorem dX11_day_11 : decode cX11_day 11 = .ok (.iconst 0, 1) := by decide +kernel
theorem dX11_day_12 : decode cX11_day 12 = .ok (.iaload, 1) := by decide +kernel
theorem dX11_day_13 : decode cX11_day 13 = .ok (.bipush 99, 2) := by decide +kernel
theorem dX11_day_15 : decode cX11_day 15 = .ok (.if_icmp .ne 6, 3) := by decide +kernel
theorem dX11_day_18 : decode cX11_day 18 = .ok (.bipush (-4), 2) := by decide +kernel
theorem dX11_day_20 : decode cX11_day 20 = .ok (.ireturn, 1) := by decide +kernel
theorem dX11_day_21 : decode cX11_day 21 = .ok (.aload_n 0, 1) := by decide +kernel
theorem dX11_day_22 : decode cX11_day 22 = .ok (.getfield 129, 3) := by decide +kernel
theorem dX11_day_25 : decode cX11_day 25 = .ok (.bipush 40, 2) := by decide +kernel
theorem dX11_day_27 : decode cX11_day 27 = .ok (.if_icmp .ne 6, 3) := by decide +kernel
theorem dX11_day_30 : decode cX11_day 30 = .ok (.bipush (-2), 2) := by decide +kernel
theorem dX11_day_32 : decode cX11_day 32 = .ok (.ireturn, 1) := by decide +kernel
theorem dX11_day_33 : decode cX11_day 33 = .ok (.aload_n 0, 1) := by decide +kernel
theorem dX11_day_34 : decode cX11_day 34 = .ok (.invokevirtual 179, 3) := by decide +kernel
theorem dX11_day_37 : decode cX11_day 37 = .ok (.aload_n 0, 1) := by decide +kernel
theorem dX11_day_38 : decode cX11_day 38 = .ok (.aload_n 0, 1) := by decide +kernel
theorem dX11_day_39 : decode cX11_day 39 = .ok (.getfield 48, 3) := by decide +kernel
theorem dX11_day_42 : decode cX11_day 42 = .ok (.invokevirtual 159, 3) := by decide +kernel
theorem dX11_day_45 : decode cX11_day 45 = .ok (.aload_n 0, 1) := by decide +kernel
theorem dX11_day_46 : decode cX11_day 46 = .ok (.aload_n 0, 1) := by decide +kernel
theorem dX11_day_47 : decode cX11_day 47 = .ok (.getfield 48, 3) := by decide +kernel
theorem dX11_day_50 : decode cX11_day 50 = .ok (.invokevirtual 163, 3) := by decide +kernel
theorem dX11_day_53 : decode cX11_day 53 = .ok (.ireturn, 1) := by decide +kernel
theorem dX11_becomes_0 : decode cX11_becomes 0 = .ok (.aload_n 0, 1) := by decide +kernel
theorem dX11_becomes_1 : decode cX11_becomes 1 = .ok (.getfield 129, 3) := by decide +kernel
theorem dX11_becomes_4 : decode cX11_becomes 4 = .ok (.bipush 40, 2) := by decide +kernel
theorem dX11_becomes_6 : decode cX11_becomes 6 = .ok (.if_icmp .ne 6, 3) := by decide +kernel
theorem dX11_becomes_9 : decode cX11_becomes 9 = .ok (.bipush (-2), 2) := by decide +kernel
theorem dX11_becomes_11 : decode cX11_becomes 11 = .ok (.ireturn, 1) := by decide +kernel
theorem dX11_becomes_12 : decode cX11_becomes 12 = .ok (.aload_n 0, 1) := by decide +kernel
theorem dX11_becomes_13 : decode cX11_becomes 13 = .ok (.invokevirtual 179, 3) := by decide +kernel
theorem dX11_becomes_16 : decode cX11_becomes 16 = .ok (.aload_n 0, 1) := by decide +kernel
theorem dX11_becomes_17 : decode cX11_becomes 17 = .ok (.getfield 48, 3) := by decide +kernel
theorem dX11_becomes_20 : decode cX11_becomes 20 = .ok (.iload_n 1, 1) := by decide +kernel
theorem dX11_becomes_21 : decode cX11_becomes 21 = .ok (.iload_n 2, 1) := by decide +kernel
theorem dX11_becomes_22 : decode cX11_becomes 22 = .ok (.iastore, 1) := by decide +kernel
theorem dX11_becomes_23 : decode cX11_becomes 23 = .ok (.iload_n 3, 1) := by decide +kernel
theorem dX11_becomes_24 : decode cX11_becomes 24 = .ok (.ireturn, 1) := by decide +kernel
theorem dX11_deeper_0 : decode cX11_deeper 0 = .ok (.iload_n 0, 1) := by decide +kernel
theorem dX11_deeper_1 : decode cX11_deeper 1 = .ok (.iload_n 1, 1) := by decide +kernel
theorem dX11_deeper_2 : decode cX11_deeper 2 = .ok (.iadd, 1) := by decide +kernel
theorem dX11_deeper_3 : decode cX11_deeper 3 = .ok (.bipush 9, 2) := by decide +kernel
theorem dX11_deeper_5 : decode cX11_deeper 5 = .ok (.if_icmp .le 8, 3) := by decide +kernel
theorem dX11_deeper_8 : decode cX11_deeper 8 = .ok (.bipush 9, 2) := by decide +kernel
theorem dX11_deeper_10 : decode cX11_deeper 10 = .ok (.goto 6, 3) := by decide +kernel
theorem dX11_deeper_13 : decode cX11_deeper 13 = .ok (.iload_n 0, 1) := by decide +kernel
theorem dX11_deeper_14 : decode cX11_deeper 14 = .ok (.iload_n 1, 1) := by decide +kernel
theorem dX11_deeper_15 : decode cX11_deeper 15 = .ok (.iadd, 1) := by decide +kernel
theorem dX11_deeper_16 : decode cX11_deeper 16 = .ok (.ireturn, 1) := by decide +kernel
theorem dX11_fall_0 : decode cX11_fall 0 = .ok (.iload_n 1, 1) := by decide +kernel
theorem dX11_fall_1 : decode cX11_fall 1 = .ok (.invokestatic 173, 3) := by decide +kernel
theorem dX11_fall_4 : decode cX11_fall 4 = .ok (.ifCond .eq 13, 3) := by decide +kernel
theorem dX11_fall_7 : decode cX11_fall 7 = .ok (.iload_n 2, 1) := by decide +kernel
theorem dX11_fall_8 : decode cX11_fall 8 = .ok (.iconst 1, 1) := by decide +kernel
theorem dX11_fall_9 : decode cX11_fall 9 = .ok (.bipush 9, 2) := by decide +kernel
theorem dX11_fall_11 : decode cX11_fall 11 = .ok (.invokestatic 76, 3) := by decide +kernel
theorem dX11_fall_14 : decode cX11_fall 14 = .ok (.ifCond .ne 5, 3) := by decide +kernel
theorem dX11_fall_17 : decode cX11_fall 17 = .ok (.iconst (-1), 1) := by decide +kernel
theorem dX11_fall_18 : decode cX11_fall 18 = .ok (.ireturn, 1) := by decide +kernel
theorem dX11_fall_19 : decode cX11_fall 19 = .ok (.aload_n 0, 1) := by decide +kernel
theorem dX11_fall_20 : decode cX11_fall 20 = .ok (.getfield 48, 3) := by decide +kernel
theorem dX11_fall_23 : decode cX11_fall 23 = .ok (.iconst 1, 1) := by decide +kernel
theorem dX11_fall_24 : decode cX11_fall 24 = .ok (.iload_n 1, 1) := by decide +kernel
theorem dX11_fall_25 : decode cX11_fall 25 = .ok (.iadd, 1) := by decide +kernel
theorem dX11_fall_26 : decode cX11_fall 26 = .ok (.iaload, 1) := by decide +kernel
theorem dX11_fall_27 : decode cX11_fall 27 = .ok (.istore_n 3, 1) := by decide +kernel
theorem dX11_fall_28 : decode cX11_fall 28 = .ok (.aload_n 0, 1) := by decide +kernel
theorem dX11_fall_29 : decode cX11_fall 29 = .ok (.getfield 126, 3) := by decide +kernel
theorem dX11_fall_32 : decode cX11_fall 32 = .ok (.ifCond .eq 9, 3) := by decide +kernel
theorem dX11_fall_35 : decode cX11_fall 35 = .ok (.iload_n 3, 1) := by decide +kernel
theorem dX11_fall_36 : decode cX11_fall 36 = .ok (.bipush 9, 2) := by decide +kernel
theorem dX11_fall_38 : decode cX11_fall 38 = .ok (.if_icmp .ne 8, 3) := by decide +kernel
theorem dX11_fall_41 : decode cX11_fall 41 = .ok (.bipush (-4), 2) := by decide +kernel
theorem dX11_fall_43 : decode cX11_fall 43 = .ok (.goto 20, 3) := by decide +kernel
theorem dX11_fall_46 : decode cX11_fall 46 = .ok (.aload_n 0, 1) := by decide +kernel
theorem dX11_fall_47 : decode cX11_fall 47 = .ok (.iconst 1, 1) := by decide +kernel
theorem dX11_fall_48 : decode cX11_fall 48 = .ok (.iload_n 1, 1) := by decide +kernel
theorem dX11_fall_49 : decode cX11_fall 49 = .ok (.iadd, 1) := by decide +kernel
theorem dX11_fall_50 : decode cX11_fall 50 = .ok (.iload_n 3, 1) := by decide +kernel
theorem dX11_fall_51 : decode cX11_fall 51 = .ok (.iload_n 2, 1) := by decide +kernel
theorem dX11_fall_52 : decode cX11_fall 52 = .ok (.invokestatic 182, 3) := by decide +kernel
theorem dX11_fall_55 : decode cX11_fall 55 = .ok (.iload_n 3, 1) := by decide +kernel
theorem dX11_fall_56 : decode cX11_fall 56 = .ok (.iload_n 2, 1) := by decide +kernel
theorem dX11_fall_57 : decode cX11_fall 57 = .ok (.invokestatic 182, 3) := by decide +kernel
theorem dX11_fall_60 : decode cX11_fall 60 = .ok (.invokevirtual 185, 3) := by decide +kernel
theorem dX11_fall_63 : decode cX11_fall 63 = .ok (.ireturn, 1) := by decide +kernel
theorem dX11_wind_0 : decode cX11_wind 0 = .ok (.iload_n 1, 1) := by decide +kernel
theorem dX11_wind_1 : decode cX11_wind 1 = .ok (.invokestatic 173, 3) := by decide +kernel
theorem dX11_wind_4 : decode cX11_wind 4 = .ok (.ifCond .ne 5, 3) := by decide +kernel
theorem dX11_wind_7 : decode cX11_wind 7 = .ok (.iconst (-1), 1) := by decide +kernel
theorem dX11_wind_8 : decode cX11_wind 8 = .ok (.ireturn, 1) := by decide +kernel
theorem dX11_wind_9 : decode cX11_wind 9 = .ok (.aload_n 0, 1) := by decide +kernel
theorem dX11_wind_10 : decode cX11_wind 10 = .ok (.getfield 126, 3) := by decide +kernel
theorem dX11_wind_13 : decode cX11_wind 13 = .ok (.ifCond .eq 14, 3) := by decide +kernel
theorem dX11_wind_16 : decode cX11_wind 16 = .ok (.aload_n 0, 1) := by decide +kernel
theorem dX11_wind_17 : decode cX11_wind 17 = .ok (.getfield 48, 3) := by decide +kernel
theorem dX11_wind_20 : decode cX11_wind 20 = .ok (.iconst 1, 1) := by decide +kernel
theorem dX11_wind_21 : decode cX11_wind 21 = .ok (.iload_n 1, 1) := by decide +kernel
theorem dX11_wind_22 : decode cX11_wind 22 = .ok (.iadd, 1) := by decide +kernel
theorem dX11_wind_23 : decode cX11_wind 23 = .ok (.iaload, 1) := by decide +kernel
theorem dX11_wind_24 : decode cX11_wind 24 = .ok (.ifCond .ne 8, 3) := by decide +kernel
theorem dX11_wind_27 : decode cX11_wind 27 = .ok (.bipush (-4), 2) := by decide +kernel
theorem dX11_wind_29 : decode cX11_wind 29 = .ok (.goto 19, 3) := by decide +kernel
theorem dX11_wind_32 : decode cX11_wind 32 = .ok (.aload_n 0, 1) := by decide +kernel
theorem dX11_wind_33 : decode cX11_wind 33 = .ok (.iconst 1, 1) := by decide +kernel
theorem dX11_wind_34 : decode cX11_wind 34 = .ok (.iload_n 1, 1) := by decide +kernel
theorem dX11_wind_35 : decode cX11_wind 35 = .ok (.iadd, 1) := by decide +kernel
theorem dX11_wind_36 : decode cX11_wind 36 = .ok (.iconst 0, 1) := by decide +kernel
theorem dX11_wind_37 : decode cX11_wind 37 = .ok (.aload_n 0, 1) := by decide +kernel
theorem dX11_wind_38 : decode cX11_wind 38 = .ok (.getfield 48, 3) := by decide +kernel
theorem dX11_wind_41 : decode cX11_wind 41 = .ok (.iconst 1, 1) := by decide +kernel
theorem dX11_wind_42 : decode cX11_wind 42 = .ok (.iload_n 1, 1) := by decide +kernel
theorem dX11_wind_43 : decode cX11_wind 43 = .ok (.iadd, 1) := by decide +kernel
theorem dX11_wind_44 : decode cX11_wind 44 = .ok (.iaload, 1) := by decide +kernel
theorem dX11_wind_45 : decode cX11_wind 45 = .ok (.invokevirtual 185, 3) := by decide +kernel
theorem dX11_wind_48 : decode cX11_wind 48 = .ok (.ireturn, 1) := by decide +kernel
theorem dX11_go_0 : decode cX11_go 0 = .ok (.aload_n 0, 1) := by decide +kernel
theorem dX11_go_1 : decode cX11_go 1 = .ok (.iload_n 1, 1) := by decide +kernel
theorem dX11_go_2 : decode cX11_go 2 = .ok (.invokevirtual 167, 3) := by decide +kernel
theorem dX11_go_5 : decode cX11_go 5 = .ok (.ifCond .eq 10, 3) := by decide +kernel
theorem dX11_go_8 : decode cX11_go 8 = .ok (.iload_n 2, 1) := by decide +kernel
theorem dX11_go_9 : decode cX11_go 9 = .ok (.invokestatic 173, 3) := by decide +kernel
theorem dX11_go_12 : decode cX11_go 12 = .ok (.ifCond .ne 5, 3) := by decide +kernel
theorem dX11_go_15 : decode cX11_go 15 = .ok (.iconst (-1), 1) := by decide +kernel
theorem dX11_go_16 : decode cX11_go 16 = .ok (.ireturn, 1) := by decide +kernel
theorem dX11_go_17 : decode cX11_go 17 = .ok (.aload_n 0, 1) := by decide +kernel
theorem dX11_go_18 : decode cX11_go 18 = .ok (.getfield 48, 3) := by decide +kernel
theorem dX11_go_21 : decode cX11_go 21 = .ok (.bipush 13, 2) := by decide +kernel
theorem dX11_go_23 : decode cX11_go 23 = .ok (.iload_n 1, 1) := by decide +kernel
theorem dX11_go_24 : decode cX11_go 24 = .ok (.iadd, 1) := by decide +kernel
theorem dX11_go_25 : decode cX11_go 25 = .ok (.iaload, 1) := by decide +kernel
theorem dX11_go_26 : decode cX11_go 26 = .ok (.istore_n 3, 1) := by decide +kernel
theorem dX11_go_27 : decode cX11_go 27 = .ok (.iload_n 3, 1) := by decide +kernel
theorem dX11_go_28 : decode cX11_go 28 = .ok (.iload_n 2, 1) := by decide +kernel
theorem dX11_go_29 : decode cX11_go 29 = .ok (.if_icmp .ne 8, 3) := by decide +kernel
theorem dX11_go_32 : decode cX11_go 32 = .ok (.bipush (-4), 2) := by decide +kernel
theorem dX11_go_34 : decode cX11_go 34 = .ok (.goto 13, 3) := by decide +kernel
theorem dX11_go_37 : decode cX11_go 37 = .ok (.aload_n 0, 1) := by decide +kernel
theorem dX11_go_38 : decode cX11_go 38 = .ok (.bipush 13, 2) := by decide +kernel
theorem dX11_go_40 : decode cX11_go 40 = .ok (.iload_n 1, 1) := by decide +kernel
theorem dX11_go_41 : decode cX11_go 41 = .ok (.iadd, 1) := by decide +kernel
theorem dX11_go_42 : decode cX11_go 42 = .ok (.iload_n 2, 1) := by decide +kernel
theorem dX11_go_43 : decode cX11_go 43 = .ok (.iload_n 3, 1) := by decide +kernel
theorem dX11_go_44 : decode cX11_go 44 = .ok (.invokevirtual 185, 3) := by decide +kernel
theorem dX11_go_47 : decode cX11_go 47 = .ok (.ireturn, 1) := by decide +kernel
theorem dX11_meets_0 : decode cX11_meets 0 = .ok (.iconst 0, 1) := by decide +kernel
theorem dX11_meets_1 : decode cX11_meets 1 = .ok (.istore_n 1, 1) := by decide +kernel
theorem dX11_meets_2 : decode cX11_meets 2 = .ok (.iconst 0, 1) := by decide +kernel
theorem dX11_meets_3 : decode cX11_meets 3 = .ok (.istore_n 2, 1) := by decide +kernel
theorem dX11_meets_4 : decode cX11_meets 4 = .ok (.iconst 0, 1) := by decide +kernel
theorem dX11_meets_5 : decode cX11_meets 5 = .ok (.istore_n 3, 1) := by decide +kernel
theorem dX11_meets_6 : decode cX11_meets 6 = .ok (.iload_n 3, 1) := by decide +kernel
theorem dX11_meets_7 : decode cX11_meets 7 = .ok (.aload_n 0, 1) := by decide +kernel
theorem dX11_meets_8 : decode cX11_meets 8 = .ok (.getfield 126, 3) := by decide +kernel
theorem dX11_meets_11 : decode cX11_meets 11 = .ok (.if_icmp .ge 60, 3) := by decide +kernel
theorem dX11_meets_14 : decode cX11_meets 14 = .ok (.aload_n 0, 1) := by decide +kernel
theorem dX11_meets_15 : decode cX11_meets 15 = .ok (.aload_n 0, 1) := by decide +kernel
theorem dX11_meets_16 : decode cX11_meets 16 = .ok (.getfield 48, 3) := by decide +kernel
theorem dX11_meets_19 : decode cX11_meets 19 = .ok (.iload_n 3, 1) := by decide +kernel
theorem dX11_meets_20 : decode cX11_meets 20 = .ok (.invokevirtual 147, 3) := by decide +kernel
theorem dX11_meets_23 : decode cX11_meets 23 = .ok (.istore 4, 2) := by decide +kernel
theorem dX11_meets_25 : decode cX11_meets 25 = .ok (.iload_n 1, 1) := by decide +kernel
theorem dX11_meets_26 : decode cX11_meets 26 = .ok (.iload 4, 2) := by decide +kernel
theorem dX11_meets_28 : decode cX11_meets 28 = .ok (.ifCond .eq 9, 3) := by decide +kernel
theorem dX11_meets_31 : decode cX11_meets 31 = .ok (.iconst 1, 1) := by decide +kernel
theorem dX11_meets_32 : decode cX11_meets 32 = .ok (.iload_n 3, 1) := by decide +kernel
theorem dX11_meets_33 : decode cX11_meets 33 = .ok (.ishl, 1) := by decide +kernel
theorem dX11_meets_34 : decode cX11_meets 34 = .ok (.goto 4, 3) := by decide +kernel
theorem dX11_meets_37 : decode cX11_meets 37 = .ok (.iconst 0, 1) := by decide +kernel
theorem dX11_meets_38 : decode cX11_meets 38 = .ok (.ior, 1) := by decide +kernel
theorem dX11_meets_39 : decode cX11_meets 39 = .ok (.istore_n 1, 1) := by decide +kernel
theorem dX11_meets_40 : decode cX11_meets 40 = .ok (.iload_n 2, 1) := by decide +kernel
theorem dX11_meets_41 : decode cX11_meets 41 = .ok (.iload 4, 2) := by decide +kernel
theorem dX11_meets_43 : decode cX11_meets 43 = .ok (.ifCond .eq 19, 3) := by decide +kernel
theorem dX11_meets_46 : decode cX11_meets 46 = .ok (.aload_n 0, 1) := by decide +kernel
theorem dX11_meets_47 : decode cX11_meets 47 = .ok (.aload_n 0, 1) := by decide +kernel
theorem dX11_meets_48 : decode cX11_meets 48 = .ok (.getfield 48, 3) := by decide +kernel
theorem dX11_meets_51 : decode cX11_meets 51 = .ok (.iload_n 3, 1) := by decide +kernel
theorem dX11_meets_52 : decode cX11_meets 52 = .ok (.invokevirtual 150, 3) := by decide +kernel
theorem dX11_meets_55 : decode cX11_meets 55 = .ok (.ifCond .eq 7, 3) := by decide +kernel
theorem dX11_meets_58 : decode cX11_meets 58 = .ok (.iconst 1, 1) := by decide +kernel
theorem dX11_meets_59 : decode cX11_meets 59 = .ok (.goto 4, 3) := by decide +kernel
theorem dX11_meets_62 : decode cX11_meets 62 = .ok (.iconst 0, 1) := by decide +kernel
theorem dX11_meets_63 : decode cX11_meets 63 = .ok (.iadd, 1) := by decide +kernel
theorem dX11_meets_64 : decode cX11_meets 64 = .ok (.istore_n 2, 1) := by decide +kernel
theorem dX11_meets_65 : decode cX11_meets 65 = .ok (.iinc 3 1, 3) := by decide +kernel
theorem dX11_meets_68 : decode cX11_meets 68 = .ok (.goto (-62), 3) := by decide +kernel
theorem dX11_meets_71 : decode cX11_meets 71 = .ok (.aload_n 0, 1) := by decide +kernel
theorem dX11_meets_72 : decode cX11_meets 72 = .ok (.iload_n 2, 1) := by decide +kernel
theorem dX11_meets_73 : decode cX11_meets 73 = .ok (.iload_n 1, 1) := by decide +kernel
theorem dX11_meets_74 : decode cX11_meets 74 = .ok (.invokevirtual 92, 3) := by decide +kernel
theorem dX11_meets_77 : decode cX11_meets 77 = .ok (.ireturn, 1) := by decide +kernel
theorem dX11_later_0 : decode cX11_later 0 = .ok (.aload_n 0, 1) := by decide +kernel
theorem dX11_later_1 : decode cX11_later 1 = .ok (.iload_n 1, 1) := by decide +kernel
theorem dX11_later_2 : decode cX11_later 2 = .ok (.invokevirtual 167, 3) := by decide +kernel
theorem dX11_later_5 : decode cX11_later 5 = .ok (.ifCond .eq 13, 3) := by decide +kernel
theorem dX11_later_8 : decode cX11_later 8 = .ok (.iload_n 2, 1) := by decide +kernel
theorem dX11_later_9 : decode cX11_later 9 = .ok (.iconst 0, 1) := by decide +kernel
theorem dX11_later_10 : decode cX11_later 10 = .ok (.bipush 60, 2) := by decide +kernel
theorem dX11_later_12 : decode cX11_later 12 = .ok (.invokestatic 76, 3) := by decide +kernel
theorem dX11_later_15 : decode cX11_later 15 = .ok (.ifCond .ne 5, 3) := by decide +kernel
theorem dX11_later_18 : decode cX11_later 18 = .ok (.iconst (-1), 1) := by decide +kernel
theorem dX11_later_19 : decode cX11_later 19 = .ok (.ireturn, 1) := by decide +kernel
theorem dX11_later_20 : decode cX11_later 20 = .ok (.aload_n 0, 1) := by decide +kernel
theorem dX11_later_21 : decode cX11_later 21 = .ok (.invokevirtual 189, 3) := by decide +kernel
theorem dX11_later_24 : decode cX11_later 24 = .ok (.aload_n 0, 1) := by decide +kernel
theorem dX11_later_25 : decode cX11_later 25 = .ok (.iload_n 2, 1) := by decide +kernel
theorem dX11_later_26 : decode cX11_later 26 = .ok (.invokevirtual 192, 3) := by decide +kernel
theorem dX11_later_29 : decode cX11_later 29 = .ok (.istore_n 3, 1) := by decide +kernel
theorem dX11_later_30 : decode cX11_later 30 = .ok (.aload_n 0, 1) := by decide +kernel
theorem dX11_later_31 : decode cX11_later 31 = .ok (.iload_n 3, 1) := by decide +kernel
theorem dX11_later_32 : decode cX11_later 32 = .ok (.aload_n 0, 1) := by decide +kernel
theorem dX11_later_33 : decode cX11_later 33 = .ok (.getfield 51, 3) := by decide +kernel
theorem dX11_later_36 : decode cX11_later 36 = .ok (.bipush 6, 2) := by decide +kernel
theorem dX11_later_38 : decode cX11_later 38 = .ok (.iload_n 1, 1) := by decide +kernel
theorem dX11_later_39 : decode cX11_later 39 = .ok (.iadd, 1) := by decide +kernel
theorem dX11_later_40 : decode cX11_later 40 = .ok (.iaload, 1) := by decide +kernel
theorem dX11_later_41 : decode cX11_later 41 = .ok (.invokevirtual 92, 3) := by decide +kernel
theorem dX11_later_44 : decode cX11_later 44 = .ok (.ireturn, 1) := by decide +kernel
theorem dX11_peace_0 : decode cX11_peace 0 = .ok (.aload_n 0, 1) := by decide +kernel
theorem dX11_peace_1 : decode cX11_peace 1 = .ok (.getfield 126, 3) := by decide +kernel
theorem dX11_peace_4 : decode cX11_peace 4 = .ok (.ifCond .ne 6, 3) := by decide +kernel
theorem dX11_peace_7 : decode cX11_peace 7 = .ok (.bipush (-4), 2) := by decide +kernel
theorem dX11_peace_9 : decode cX11_peace 9 = .ok (.ireturn, 1) := by decide +kernel
theorem dX11_peace_10 : decode cX11_peace 10 = .ok (.aload_n 0, 1) := by decide +kernel
theorem dX11_peace_11 : decode cX11_peace 11 = .ok (.invokevirtual 189, 3) := by decide +kernel
theorem dX11_peace_14 : decode cX11_peace 14 = .ok (.iconst 0, 1) := by decide +kernel
theorem dX11_peace_15 : decode cX11_peace 15 = .ok (.istore_n 1, 1) := by decide +kernel
theorem dX11_peace_16 : decode cX11_peace 16 = .ok (.iconst 0, 1) := by decide +kernel
theorem dX11_peace_17 : decode cX11_peace 17 = .ok (.istore_n 2, 1) := by decide +kernel
theorem dX11_peace_18 : decode cX11_peace 18 = .ok (.iload_n 2, 1) := by decide +kernel
theorem dX11_peace_19 : decode cX11_peace 19 = .ok (.bipush 120, 2) := by decide +kernel
theorem dX11_peace_21 : decode cX11_peace 21 = .ok (.if_icmp .gt 48, 3) := by decide +kernel
theorem dX11_peace_24 : decode cX11_peace 24 = .ok (.aload_n 0, 1) := by decide +kernel
theorem dX11_peace_25 : decode cX11_peace 25 = .ok (.aload_n 0, 1) := by decide +kernel
theorem dX11_peace_26 : decode cX11_peace 26 = .ok (.getfield 51, 3) := by decide +kernel
theorem dX11_peace_29 : decode cX11_peace 29 = .ok (.invokevirtual 163, 3) := by decide +kernel
theorem dX11_peace_32 : decode cX11_peace 32 = .ok (.istore_n 3, 1) := by decide +kernel
theorem dX11_peace_33 : decode cX11_peace 33 = .ok (.iload_n 3, 1) := by decide +kernel
theorem dX11_peace_34 : decode cX11_peace 34 = .ok (.iload_n 1, 1) := by decide +kernel
theorem dX11_peace_35 : decode cX11_peace 35 = .ok (.if_icmp .le 7, 3) := by decide +kernel
theorem dX11_peace_38 : decode cX11_peace 38 = .ok (.iload_n 3, 1) := by decide +kernel
theorem dX11_peace_39 : decode cX11_peace 39 = .ok (.goto 4, 3) := by decide +kernel
theorem dX11_peace_42 : decode cX11_peace 42 = .ok (.iload_n 1, 1) := by decide +kernel
theorem dX11_peace_43 : decode cX11_peace 43 = .ok (.istore_n 1, 1) := by decide +kernel
theorem dX11_peace_44 : decode cX11_peace 44 = .ok (.iload_n 3, 1) := by decide +kernel
theorem dX11_peace_45 : decode cX11_peace 45 = .ok (.ifCond .ne 10, 3) := by decide +kernel
theorem dX11_peace_48 : decode cX11_peace 48 = .ok (.aload_n 0, 1) := by decide +kernel
theorem dX11_peace_49 : decode cX11_peace 49 = .ok (.iload_n 1, 1) := by decide +kernel
theorem dX11_peace_50 : decode cX11_peace 50 = .ok (.iload_n 2, 1) := by decide +kernel
theorem dX11_peace_51 : decode cX11_peace 51 = .ok (.invokevirtual 92, 3) := by decide +kernel
theorem dX11_peace_54 : decode cX11_peace 54 = .ok (.ireturn, 1) := by decide +kernel
theorem dX11_peace_55 : decode cX11_peace 55 = .ok (.aload_n 0, 1) := by decide +kernel
theorem dX11_peace_56 : decode cX11_peace 56 = .ok (.aload_n 0, 1) := by decide +kernel
theorem dX11_peace_57 : decode cX11_peace 57 = .ok (.getfield 51, 3) := by decide +kernel
theorem dX11_peace_60 : decode cX11_peace 60 = .ok (.invokevirtual 159, 3) := by decide +kernel
theorem dX11_peace_63 : decode cX11_peace 63 = .ok (.iinc 2 1, 3) := by decide +kernel
theorem dX11_peace_66 : decode cX11_peace 66 = .ok (.goto (-48), 3) := by decide +kernel
theorem dX11_peace_69 : decode cX11_peace 69 = .ok (.bipush (-9), 2) := by decide +kernel
theorem dX11_peace_71 : decode cX11_peace 71 = .ok (.ireturn, 1) := by decide +kernel
theorem dX11_need_0 : decode cX11_need 0 = .ok (.iload_n 1, 1) := by decide +kernel
theorem dX11_need_1 : decode cX11_need 1 = .ok (.ifCond .ne 7, 3) := by decide +kernel
theorem dX11_need_4 : decode cX11_need 4 = .ok (.iconst (-1), 1) := by decide +kernel
theorem dX11_need_5 : decode cX11_need 5 = .ok (.goto 16, 3) := by decide +kernel
theorem dX11_need_8 : decode cX11_need 8 = .ok (.aload_n 0, 1) := by decide +kernel
theorem dX11_need_9 : decode cX11_need 9 = .ok (.getfield 126, 3) := by decide +kernel
theorem dX11_need_12 : decode cX11_need 12 = .ok (.ifCond .ne 8, 3) := by decide +kernel
theorem dX11_need_15 : decode cX11_need 15 = .ok (.bipush (-4), 2) := by decide +kernel
theorem dX11_need_17 : decode cX11_need 17 = .ok (.goto 4, 3) := by decide +kernel
theorem dX11_need_20 : decode cX11_need 20 = .ok (.iconst 0, 1) := by decide +kernel
theorem dX11_need_21 : decode cX11_need 21 = .ok (.ireturn, 1) := by decide +kernel
theorem dX11_left_0 : decode cX11_left 0 = .ok (.aload_n 0, 1) := by decide +kernel
theorem dX11_left_1 : decode cX11_left 1 = .ok (.iload_n 1, 1) := by decide +kernel
theorem dX11_left_2 : decode cX11_left 2 = .ok (.iconst 0, 1) := by decide +kernel
theorem dX11_left_3 : decode cX11_left 3 = .ok (.bipush 60, 2) := by decide +kernel
theorem dX11_left_5 : decode cX11_left 5 = .ok (.invokestatic 76, 3) := by decide +kernel
theorem dX11_left_8 : decode cX11_left 8 = .ok (.invokevirtual 195, 3) := by decide +kernel
theorem dX11_left_11 : decode cX11_left 11 = .ok (.istore_n 2, 1) := by decide +kernel
theorem dX11_left_12 : decode cX11_left 12 = .ok (.iload_n 2, 1) := by decide +kernel
theorem dX11_left_13 : decode cX11_left 13 = .ok (.ifCond .ge 5, 3) := by decide +kernel
theorem dX11_left_16 : decode cX11_left 16 = .ok (.iload_n 2, 1) := by decide +kernel
theorem dX11_left_17 : decode cX11_left 17 = .ok (.ireturn, 1) := by decide +kernel
theorem dX11_left_18 : decode cX11_left 18 = .ok (.aload_n 0, 1) := by decide +kernel
theorem dX11_left_19 : decode cX11_left 19 = .ok (.invokevirtual 189, 3) := by decide +kernel
theorem dX11_left_22 : decode cX11_left 22 = .ok (.aload_n 0, 1) := by decide +kernel
theorem dX11_left_23 : decode cX11_left 23 = .ok (.iload_n 1, 1) := by decide +kernel
theorem dX11_left_24 : decode cX11_left 24 = .ok (.invokevirtual 192, 3) := by decide +kernel
theorem dX11_left_27 : decode cX11_left 27 = .ok (.istore_n 3, 1) := by decide +kernel
theorem dX11_left_28 : decode cX11_left 28 = .ok (.aload_n 0, 1) := by decide +kernel
theorem dX11_left_29 : decode cX11_left 29 = .ok (.aload_n 0, 1) := by decide +kernel
theorem dX11_left_30 : decode cX11_left 30 = .ok (.aload_n 0, 1) := by decide +kernel
theorem dX11_left_31 : decode cX11_left 31 = .ok (.getfield 51, 3) := by decide +kernel
theorem dX11_left_34 : decode cX11_left 34 = .ok (.invokevirtual 199, 3) := by decide +kernel
theorem dX11_left_37 : decode cX11_left 37 = .ok (.invokestatic 202, 3) := by decide +kernel
theorem dX11_left_40 : decode cX11_left 40 = .ok (.iload_n 3, 1) := by decide +kernel
theorem dX11_left_41 : decode cX11_left 41 = .ok (.invokevirtual 92, 3) := by decide +kernel
theorem dX11_left_44 : decode cX11_left 44 = .ok (.ireturn, 1) := by decide +kernel
theorem dX11_ash_0 : decode cX11_ash 0 = .ok (.aload_n 0, 1) := by decide +kernel
theorem dX11_ash_1 : decode cX11_ash 1 = .ok (.iload_n 1, 1) := by decide +kernel
theorem dX11_ash_2 : decode cX11_ash 2 = .ok (.iconst 1, 1) := by decide +kernel
theorem dX11_ash_3 : decode cX11_ash 3 = .ok (.bipush 40, 2) := by decide +kernel
theorem dX11_ash_5 : decode cX11_ash 5 = .ok (.invokestatic 76, 3) := by decide +kernel
theorem dX11_ash_8 : decode cX11_ash 8 = .ok (.invokevirtual 195, 3) := by decide +kernel
theorem dX11_ash_11 : decode cX11_ash 11 = .ok (.istore_n 2, 1) := by decide +kernel
theorem dX11_ash_12 : decode cX11_ash 12 = .ok (.iload_n 2, 1) := by decide +kernel
theorem dX11_ash_13 : decode cX11_ash 13 = .ok (.ifCond .ge 5, 3) := by decide +kernel
theorem dX11_ash_16 : decode cX11_ash 16 = .ok (.iload_n 2, 1) := by decide +kernel
theorem dX11_ash_17 : decode cX11_ash 17 = .ok (.ireturn, 1) := by decide +kernel
theorem dX11_ash_18 : decode cX11_ash 18 = .ok (.iconst 0, 1) := by decide +kernel
theorem dX11_ash_19 : decode cX11_ash 19 = .ok (.istore_n 3, 1) := by decide +kernel
theorem dX11_ash_20 : decode cX11_ash 20 = .ok (.ldc 205, 2) := by decide +kernel
theorem dX11_ash_22 : decode cX11_ash 22 = .ok (.istore 4, 2) := by decide +kernel
theorem dX11_ash_24 : decode cX11_ash 24 = .ok (.iconst 0, 1) := by decide +kernel
theorem dX11_ash_25 : decode cX11_ash 25 = .ok (.istore 5, 2) := by decide +kernel
theorem dX11_ash_27 : decode cX11_ash 27 = .ok (.iload 5, 2) := by decide +kernel
theorem dX11_ash_29 : decode cX11_ash 29 = .ok (.bipush 9, 2) := by decide +kernel
theorem dX11_ash_31 : decode cX11_ash 31 = .ok (.if_icmp .gt 76, 3) := by decide +kernel
theorem dX11_ash_34 : decode cX11_ash 34 = .ok (.aload_n 0, 1) := by decide +kernel
theorem dX11_ash_35 : decode cX11_ash 35 = .ok (.invokevirtual 189, 3) := by decide +kernel
theorem dX11_ash_38 : decode cX11_ash 38 = .ok (.iconst 0, 1) := by decide +kernel
theorem dX11_ash_39 : decode cX11_ash 39 = .ok (.istore 6, 2) := by decide +kernel
theorem dX11_ash_41 : decode cX11_ash 41 = .ok (.iload 6, 2) := by decide +kernel
theorem dX11_ash_43 : decode cX11_ash 43 = .ok (.iconst 5, 1) := by decide +kernel
theorem dX11_ash_44 : decode cX11_ash 44 = .ok (.if_icmp .ge 20, 3) := by decide +kernel
theorem dX11_ash_47 : decode cX11_ash 47 = .ok (.aload_n 0, 1) := by decide +kernel
theorem dX11_ash_48 : decode cX11_ash 48 = .ok (.getfield 51, 3) := by decide +kernel
theorem dX11_ash_51 : decode cX11_ash 51 = .ok (.iconst 1, 1) := by decide +kernel
theorem dX11_ash_52 : decode cX11_ash 52 = .ok (.iload 6, 2) := by decide +kernel
theorem dX11_ash_54 : decode cX11_ash 54 = .ok (.iadd, 1) := by decide +kernel
theorem dX11_ash_55 : decode cX11_ash 55 = .ok (.iload 5, 2) := by decide +kernel
theorem dX11_ash_57 : decode cX11_ash 57 = .ok (.iastore, 1) := by decide +kernel
theorem dX11_ash_58 : decode cX11_ash 58 = .ok (.iinc 6 1, 3) := by decide +kernel
theorem dX11_ash_61 : decode cX11_ash 61 = .ok (.goto (-20), 3) := by decide +kernel
theorem dX11_ash_64 : decode cX11_ash 64 = .ok (.aload_n 0, 1) := by decide +kernel
theorem dX11_ash_65 : decode cX11_ash 65 = .ok (.iload_n 1, 1) := by decide +kernel
theorem dX11_ash_66 : decode cX11_ash 66 = .ok (.invokevirtual 192, 3) := by decide +kernel
theorem dX11_ash_69 : decode cX11_ash 69 = .ok (.istore 6, 2) := by decide +kernel
theorem dX11_ash_71 : decode cX11_ash 71 = .ok (.iload 6, 2) := by decide +kernel
theorem dX11_ash_73 : decode cX11_ash 73 = .ok (.iload 4, 2) := by decide +kernel
theorem dX11_ash_75 : decode cX11_ash 75 = .ok (.if_icmp .ge 8, 3) := by decide +kernel
theorem dX11_ash_78 : decode cX11_ash 78 = .ok (.iload 5, 2) := by decide +kernel
theorem dX11_ash_80 : decode cX11_ash 80 = .ok (.goto 4, 3) := by decide +kernel
theorem dX11_ash_83 : decode cX11_ash 83 = .ok (.iload_n 3, 1) := by decide +kernel
theorem dX11_ash_84 : decode cX11_ash 84 = .ok (.istore_n 3, 1) := by decide +kernel
theorem dX11_ash_85 : decode cX11_ash 85 = .ok (.iload 6, 2) := by decide +kernel
theorem dX11_ash_87 : decode cX11_ash 87 = .ok (.iload 4, 2) := by decide +kernel
theorem dX11_ash_89 : decode cX11_ash 89 = .ok (.if_icmp .ge 8, 3) := by decide +kernel
theorem dX11_ash_92 : decode cX11_ash 92 = .ok (.iload 6, 2) := by decide +kernel
theorem dX11_ash_94 : decode cX11_ash 94 = .ok (.goto 5, 3) := by decide +kernel
theorem dX11_ash_97 : decode cX11_ash 97 = .ok (.iload 4, 2) := by decide +kernel
theorem dX11_ash_99 : decode cX11_ash 99 = .ok (.istore 4, 2) := by decide +kernel
theorem dX11_ash_101 : decode cX11_ash 101 = .ok (.iinc 5 1, 3) := by decide +kernel
theorem dX11_ash_104 : decode cX11_ash 104 = .ok (.goto (-77), 3) := by decide +kernel
theorem dX11_ash_107 : decode cX11_ash 107 = .ok (.aload_n 0, 1) := by decide +kernel
theorem dX11_ash_108 : decode cX11_ash 108 = .ok (.iload 4, 2) := by decide +kernel
theorem dX11_ash_110 : decode cX11_ash 110 = .ok (.iload_n 3, 1) := by decide +kernel
theorem dX11_ash_111 : decode cX11_ash 111 = .ok (.invokevirtual 92, 3) := by decide +kernel
theorem dX11_ash_114 : decode cX11_ash 114 = .ok (.ireturn, 1) := by decide +kernel
theorem dX11_best_0 : decode cX11_best 0 = .ok (.aload_n 0, 1) := by decide +kernel
theorem dX11_best_1 : decode cX11_best 1 = .ok (.iload_n 1, 1) := by decide +kernel
theorem dX11_best_2 : decode cX11_best 2 = .ok (.iconst 1, 1) := by decide +kernel
theorem dX11_best_3 : decode cX11_best 3 = .ok (.bipush 40, 2) := by decide +kernel
theorem dX11_best_5 : decode cX11_best 5 = .ok (.invokestatic 76, 3) := by decide +kernel
theorem dX11_best_8 : decode cX11_best 8 = .ok (.invokevirtual 195, 3) := by decide +kernel
theorem dX11_best_11 : decode cX11_best 11 = .ok (.istore_n 2, 1) := by decide +kernel
theorem dX11_best_12 : decode cX11_best 12 = .ok (.iload_n 2, 1) := by decide +kernel
theorem dX11_best_13 : decode cX11_best 13 = .ok (.ifCond .ge 5, 3) := by decide +kernel
theorem dX11_best_16 : decode cX11_best 16 = .ok (.iload_n 2, 1) := by decide +kernel
theorem dX11_best_17 : decode cX11_best 17 = .ok (.ireturn, 1) := by decide +kernel
theorem dX11_best_18 : decode cX11_best 18 = .ok (.aload_n 0, 1) := by decide +kernel
theorem dX11_best_19 : decode cX11_best 19 = .ok (.invokevirtual 189, 3) := by decide +kernel
theorem dX11_best_22 : decode cX11_best 22 = .ok (.aload_n 0, 1) := by decide +kernel
theorem dX11_best_23 : decode cX11_best 23 = .ok (.iload_n 1, 1) := by decide +kernel
theorem dX11_best_24 : decode cX11_best 24 = .ok (.invokevirtual 192, 3) := by decide +kernel
theorem dX11_best_27 : decode cX11_best 27 = .ok (.istore_n 3, 1) := by decide +kernel
theorem dX11_best_28 : decode cX11_best 28 = .ok (.bipush (-9), 2) := by decide +kernel
theorem dX11_best_30 : decode cX11_best 30 = .ok (.istore 4, 2) := by decide +kernel
theorem dX11_best_32 : decode cX11_best 32 = .ok (.iconst 0, 1) := by decide +kernel
theorem dX11_best_33 : decode cX11_best 33 = .ok (.istore 5, 2) := by decide +kernel
theorem dX11_best_35 : decode cX11_best 35 = .ok (.iload 5, 2) := by decide +kernel
theorem dX11_best_37 : decode cX11_best 37 = .ok (.iconst 5, 1) := by decide +kernel
theorem dX11_best_38 : decode cX11_best 38 = .ok (.aload_n 0, 1) := by decide +kernel
theorem dX11_best_39 : decode cX11_best 39 = .ok (.getfield 126, 3) := by decide +kernel
theorem dX11_best_42 : decode cX11_best 42 = .ok (.imul, 1) := by decide +kernel
theorem dX11_best_43 : decode cX11_best 43 = .ok (.if_icmp .ge 74, 3) := by decide +kernel
theorem dX11_best_46 : decode cX11_best 46 = .ok (.aload_n 0, 1) := by decide +kernel
theorem dX11_best_47 : decode cX11_best 47 = .ok (.invokevirtual 189, 3) := by decide +kernel
theorem dX11_best_50 : decode cX11_best 50 = .ok (.aload_n 0, 1) := by decide +kernel
theorem dX11_best_51 : decode cX11_best 51 = .ok (.getfield 51, 3) := by decide +kernel
theorem dX11_best_54 : decode cX11_best 54 = .ok (.bipush 13, 2) := by decide +kernel
theorem dX11_best_56 : decode cX11_best 56 = .ok (.iload 5, 2) := by decide +kernel
theorem dX11_best_58 : decode cX11_best 58 = .ok (.iconst 5, 1) := by decide +kernel
theorem dX11_best_59 : decode cX11_best 59 = .ok (.idiv, 1) := by decide +kernel
theorem dX11_best_60 : decode cX11_best 60 = .ok (.iadd, 1) := by decide +kernel
theorem dX11_best_61 : decode cX11_best 61 = .ok (.iload 5, 2) := by decide +kernel
theorem dX11_best_63 : decode cX11_best 63 = .ok (.iconst 5, 1) := by decide +kernel
theorem dX11_best_64 : decode cX11_best 64 = .ok (.irem, 1) := by decide +kernel
theorem dX11_best_65 : decode cX11_best 65 = .ok (.iastore, 1) := by decide +kernel
theorem dX11_best_66 : decode cX11_best 66 = .ok (.aload_n 0, 1) := by decide +kernel
theorem dX11_best_67 : decode cX11_best 67 = .ok (.iload_n 1, 1) := by decide +kernel
theorem dX11_best_68 : decode cX11_best 68 = .ok (.invokevirtual 192, 3) := by decide +kernel
theorem dX11_best_71 : decode cX11_best 71 = .ok (.istore 6, 2) := by decide +kernel
theorem dX11_best_73 : decode cX11_best 73 = .ok (.iload 6, 2) := by decide +kernel
theorem dX11_best_75 : decode cX11_best 75 = .ok (.iload_n 3, 1) := by decide +kernel
theorem dX11_best_76 : decode cX11_best 76 = .ok (.if_icmp .ge 18, 3) := by decide +kernel
theorem dX11_best_79 : decode cX11_best 79 = .ok (.bipush 10, 2) := by decide +kernel
theorem dX11_best_81 : decode cX11_best 81 = .ok (.iload 5, 2) := by decide +kernel
theorem dX11_best_83 : decode cX11_best 83 = .ok (.iconst 5, 1) := by decide +kernel
theorem dX11_best_84 : decode cX11_best 84 = .ok (.idiv, 1) := by decide +kernel
theorem dX11_best_85 : decode cX11_best 85 = .ok (.imul, 1) := by decide +kernel
theorem dX11_best_86 : decode cX11_best 86 = .ok (.iload 5, 2) := by decide +kernel
theorem dX11_best_88 : decode cX11_best 88 = .ok (.iconst 5, 1) := by decide +kernel
theorem dX11_best_89 : decode cX11_best 89 = .ok (.irem, 1) := by decide +kernel
theorem dX11_best_90 : decode cX11_best 90 = .ok (.iadd, 1) := by decide +kernel
theorem dX11_best_91 : decode cX11_best 91 = .ok (.goto 5, 3) := by decide +kernel
theorem dX11_best_94 : decode cX11_best 94 = .ok (.iload 4, 2) := by decide +kernel
theorem dX11_best_96 : decode cX11_best 96 = .ok (.istore 4, 2) := by decide +kernel
theorem dX11_best_98 : decode cX11_best 98 = .ok (.iload 6, 2) := by decide +kernel
theorem dX11_best_100 : decode cX11_best 100 = .ok (.iload_n 3, 1) := by decide +kernel
theorem dX11_best_101 : decode cX11_best 101 = .ok (.if_icmp .ge 8, 3) := by decide +kernel
theorem dX11_best_104 : decode cX11_best 104 = .ok (.iload 6, 2) := by decide +kernel
theorem dX11_best_106 : decode cX11_best 106 = .ok (.goto 4, 3) := by decide +kernel
theorem dX11_best_109 : decode cX11_best 109 = .ok (.iload_n 3, 1) := by decide +kernel
theorem dX11_best_110 : decode cX11_best 110 = .ok (.istore_n 3, 1) := by decide +kernel
theorem dX11_best_111 : decode cX11_best 111 = .ok (.iinc 5 1, 3) := by decide +kernel
theorem dX11_best_114 : decode cX11_best 114 = .ok (.goto (-79), 3) := by decide +kernel
theorem dX11_best_117 : decode cX11_best 117 = .ok (.iload 4, 2) := by decide +kernel
theorem dX11_best_119 : decode cX11_best 119 = .ok (.bipush (-9), 2) := by decide +kernel
theorem dX11_best_121 : decode cX11_best 121 = .ok (.if_icmp .ne 8, 3) := by decide +kernel
theorem dX11_best_124 : decode cX11_best 124 = .ok (.bipush (-9), 2) := by decide +kernel
theorem dX11_best_126 : decode cX11_best 126 = .ok (.goto 10, 3) := by decide +kernel
theorem dX11_best_129 : decode cX11_best 129 = .ok (.aload_n 0, 1) := by decide +kernel
theorem dX11_best_130 : decode cX11_best 130 = .ok (.iload_n 3, 1) := by decide +kernel
theorem dX11_best_131 : decode cX11_best 131 = .ok (.iload 4, 2) := by decide +kernel
theorem dX11_best_133 : decode cX11_best 133 = .ok (.invokevirtual 92, 3) := by decide +kernel
theorem dX11_best_136 : decode cX11_best 136 = .ok (.ireturn, 1) := by decide +kernel
theorem dX11_needTotals_0 : decode cX11_needTotals 0 = .ok (.aload_n 0, 1) := by decide +kernel
theorem dX11_needTotals_1 : decode cX11_needTotals 1 = .ok (.iload_n 1, 1) := by decide +kernel
theorem dX11_needTotals_2 : decode cX11_needTotals 2 = .ok (.invokevirtual 167, 3) := by decide +kernel
theorem dX11_needTotals_5 : decode cX11_needTotals 5 = .ok (.ifCond .eq 10, 3) := by decide +kernel
theorem dX11_needTotals_8 : decode cX11_needTotals 8 = .ok (.iload_n 2, 1) := by decide +kernel
theorem dX11_needTotals_9 : decode cX11_needTotals 9 = .ok (.invokestatic 80, 3) := by decide +kernel
theorem dX11_needTotals_12 : decode cX11_needTotals 12 = .ok (.ifCond .ne 5, 3) := by decide +kernel
theorem dX11_needTotals_15 : decode cX11_needTotals 15 = .ok (.iconst (-1), 1) := by decide +kernel
theorem dX11_needTotals_16 : decode cX11_needTotals 16 = .ok (.ireturn, 1) := by decide +kernel
theorem dX11_needTotals_17 : decode cX11_needTotals 17 = .ok (.aload_n 0, 1) := by decide +kernel
theorem dX11_needTotals_18 : decode cX11_needTotals 18 = .ok (.getfield 17, 3) := by decide +kernel
theorem dX11_needTotals_21 : decode cX11_needTotals 21 = .ok (.iload_n 2, 1) := by decide +kernel
theorem dX11_needTotals_22 : decode cX11_needTotals 22 = .ok (.iaload, 1) := by decide +kernel
theorem dX11_needTotals_23 : decode cX11_needTotals 23 = .ok (.ifCond .ge 9, 3) := by decide +kernel
theorem dX11_needTotals_26 : decode cX11_needTotals 26 = .ok (.aload_n 0, 1) := by decide +kernel
theorem dX11_needTotals_27 : decode cX11_needTotals 27 = .ok (.iconst 1, 1) := by decide +kernel
theorem dX11_needTotals_28 : decode cX11_needTotals 28 = .ok (.invokevirtual 84, 3) := by decide +kernel
theorem dX11_needTotals_31 : decode cX11_needTotals 31 = .ok (.ireturn, 1) := by decide +kernel
theorem dX11_needTotals_32 : decode cX11_needTotals 32 = .ok (.aload_n 0, 1) := by decide +kernel
theorem dX11_needTotals_33 : decode cX11_needTotals 33 = .ok (.getfield 17, 3) := by decide +kernel
theorem dX11_needTotals_36 : decode cX11_needTotals 36 = .ok (.iload_n 2, 1) := by decide +kernel
theorem dX11_needTotals_37 : decode cX11_needTotals 37 = .ok (.iaload, 1) := by decide +kernel
theorem dX11_needTotals_38 : decode cX11_needTotals 38 = .ok (.iconst 1, 1) := by decide +kernel
theorem dX11_needTotals_39 : decode cX11_needTotals 39 = .ok (.bipush 20, 2) := by decide +kernel
theorem dX11_needTotals_41 : decode cX11_needTotals 41 = .ok (.invokestatic 76, 3) := by decide +kernel
theorem dX11_needTotals_44 : decode cX11_needTotals 44 = .ok (.ifCond .ne 9, 3) := by decide +kernel
theorem dX11_needTotals_47 : decode cX11_needTotals 47 = .ok (.aload_n 0, 1) := by decide +kernel
theorem dX11_needTotals_48 : decode cX11_needTotals 48 = .ok (.iconst 5, 1) := by decide +kernel
theorem dX11_needTotals_49 : decode cX11_needTotals 49 = .ok (.invokevirtual 84, 3) := by decide +kernel
theorem dX11_needTotals_52 : decode cX11_needTotals 52 = .ok (.ireturn, 1) := by decide +kernel
theorem dX11_needTotals_53 : decode cX11_needTotals 53 = .ok (.iconst 1, 1) := by decide +kernel
theorem dX11_needTotals_54 : decode cX11_needTotals 54 = .ok (.istore_n 3, 1) := by decide +kernel
theorem dX11_needTotals_55 : decode cX11_needTotals 55 = .ok (.iconst 0, 1) := by decide +kernel
theorem dX11_needTotals_56 : decode cX11_needTotals 56 = .ok (.istore 4, 2) := by decide +kernel
theorem dX11_needTotals_58 : decode cX11_needTotals 58 = .ok (.iload 4, 2) := by decide +kernel
theorem dX11_needTotals_60 : decode cX11_needTotals 60 = .ok (.aload_n 0, 1) := by decide +kernel
theorem dX11_needTotals_61 : decode cX11_needTotals 61 = .ok (.getfield 17, 3) := by decide +kernel
theorem dX11_needTotals_64 : decode cX11_needTotals 64 = .ok (.iload_n 2, 1) := by decide +kernel
theorem dX11_needTotals_65 : decode cX11_needTotals 65 = .ok (.iaload, 1) := by decide +kernel
theorem dX11_needTotals_66 : decode cX11_needTotals 66 = .ok (.if_icmp .ge 35, 3) := by decide +kernel
theorem dX11_needTotals_69 : decode cX11_needTotals 69 = .ok (.iload_n 3, 1) := by decide +kernel
theorem dX11_needTotals_70 : decode cX11_needTotals 70 = .ok (.ifCond .eq 23, 3) := by decide +kernel
theorem dX11_needTotals_73 : decode cX11_needTotals 73 = .ok (.aload_n 0, 1) := by decide +kernel
theorem dX11_needTotals_74 : decode cX11_needTotals 74 = .ok (.iload_n 2, 1) := by decide +kernel
theorem dX11_needTotals_75 : decode cX11_needTotals 75 = .ok (.iload 4, 2) := by decide +kernel
theorem dX11_needTotals_77 : decode cX11_needTotals 77 = .ok (.invokevirtual 88, 3) := by decide +kernel
theorem dX11_needTotals_80 : decode cX11_needTotals 80 = .ok (.iconst 0, 1) := by decide +kernel
theorem dX11_needTotals_81 : decode cX11_needTotals 81 = .ok (.bipush 63, 2) := by decide +kernel
theorem dX11_needTotals_83 : decode cX11_needTotals 83 = .ok (.invokestatic 76, 3) := by decide +kernel
theorem dX11_needTotals_86 : decode cX11_needTotals 86 = .ok (.ifCond .eq 7, 3) := by decide +kernel
theorem dX11_needTotals_89 : decode cX11_needTotals 89 = .ok (.iconst 1, 1) := by decide +kernel
theorem dX11_needTotals_90 : decode cX11_needTotals 90 = .ok (.goto 4, 3) := by decide +kernel
theorem dX11_needTotals_93 : decode cX11_needTotals 93 = .ok (.iconst 0, 1) := by decide +kernel
theorem dX11_needTotals_94 : decode cX11_needTotals 94 = .ok (.istore_n 3, 1) := by decide +kernel
theorem dX11_needTotals_95 : decode cX11_needTotals 95 = .ok (.iinc 4 1, 3) := by decide +kernel
theorem dX11_needTotals_98 : decode cX11_needTotals 98 = .ok (.goto (-40), 3) := by decide +kernel
theorem dX11_needTotals_101 : decode cX11_needTotals 101 = .ok (.iload_n 3, 1) := by decide +kernel
theorem dX11_needTotals_102 : decode cX11_needTotals 102 = .ok (.ifCond .eq 7, 3) := by decide +kernel
theorem dX11_needTotals_105 : decode cX11_needTotals 105 = .ok (.iconst 0, 1) := by decide +kernel
theorem dX11_needTotals_106 : decode cX11_needTotals 106 = .ok (.goto 8, 3) := by decide +kernel
theorem dX11_needTotals_109 : decode cX11_needTotals 109 = .ok (.aload_n 0, 1) := by decide +kernel
theorem dX11_needTotals_110 : decode cX11_needTotals 110 = .ok (.iconst 3, 1) := by decide +kernel
theorem dX11_needTotals_111 : decode cX11_needTotals 111 = .ok (.invokevirtual 84, 3) := by decide +kernel
theorem dX11_needTotals_114 : decode cX11_needTotals 114 = .ok (.ireturn, 1) := by decide +kernel
theorem dX11_isSo_0 : decode cX11_isSo 0 = .ok (.aload_n 0, 1) := by decide +kernel
theorem dX11_isSo_1 : decode cX11_isSo 1 = .ok (.invokevirtual 189, 3) := by decide +kernel
theorem dX11_isSo_4 : decode cX11_isSo 4 = .ok (.iconst 1, 1) := by decide +kernel
theorem dX11_isSo_5 : decode cX11_isSo 5 = .ok (.istore_n 2, 1) := by decide +kernel
theorem dX11_isSo_6 : decode cX11_isSo 6 = .ok (.iconst 0, 1) := by decide +kernel
theorem dX11_isSo_7 : decode cX11_isSo 7 = .ok (.istore_n 3, 1) := by decide +kernel
theorem dX11_isSo_8 : decode cX11_isSo 8 = .ok (.iload_n 3, 1) := by decide +kernel
theorem dX11_isSo_9 : decode cX11_isSo 9 = .ok (.aload_n 0, 1) := by decide +kernel
theorem dX11_isSo_10 : decode cX11_isSo 10 = .ok (.getfield 17, 3) := by decide +kernel
theorem dX11_isSo_13 : decode cX11_isSo 13 = .ok (.iload_n 1, 1) := by decide +kernel
theorem dX11_isSo_14 : decode cX11_isSo 14 = .ok (.iaload, 1) := by decide +kernel
theorem dX11_isSo_15 : decode cX11_isSo 15 = .ok (.if_icmp .ge 44, 3) := by decide +kernel
theorem dX11_isSo_18 : decode cX11_isSo 18 = .ok (.aload_n 0, 1) := by decide +kernel
theorem dX11_isSo_19 : decode cX11_isSo 19 = .ok (.aload_n 0, 1) := by decide +kernel
theorem dX11_isSo_20 : decode cX11_isSo 20 = .ok (.getfield 51, 3) := by decide +kernel
theorem dX11_isSo_23 : decode cX11_isSo 23 = .ok (.invokevirtual 159, 3) := by decide +kernel
theorem dX11_isSo_26 : decode cX11_isSo 26 = .ok (.iload_n 2, 1) := by decide +kernel
theorem dX11_isSo_27 : decode cX11_isSo 27 = .ok (.ifCond .eq 24, 3) := by decide +kernel
theorem dX11_isSo_30 : decode cX11_isSo 30 = .ok (.aload_n 0, 1) := by decide +kernel
theorem dX11_isSo_31 : decode cX11_isSo 31 = .ok (.aload_n 0, 1) := by decide +kernel
theorem dX11_isSo_32 : decode cX11_isSo 32 = .ok (.getfield 51, 3) := by decide +kernel
theorem dX11_isSo_35 : decode cX11_isSo 35 = .ok (.invokevirtual 163, 3) := by decide +kernel
theorem dX11_isSo_38 : decode cX11_isSo 38 = .ok (.aload_n 0, 1) := by decide +kernel
theorem dX11_isSo_39 : decode cX11_isSo 39 = .ok (.iload_n 1, 1) := by decide +kernel
theorem dX11_isSo_40 : decode cX11_isSo 40 = .ok (.iload_n 3, 1) := by decide +kernel
theorem dX11_isSo_41 : decode cX11_isSo 41 = .ok (.invokevirtual 88, 3) := by decide +kernel
theorem dX11_isSo_44 : decode cX11_isSo 44 = .ok (.if_icmp .ne 7, 3) := by decide +kernel
theorem dX11_isSo_47 : decode cX11_isSo 47 = .ok (.iconst 1, 1) := by decide +kernel
theorem dX11_isSo_48 : decode cX11_isSo 48 = .ok (.goto 4, 3) := by decide +kernel
theorem dX11_isSo_51 : decode cX11_isSo 51 = .ok (.iconst 0, 1) := by decide +kernel
theorem dX11_isSo_52 : decode cX11_isSo 52 = .ok (.istore_n 2, 1) := by decide +kernel
theorem dX11_isSo_53 : decode cX11_isSo 53 = .ok (.iinc 3 1, 3) := by decide +kernel
theorem dX11_isSo_56 : decode cX11_isSo 56 = .ok (.goto (-48), 3) := by decide +kernel
theorem dX11_isSo_59 : decode cX11_isSo 59 = .ok (.iload_n 2, 1) := by decide +kernel
theorem dX11_isSo_60 : decode cX11_isSo 60 = .ok (.ireturn, 1) := by decide +kernel
theorem dX11_kindsBy_0 : decode cX11_kindsBy 0 = .ok (.aload_n 0, 1) := by decide +kernel
theorem dX11_kindsBy_1 : decode cX11_kindsBy 1 = .ok (.getfield 39, 3) := by decide +kernel
theorem dX11_kindsBy_4 : decode cX11_kindsBy 4 = .ok (.iload_n 1, 1) := by decide +kernel
theorem dX11_kindsBy_5 : decode cX11_kindsBy 5 = .ok (.iaload, 1) := by decide +kernel
theorem dX11_kindsBy_6 : decode cX11_kindsBy 6 = .ok (.istore_n 3, 1) := by decide +kernel
theorem dX11_kindsBy_7 : decode cX11_kindsBy 7 = .ok (.iconst 0, 1) := by decide +kernel
theorem dX11_kindsBy_8 : decode cX11_kindsBy 8 = .ok (.istore 4, 2) := by decide +kernel
theorem dX11_kindsBy_10 : decode cX11_kindsBy 10 = .ok (.iconst 0, 1) := by decide +kernel
theorem dX11_kindsBy_11 : decode cX11_kindsBy 11 = .ok (.istore 5, 2) := by decide +kernel
theorem dX11_kindsBy_13 : decode cX11_kindsBy 13 = .ok (.iload 5, 2) := by decide +kernel
theorem dX11_kindsBy_15 : decode cX11_kindsBy 15 = .ok (.bipush 6, 2) := by decide +kernel
theorem dX11_kindsBy_17 : decode cX11_kindsBy 17 = .ok (.if_icmp .ge 38, 3) := by decide +kernel
theorem dX11_kindsBy_20 : decode cX11_kindsBy 20 = .ok (.aload_n 0, 1) := by decide +kernel
theorem dX11_kindsBy_21 : decode cX11_kindsBy 21 = .ok (.getfield 39, 3) := by decide +kernel
theorem dX11_kindsBy_24 : decode cX11_kindsBy 24 = .ok (.iload_n 1, 1) := by decide +kernel
theorem dX11_kindsBy_25 : decode cX11_kindsBy 25 = .ok (.iload 5, 2) := by decide +kernel
theorem dX11_kindsBy_27 : decode cX11_kindsBy 27 = .ok (.iastore, 1) := by decide +kernel
theorem dX11_kindsBy_28 : decode cX11_kindsBy 28 = .ok (.iload 4, 2) := by decide +kernel
theorem dX11_kindsBy_30 : decode cX11_kindsBy 30 = .ok (.aload_n 0, 1) := by decide +kernel
theorem dX11_kindsBy_31 : decode cX11_kindsBy 31 = .ok (.iload_n 2, 1) := by decide +kernel
theorem dX11_kindsBy_32 : decode cX11_kindsBy 32 = .ok (.invokevirtual 206, 3) := by decide +kernel
theorem dX11_kindsBy_35 : decode cX11_kindsBy 35 = .ok (.ifCond .eq 10, 3) := by decide +kernel
theorem dX11_kindsBy_38 : decode cX11_kindsBy 38 = .ok (.iconst 1, 1) := by decide +kernel
theorem dX11_kindsBy_39 : decode cX11_kindsBy 39 = .ok (.iload 5, 2) := by decide +kernel
theorem dX11_kindsBy_41 : decode cX11_kindsBy 41 = .ok (.ishl, 1) := by decide +kernel
theorem dX11_kindsBy_42 : decode cX11_kindsBy 42 = .ok (.goto 4, 3) := by decide +kernel
theorem dX11_kindsBy_45 : decode cX11_kindsBy 45 = .ok (.iconst 0, 1) := by decide +kernel
theorem dX11_kindsBy_46 : decode cX11_kindsBy 46 = .ok (.ior, 1) := by decide +kernel
theorem dX11_kindsBy_47 : decode cX11_kindsBy 47 = .ok (.istore 4, 2) := by decide +kernel
theorem dX11_kindsBy_49 : decode cX11_kindsBy 49 = .ok (.iinc 5 1, 3) := by decide +kernel
theorem dX11_kindsBy_52 : decode cX11_kindsBy 52 = .ok (.goto (-39), 3) := by decide +kernel
theorem dX11_kindsBy_55 : decode cX11_kindsBy 55 = .ok (.aload_n 0, 1) := by decide +kernel
theorem dX11_kindsBy_56 : decode cX11_kindsBy 56 = .ok (.getfield 39, 3) := by decide +kernel
theorem dX11_kindsBy_59 : decode cX11_kindsBy 59 = .ok (.iload_n 1, 1) := by decide +kernel
theorem dX11_kindsBy_60 : decode cX11_kindsBy 60 = .ok (.iload_n 3, 1) := by decide +kernel
theorem dX11_kindsBy_61 : decode cX11_kindsBy 61 = .ok (.iastore, 1) := by decide +kernel
theorem dX11_kindsBy_62 : decode cX11_kindsBy 62 = .ok (.iload 4, 2) := by decide +kernel
theorem dX11_kindsBy_64 : decode cX11_kindsBy 64 = .ok (.ireturn, 1) := by decide +kernel
theorem dX11_kinds_0 : decode cX11_kinds 0 = .ok (.aload_n 0, 1) := by decide +kernel
theorem dX11_kinds_1 : decode cX11_kinds 1 = .ok (.iload_n 1, 1) := by decide +kernel
theorem dX11_kinds_2 : decode cX11_kinds 2 = .ok (.iload_n 2, 1) := by decide +kernel
theorem dX11_kinds_3 : decode cX11_kinds 3 = .ok (.invokevirtual 209, 3) := by decide +kernel
theorem dX11_kinds_6 : decode cX11_kinds 6 = .ok (.istore_n 3, 1) := by decide +kernel
theorem dX11_kinds_7 : decode cX11_kinds 7 = .ok (.iload_n 3, 1) := by decide +kernel
theorem dX11_kinds_8 : decode cX11_kinds 8 = .ok (.ifCond .ge 7, 3) := by decide +kernel
theorem dX11_kinds_11 : decode cX11_kinds 11 = .ok (.iload_n 3, 1) := by decide +kernel
theorem dX11_kinds_12 : decode cX11_kinds 12 = .ok (.goto 9, 3) := by decide +kernel
theorem dX11_kinds_15 : decode cX11_kinds 15 = .ok (.aload_n 0, 1) := by decide +kernel
theorem dX11_kinds_16 : decode cX11_kinds 16 = .ok (.iload_n 1, 1) := by decide +kernel
theorem dX11_kinds_17 : decode cX11_kinds 17 = .ok (.iload_n 2, 1) := by decide +kernel
theorem dX11_kinds_18 : decode cX11_kinds 18 = .ok (.invokevirtual 212, 3) := by decide +kernel
theorem dX11_kinds_21 : decode cX11_kinds 21 = .ok (.ireturn, 1) := by decide +kernel
theorem dX11_highs_0 : decode cX11_highs 0 = .ok (.aload_n 0, 1) := by decide +kernel
theorem dX11_highs_1 : decode cX11_highs 1 = .ok (.iload_n 1, 1) := by decide +kernel
theorem dX11_highs_2 : decode cX11_highs 2 = .ok (.iload_n 2, 1) := by decide +kernel
theorem dX11_highs_3 : decode cX11_highs 3 = .ok (.invokevirtual 209, 3) := by decide +kernel
theorem dX11_highs_6 : decode cX11_highs 6 = .ok (.istore_n 3, 1) := by decide +kernel
theorem dX11_highs_7 : decode cX11_highs 7 = .ok (.iload_n 3, 1) := by decide +kernel
theorem dX11_highs_8 : decode cX11_highs 8 = .ok (.ifCond .ge 5, 3) := by decide +kernel
theorem dX11_highs_11 : decode cX11_highs 11 = .ok (.iload_n 3, 1) := by decide +kernel
theorem dX11_highs_12 : decode cX11_highs 12 = .ok (.ireturn, 1) := by decide +kernel
theorem dX11_highs_13 : decode cX11_highs 13 = .ok (.aload_n 0, 1) := by decide +kernel
theorem dX11_highs_14 : decode cX11_highs 14 = .ok (.getfield 42, 3) := by decide +kernel
theorem dX11_highs_17 : decode cX11_highs 17 = .ok (.iload_n 1, 1) := by decide +kernel
theorem dX11_highs_18 : decode cX11_highs 18 = .ok (.iaload, 1) := by decide +kernel
theorem dX11_highs_19 : decode cX11_highs 19 = .ok (.istore 4, 2) := by decide +kernel
theorem dX11_highs_21 : decode cX11_highs 21 = .ok (.iconst 0, 1) := by decide +kernel
theorem dX11_highs_22 : decode cX11_highs 22 = .ok (.istore 5, 2) := by decide +kernel
theorem dX11_highs_24 : decode cX11_highs 24 = .ok (.iconst 0, 1) := by decide +kernel
theorem dX11_highs_25 : decode cX11_highs 25 = .ok (.istore 6, 2) := by decide +kernel
theorem dX11_highs_27 : decode cX11_highs 27 = .ok (.iload 6, 2) := by decide +kernel
theorem dX11_highs_29 : decode cX11_highs 29 = .ok (.bipush 9, 2) := by decide +kernel
theorem dX11_highs_31 : decode cX11_highs 31 = .ok (.if_icmp .gt 38, 3) := by decide +kernel
theorem dX11_highs_34 : decode cX11_highs 34 = .ok (.aload_n 0, 1) := by decide +kernel
theorem dX11_highs_35 : decode cX11_highs 35 = .ok (.getfield 42, 3) := by decide +kernel
theorem dX11_highs_38 : decode cX11_highs 38 = .ok (.iload_n 1, 1) := by decide +kernel
theorem dX11_highs_39 : decode cX11_highs 39 = .ok (.iload 6, 2) := by decide +kernel
theorem dX11_highs_41 : decode cX11_highs 41 = .ok (.iastore, 1) := by decide +kernel
theorem dX11_highs_42 : decode cX11_highs 42 = .ok (.iload 5, 2) := by decide +kernel
theorem dX11_highs_44 : decode cX11_highs 44 = .ok (.aload_n 0, 1) := by decide +kernel
theorem dX11_highs_45 : decode cX11_highs 45 = .ok (.iload_n 2, 1) := by decide +kernel
theorem dX11_highs_46 : decode cX11_highs 46 = .ok (.invokevirtual 206, 3) := by decide +kernel
theorem dX11_highs_49 : decode cX11_highs 49 = .ok (.ifCond .eq 10, 3) := by decide +kernel
theorem dX11_highs_52 : decode cX11_highs 52 = .ok (.iconst 1, 1) := by decide +kernel
theorem dX11_highs_53 : decode cX11_highs 53 = .ok (.iload 6, 2) := by decide +kernel
theorem dX11_highs_55 : decode cX11_highs 55 = .ok (.ishl, 1) := by decide +kernel
theorem dX11_highs_56 : decode cX11_highs 56 = .ok (.goto 4, 3) := by decide +kernel
theorem dX11_highs_59 : decode cX11_highs 59 = .ok (.iconst 0, 1) := by decide +kernel
theorem dX11_highs_60 : decode cX11_highs 60 = .ok (.ior, 1) := by decide +kernel
theorem dX11_highs_61 : decode cX11_highs 61 = .ok (.istore 5, 2) := by decide +kernel
theorem dX11_highs_63 : decode cX11_highs 63 = .ok (.iinc 6 1, 3) := by decide +kernel
theorem dX11_highs_66 : decode cX11_highs 66 = .ok (.goto (-39), 3) := by decide +kernel
theorem dX11_highs_69 : decode cX11_highs 69 = .ok (.aload_n 0, 1) := by decide +kernel
theorem dX11_highs_70 : decode cX11_highs 70 = .ok (.getfield 42, 3) := by decide +kernel
theorem dX11_highs_73 : decode cX11_highs 73 = .ok (.iload_n 1, 1) := by decide +kernel
theorem dX11_highs_74 : decode cX11_highs 74 = .ok (.iload 4, 2) := by decide +kernel
theorem dX11_highs_76 : decode cX11_highs 76 = .ok (.iastore, 1) := by decide +kernel
theorem dX11_highs_77 : decode cX11_highs 77 = .ok (.iload 5, 2) := by decide +kernel
theorem dX11_highs_79 : decode cX11_highs 79 = .ok (.ireturn, 1) := by decide +kernel
theorem dX11_allAs_0 : decode cX11_allAs 0 = .ok (.aload_n 0, 1) := by decide +kernel
theorem dX11_allAs_1 : decode cX11_allAs 1 = .ok (.getfield 39, 3) := by decide +kernel
theorem dX11_allAs_4 : decode cX11_allAs 4 = .ok (.iload_n 1, 1) := by decide +kernel
theorem dX11_allAs_5 : decode cX11_allAs 5 = .ok (.iaload, 1) := by decide +kernel
theorem dX11_allAs_6 : decode cX11_allAs 6 = .ok (.istore 4, 2) := by decide +kernel
theorem dX11_allAs_8 : decode cX11_allAs 8 = .ok (.aload_n 0, 1) := by decide +kernel
theorem dX11_allAs_9 : decode cX11_allAs 9 = .ok (.getfield 39, 3) := by decide +kernel
theorem dX11_allAs_12 : decode cX11_allAs 12 = .ok (.iload_n 1, 1) := by decide +kernel
theorem dX11_allAs_13 : decode cX11_allAs 13 = .ok (.iload_n 2, 1) := by decide +kernel
theorem dX11_allAs_14 : decode cX11_allAs 14 = .ok (.iastore, 1) := by decide +kernel
theorem dX11_allAs_15 : decode cX11_allAs 15 = .ok (.aload_n 0, 1) := by decide +kernel
theorem dX11_allAs_16 : decode cX11_allAs 16 = .ok (.invokevirtual 189, 3) := by decide +kernel
theorem dX11_allAs_19 : decode cX11_allAs 19 = .ok (.aload_n 0, 1) := by decide +kernel
theorem dX11_allAs_20 : decode cX11_allAs 20 = .ok (.iload_n 3, 1) := by decide +kernel
theorem dX11_allAs_21 : decode cX11_allAs 21 = .ok (.invokevirtual 192, 3) := by decide +kernel
theorem dX11_allAs_24 : decode cX11_allAs 24 = .ok (.istore 5, 2) := by decide +kernel
theorem dX11_allAs_26 : decode cX11_allAs 26 = .ok (.aload_n 0, 1) := by decide +kernel
theorem dX11_allAs_27 : decode cX11_allAs 27 = .ok (.getfield 39, 3) := by decide +kernel
theorem dX11_allAs_30 : decode cX11_allAs 30 = .ok (.iload_n 1, 1) := by decide +kernel
theorem dX11_allAs_31 : decode cX11_allAs 31 = .ok (.iload 4, 2) := by decide +kernel
theorem dX11_allAs_33 : decode cX11_allAs 33 = .ok (.iastore, 1) := by decide +kernel
theorem dX11_allAs_34 : decode cX11_allAs 34 = .ok (.iload 5, 2) := by decide +kernel
theorem dX11_allAs_36 : decode cX11_allAs 36 = .ok (.ireturn, 1) := by decide +kernel
theorem dX11_test_0 : decode cX11_test 0 = .ok (.aload_n 0, 1) := by decide +kernel
theorem dX11_test_1 : decode cX11_test 1 = .ok (.iload_n 1, 1) := by decide +kernel
theorem dX11_test_2 : decode cX11_test 2 = .ok (.iload_n 2, 1) := by decide +kernel
theorem dX11_test_3 : decode cX11_test 3 = .ok (.invokevirtual 209, 3) := by decide +kernel
theorem dX11_test_6 : decode cX11_test 6 = .ok (.istore_n 3, 1) := by decide +kernel
theorem dX11_test_7 : decode cX11_test 7 = .ok (.iload_n 3, 1) := by decide +kernel
theorem dX11_test_8 : decode cX11_test 8 = .ok (.ifCond .ge 5, 3) := by decide +kernel
theorem dX11_test_11 : decode cX11_test 11 = .ok (.iload_n 3, 1) := by decide +kernel
theorem dX11_test_12 : decode cX11_test 12 = .ok (.ireturn, 1) := by decide +kernel
theorem dX11_test_13 : decode cX11_test 13 = .ok (.aload_n 0, 1) := by decide +kernel
theorem dX11_test_14 : decode cX11_test 14 = .ok (.iload_n 1, 1) := by decide +kernel
theorem dX11_test_15 : decode cX11_test 15 = .ok (.iload_n 2, 1) := by decide +kernel
theorem dX11_test_16 : decode cX11_test 16 = .ok (.invokevirtual 212, 3) := by decide +kernel
theorem dX11_test_19 : decode cX11_test 19 = .ok (.istore 4, 2) := by decide +kernel
theorem dX11_test_21 : decode cX11_test 21 = .ok (.bipush (-9), 2) := by decide +kernel
theorem dX11_test_23 : decode cX11_test 23 = .ok (.istore 5, 2) := by decide +kernel
theorem dX11_test_25 : decode cX11_test 25 = .ok (.bipush 7, 2) := by decide +kernel
theorem dX11_test_27 : decode cX11_test 27 = .ok (.istore 6, 2) := by decide +kernel
theorem dX11_test_29 : decode cX11_test 29 = .ok (.iconst 1, 1) := by decide +kernel
theorem dX11_test_30 : decode cX11_test 30 = .ok (.istore 7, 2) := by decide +kernel
theorem dX11_test_32 : decode cX11_test 32 = .ok (.iload 7, 2) := by decide +kernel
theorem dX11_test_34 : decode cX11_test 34 = .ok (.bipush 20, 2) := by decide +kernel
theorem dX11_test_36 : decode cX11_test 36 = .ok (.if_icmp .gt 151, 3) := by decide +kernel
theorem dX11_test_39 : decode cX11_test 39 = .ok (.iload 4, 2) := by decide +kernel
theorem dX11_test_41 : decode cX11_test 41 = .ok (.ifCond .eq 146, 3) := by decide +kernel
theorem dX11_test_44 : decode cX11_test 44 = .ok (.iconst 0, 1) := by decide +kernel
theorem dX11_test_45 : decode cX11_test 45 = .ok (.istore 8, 2) := by decide +kernel
theorem dX11_test_47 : decode cX11_test 47 = .ok (.iconst 0, 1) := by decide +kernel
theorem dX11_test_48 : decode cX11_test 48 = .ok (.istore 9, 2) := by decide +kernel
theorem dX11_test_50 : decode cX11_test 50 = .ok (.iload 9, 2) := by decide +kernel
theorem dX11_test_52 : decode cX11_test 52 = .ok (.bipush 6, 2) := by decide +kernel
theorem dX11_test_54 : decode cX11_test 54 = .ok (.if_icmp .ge 95, 3) := by decide +kernel
theorem dX11_test_57 : decode cX11_test 57 = .ok (.iconst 0, 1) := by decide +kernel
theorem dX11_test_58 : decode cX11_test 58 = .ok (.istore 10, 2) := by decide +kernel
theorem dX11_test_60 : decode cX11_test 60 = .ok (.iconst 0, 1) := by decide +kernel
theorem dX11_test_61 : decode cX11_test 61 = .ok (.istore 11, 2) := by decide +kernel
theorem dX11_test_63 : decode cX11_test 63 = .ok (.iload 11, 2) := by decide +kernel
theorem dX11_test_65 : decode cX11_test 65 = .ok (.bipush 6, 2) := by decide +kernel
theorem dX11_test_67 : decode cX11_test 67 = .ok (.if_icmp .ge 60, 3) := by decide +kernel
theorem dX11_test_70 : decode cX11_test 70 = .ok (.iload 4, 2) := by decide +kernel
theorem dX11_test_72 : decode cX11_test 72 = .ok (.iload 9, 2) := by decide +kernel
theorem dX11_test_74 : decode cX11_test 74 = .ok (.invokestatic 215, 3) := by decide +kernel
theorem dX11_test_77 : decode cX11_test 77 = .ok (.ifCond .eq 50, 3) := by decide +kernel
theorem dX11_test_80 : decode cX11_test 80 = .ok (.iload 10, 2) := by decide +kernel
theorem dX11_test_82 : decode cX11_test 82 = .ok (.iload 4, 2) := by decide +kernel
theorem dX11_test_84 : decode cX11_test 84 = .ok (.iload 11, 2) := by decide +kernel
theorem dX11_test_86 : decode cX11_test 86 = .ok (.invokestatic 215, 3) := by decide +kernel
theorem dX11_test_89 : decode cX11_test 89 = .ok (.ifCond .eq 28, 3) := by decide +kernel
theorem dX11_test_92 : decode cX11_test 92 = .ok (.aload_n 0, 1) := by decide +kernel
theorem dX11_test_93 : decode cX11_test 93 = .ok (.iload_n 1, 1) := by decide +kernel
theorem dX11_test_94 : decode cX11_test 94 = .ok (.iload 9, 2) := by decide +kernel
theorem dX11_test_96 : decode cX11_test 96 = .ok (.iload 7, 2) := by decide +kernel
theorem dX11_test_98 : decode cX11_test 98 = .ok (.invokevirtual 218, 3) := by decide +kernel
theorem dX11_test_101 : decode cX11_test 101 = .ok (.aload_n 0, 1) := by decide +kernel
theorem dX11_test_102 : decode cX11_test 102 = .ok (.iload_n 1, 1) := by decide +kernel
theorem dX11_test_103 : decode cX11_test 103 = .ok (.iload 11, 2) := by decide +kernel
theorem dX11_test_105 : decode cX11_test 105 = .ok (.iload 7, 2) := by decide +kernel
theorem dX11_test_107 : decode cX11_test 107 = .ok (.invokevirtual 218, 3) := by decide +kernel
theorem dX11_test_110 : decode cX11_test 110 = .ok (.if_icmp .ne 7, 3) := by decide +kernel
theorem dX11_test_113 : decode cX11_test 113 = .ok (.iconst 1, 1) := by decide +kernel
theorem dX11_test_114 : decode cX11_test 114 = .ok (.goto 4, 3) := by decide +kernel
theorem dX11_test_117 : decode cX11_test 117 = .ok (.iconst 0, 1) := by decide +kernel
theorem dX11_test_118 : decode cX11_test 118 = .ok (.iadd, 1) := by decide +kernel
theorem dX11_test_119 : decode cX11_test 119 = .ok (.istore 10, 2) := by decide +kernel
theorem dX11_test_121 : decode cX11_test 121 = .ok (.iinc 11 1, 3) := by decide +kernel
theorem dX11_test_124 : decode cX11_test 124 = .ok (.goto (-61), 3) := by decide +kernel
theorem dX11_test_127 : decode cX11_test 127 = .ok (.iload 10, 2) := by decide +kernel
theorem dX11_test_129 : decode cX11_test 129 = .ok (.iload 8, 2) := by decide +kernel
theorem dX11_test_131 : decode cX11_test 131 = .ok (.if_icmp .le 8, 3) := by decide +kernel
theorem dX11_test_134 : decode cX11_test 134 = .ok (.iload 10, 2) := by decide +kernel
theorem dX11_test_136 : decode cX11_test 136 = .ok (.goto 5, 3) := by decide +kernel
theorem dX11_test_139 : decode cX11_test 139 = .ok (.iload 8, 2) := by decide +kernel
theorem dX11_test_141 : decode cX11_test 141 = .ok (.istore 8, 2) := by decide +kernel
theorem dX11_test_143 : decode cX11_test 143 = .ok (.iinc 9 1, 3) := by decide +kernel
theorem dX11_test_146 : decode cX11_test 146 = .ok (.goto (-96), 3) := by decide +kernel
theorem dX11_test_149 : decode cX11_test 149 = .ok (.iload 8, 2) := by decide +kernel
theorem dX11_test_151 : decode cX11_test 151 = .ok (.iload 6, 2) := by decide +kernel
theorem dX11_test_153 : decode cX11_test 153 = .ok (.if_icmp .ge 8, 3) := by decide +kernel
theorem dX11_test_156 : decode cX11_test 156 = .ok (.iload 7, 2) := by decide +kernel
theorem dX11_test_158 : decode cX11_test 158 = .ok (.goto 5, 3) := by decide +kernel
theorem dX11_test_161 : decode cX11_test 161 = .ok (.iload 5, 2) := by decide +kernel
theorem dX11_test_163 : decode cX11_test 163 = .ok (.istore 5, 2) := by decide +kernel
theorem dX11_test_165 : decode cX11_test 165 = .ok (.iload 8, 2) := by decide +kernel
theorem dX11_test_167 : decode cX11_test 167 = .ok (.iload 6, 2) := by decide +kernel
theorem dX11_test_169 : decode cX11_test 169 = .ok (.if_icmp .ge 8, 3) := by decide +kernel
theorem dX11_test_172 : decode cX11_test 172 = .ok (.iload 8, 2) := by decide +kernel
theorem dX11_test_174 : decode cX11_test 174 = .ok (.goto 5, 3) := by decide +kernel
theorem dX11_test_177 : decode cX11_test 177 = .ok (.iload 6, 2) := by decide +kernel
theorem dX11_test_179 : decode cX11_test 179 = .ok (.istore 6, 2) := by decide +kernel
theorem dX11_test_181 : decode cX11_test 181 = .ok (.iinc 7 1, 3) := by decide +kernel
theorem dX11_test_184 : decode cX11_test 184 = .ok (.goto (-152), 3) := by decide +kernel
theorem dX11_test_187 : decode cX11_test 187 = .ok (.iload 5, 2) := by decide +kernel
theorem dX11_test_189 : decode cX11_test 189 = .ok (.bipush (-9), 2) := by decide +kernel
theorem dX11_test_191 : decode cX11_test 191 = .ok (.if_icmp .ne 8, 3) := by decide +kernel
theorem dX11_test_194 : decode cX11_test 194 = .ok (.bipush (-9), 2) := by decide +kernel
theorem dX11_test_196 : decode cX11_test 196 = .ok (.goto 11, 3) := by decide +kernel
theorem dX11_test_199 : decode cX11_test 199 = .ok (.aload_n 0, 1) := by decide +kernel
theorem dX11_test_200 : decode cX11_test 200 = .ok (.iload 6, 2) := by decide +kernel
theorem dX11_test_202 : decode cX11_test 202 = .ok (.iload 5, 2) := by decide +kernel
theorem dX11_test_204 : decode cX11_test 204 = .ok (.invokevirtual 92, 3) := by decide +kernel
theorem dX11_test_207 : decode cX11_test 207 = .ok (.ireturn, 1) := by decide +kernel
theorem dX11_moves_0 : decode cX11_moves 0 = .ok (.iload_n 1, 1) := by decide +kernel
theorem dX11_moves_1 : decode cX11_moves 1 = .ok (.iconst 5, 1) := by decide +kernel
theorem dX11_moves_2 : decode cX11_moves 2 = .ok (.if_icmp .ge 31, 3) := by decide +kernel
theorem dX11_moves_5 : decode cX11_moves 5 = .ok (.aload_n 0, 1) := by decide +kernel
theorem dX11_moves_6 : decode cX11_moves 6 = .ok (.getfield 51, 3) := by decide +kernel
theorem dX11_moves_9 : decode cX11_moves 9 = .ok (.iconst 1, 1) := by decide +kernel
theorem dX11_moves_10 : decode cX11_moves 10 = .ok (.iload_n 1, 1) := by decide +kernel
theorem dX11_moves_11 : decode cX11_moves 11 = .ok (.iadd, 1) := by decide +kernel
theorem dX11_moves_12 : decode cX11_moves 12 = .ok (.iload_n 2, 1) := by decide +kernel
theorem dX11_moves_13 : decode cX11_moves 13 = .ok (.ifCond .eq 18, 3) := by decide +kernel
theorem dX11_moves_16 : decode cX11_moves 16 = .ok (.aload_n 0, 1) := by decide +kernel
theorem dX11_moves_17 : decode cX11_moves 17 = .ok (.getfield 51, 3) := by decide +kernel
theorem dX11_moves_20 : decode cX11_moves 20 = .ok (.iconst 1, 1) := by decide +kernel
theorem dX11_moves_21 : decode cX11_moves 21 = .ok (.iload_n 1, 1) := by decide +kernel
theorem dX11_moves_22 : decode cX11_moves 22 = .ok (.iadd, 1) := by decide +kernel
theorem dX11_moves_23 : decode cX11_moves 23 = .ok (.iaload, 1) := by decide +kernel
theorem dX11_moves_24 : decode cX11_moves 24 = .ok (.iconst 1, 1) := by decide +kernel
theorem dX11_moves_25 : decode cX11_moves 25 = .ok (.invokestatic 182, 3) := by decide +kernel
theorem dX11_moves_28 : decode cX11_moves 28 = .ok (.goto 4, 3) := by decide +kernel
theorem dX11_moves_31 : decode cX11_moves 31 = .ok (.iconst 0, 1) := by decide +kernel
theorem dX11_moves_32 : decode cX11_moves 32 = .ok (.iastore, 1) := by decide +kernel
theorem dX11_moves_33 : decode cX11_moves 33 = .ok (.return_, 1) := by decide +kernel
theorem dX11_behindTurns_0 : decode cX11_behindTurns 0 = .ok (.aload_n 0, 1) := by decide +kernel
theorem dX11_behindTurns_1 : decode cX11_behindTurns 1 = .ok (.invokevirtual 189, 3) := by decide +kernel
theorem dX11_behindTurns_4 : decode cX11_behindTurns 4 = .ok (.iload_n 2, 1) := by decide +kernel
theorem dX11_behindTurns_5 : decode cX11_behindTurns 5 = .ok (.istore_n 3, 1) := by decide +kernel
theorem dX11_behindTurns_6 : decode cX11_behindTurns 6 = .ok (.iconst 0, 1) := by decide +kernel
theorem dX11_behindTurns_7 : decode cX11_behindTurns 7 = .ok (.istore 4, 2) := by decide +kernel
theorem dX11_behindTurns_9 : decode cX11_behindTurns 9 = .ok (.iload 4, 2) := by decide +kernel
theorem dX11_behindTurns_11 : decode cX11_behindTurns 11 = .ok (.iload_n 1, 1) := by decide +kernel
theorem dX11_behindTurns_12 : decode cX11_behindTurns 12 = .ok (.if_icmp .ge 34, 3) := by decide +kernel
theorem dX11_behindTurns_15 : decode cX11_behindTurns 15 = .ok (.aload_n 0, 1) := by decide +kernel
theorem dX11_behindTurns_16 : decode cX11_behindTurns 16 = .ok (.iload_n 3, 1) := by decide +kernel
theorem dX11_behindTurns_17 : decode cX11_behindTurns 17 = .ok (.bipush 6, 2) := by decide +kernel
theorem dX11_behindTurns_19 : decode cX11_behindTurns 19 = .ok (.irem, 1) := by decide +kernel
theorem dX11_behindTurns_20 : decode cX11_behindTurns 20 = .ok (.iload 4, 2) := by decide +kernel
theorem dX11_behindTurns_22 : decode cX11_behindTurns 22 = .ok (.iconst 2, 1) := by decide +kernel
theorem dX11_behindTurns_23 : decode cX11_behindTurns 23 = .ok (.irem, 1) := by decide +kernel
theorem dX11_behindTurns_24 : decode cX11_behindTurns 24 = .ok (.ifCond .ne 7, 3) := by decide +kernel
theorem dX11_behindTurns_27 : decode cX11_behindTurns 27 = .ok (.iconst 1, 1) := by decide +kernel
theorem dX11_behindTurns_28 : decode cX11_behindTurns 28 = .ok (.goto 4, 3) := by decide +kernel
theorem dX11_behindTurns_31 : decode cX11_behindTurns 31 = .ok (.iconst 0, 1) := by decide +kernel
theorem dX11_behindTurns_32 : decode cX11_behindTurns 32 = .ok (.invokevirtual 221, 3) := by decide +kernel
theorem dX11_behindTurns_35 : decode cX11_behindTurns 35 = .ok (.iload_n 3, 1) := by decide +kernel
theorem dX11_behindTurns_36 : decode cX11_behindTurns 36 = .ok (.bipush 6, 2) := by decide +kernel
theorem dX11_behindTurns_38 : decode cX11_behindTurns 38 = .ok (.idiv, 1) := by decide +kernel
theorem dX11_behindTurns_39 : decode cX11_behindTurns 39 = .ok (.istore_n 3, 1) := by decide +kernel
theorem dX11_behindTurns_40 : decode cX11_behindTurns 40 = .ok (.iinc 4 1, 3) := by decide +kernel
theorem dX11_behindTurns_43 : decode cX11_behindTurns 43 = .ok (.goto (-34), 3) := by decide +kernel
theorem dX11_behindTurns_46 : decode cX11_behindTurns 46 = .ok (.aload_n 0, 1) := by decide +kernel
theorem dX11_behindTurns_47 : decode cX11_behindTurns 47 = .ok (.bipush 6, 2) := by decide +kernel
theorem dX11_behindTurns_49 : decode cX11_behindTurns 49 = .ok (.invokevirtual 192, 3) := by decide +kernel
theorem dX11_behindTurns_52 : decode cX11_behindTurns 52 = .ok (.ireturn, 1) := by decide +kernel
theorem dX11_duel_0 : decode cX11_duel 0 = .ok (.aload_n 0, 1) := by decide +kernel
theorem dX11_duel_1 : decode cX11_duel 1 = .ok (.iload_n 1, 1) := by decide +kernel
theorem dX11_duel_2 : decode cX11_duel 2 = .ok (.iconst 0, 1) := by decide +kernel
theorem dX11_duel_3 : decode cX11_duel 3 = .ok (.iconst 3, 1) := by decide +kernel
theorem dX11_duel_4 : decode cX11_duel 4 = .ok (.invokestatic 76, 3) := by decide +kernel
theorem dX11_duel_7 : decode cX11_duel 7 = .ok (.invokevirtual 195, 3) := by decide +kernel
theorem dX11_duel_10 : decode cX11_duel 10 = .ok (.istore_n 2, 1) := by decide +kernel
theorem dX11_duel_11 : decode cX11_duel 11 = .ok (.iload_n 2, 1) := by decide +kernel
theorem dX11_duel_12 : decode cX11_duel 12 = .ok (.ifCond .ge 5, 3) := by decide +kernel
theorem dX11_duel_15 : decode cX11_duel 15 = .ok (.iload_n 2, 1) := by decide +kernel
theorem dX11_duel_16 : decode cX11_duel 16 = .ok (.ireturn, 1) := by decide +kernel
theorem dX11_duel_17 : decode cX11_duel 17 = .ok (.iconst 1, 1) := by decide +kernel
theorem dX11_duel_18 : decode cX11_duel 18 = .ok (.istore_n 3, 1) := by decide +kernel
theorem dX11_duel_19 : decode cX11_duel 19 = .ok (.iconst 0, 1) := by decide +kernel
theorem dX11_duel_20 : decode cX11_duel 20 = .ok (.istore 4, 2) := by decide +kernel
theorem dX11_duel_22 : decode cX11_duel 22 = .ok (.iload 4, 2) := by decide +kernel
theorem dX11_duel_24 : decode cX11_duel 24 = .ok (.iload_n 1, 1) := by decide +kernel
theorem dX11_duel_25 : decode cX11_duel 25 = .ok (.if_icmp .ge 14, 3) := by decide +kernel
theorem dX11_duel_28 : decode cX11_duel 28 = .ok (.iload_n 3, 1) := by decide +kernel
theorem dX11_duel_29 : decode cX11_duel 29 = .ok (.bipush 6, 2) := by decide +kernel
theorem dX11_duel_31 : decode cX11_duel 31 = .ok (.imul, 1) := by decide +kernel
theorem dX11_duel_32 : decode cX11_duel 32 = .ok (.istore_n 3, 1) := by decide +kernel
theorem dX11_duel_33 : decode cX11_duel 33 = .ok (.iinc 4 1, 3) := by decide +kernel
theorem dX11_duel_36 : decode cX11_duel 36 = .ok (.goto (-14), 3) := by decide +kernel
theorem dX11_duel_39 : decode cX11_duel 39 = .ok (.iconst 0, 1) := by decide +kernel
theorem dX11_duel_40 : decode cX11_duel 40 = .ok (.istore 4, 2) := by decide +kernel
theorem dX11_duel_42 : decode cX11_duel 42 = .ok (.iload 4, 2) := by decide +kernel
theorem dX11_duel_44 : decode cX11_duel 44 = .ok (.iload_n 3, 1) := by decide +kernel
theorem dX11_duel_45 : decode cX11_duel 45 = .ok (.if_icmp .ge 23, 3) := by decide +kernel
theorem dX11_duel_48 : decode cX11_duel 48 = .ok (.aload_n 0, 1) := by decide +kernel
theorem dX11_duel_49 : decode cX11_duel 49 = .ok (.getfield 63, 3) := by decide +kernel
theorem dX11_duel_52 : decode cX11_duel 52 = .ok (.iload 4, 2) := by decide +kernel
theorem dX11_duel_54 : decode cX11_duel 54 = .ok (.aload_n 0, 1) := by decide +kernel
theorem dX11_duel_55 : decode cX11_duel 55 = .ok (.iload_n 1, 1) := by decide +kernel
theorem dX11_duel_56 : decode cX11_duel 56 = .ok (.iload 4, 2) := by decide +kernel
theorem dX11_duel_58 : decode cX11_duel 58 = .ok (.invokevirtual 225, 3) := by decide +kernel
theorem dX11_duel_61 : decode cX11_duel 61 = .ok (.iastore, 1) := by decide +kernel
theorem dX11_duel_62 : decode cX11_duel 62 = .ok (.iinc 4 1, 3) := by decide +kernel
theorem dX11_duel_65 : decode cX11_duel 65 = .ok (.goto (-23), 3) := by decide +kernel
theorem dX11_duel_68 : decode cX11_duel 68 = .ok (.iload_n 1, 1) := by decide +kernel
theorem dX11_duel_69 : decode cX11_duel 69 = .ok (.iconst 1, 1) := by decide +kernel
theorem dX11_duel_70 : decode cX11_duel 70 = .ok (.isub, 1) := by decide +kernel
theorem dX11_duel_71 : decode cX11_duel 71 = .ok (.istore 4, 2) := by decide +kernel
theorem dX11_duel_73 : decode cX11_duel 73 = .ok (.iload 4, 2) := by decide +kernel
theorem dX11_duel_75 : decode cX11_duel 75 = .ok (.ifCond .lt 117, 3) := by decide +kernel
theorem dX11_duel_78 : decode cX11_duel 78 = .ok (.iload_n 3, 1) := by decide +kernel
theorem dX11_duel_79 : decode cX11_duel 79 = .ok (.bipush 6, 2) := by decide +kernel
theorem dX11_duel_81 : decode cX11_duel 81 = .ok (.idiv, 1) := by decide +kernel
theorem dX11_duel_82 : decode cX11_duel 82 = .ok (.istore_n 3, 1) := by decide +kernel
theorem dX11_duel_83 : decode cX11_duel 83 = .ok (.iconst 0, 1) := by decide +kernel
theorem dX11_duel_84 : decode cX11_duel 84 = .ok (.istore 5, 2) := by decide +kernel
theorem dX11_duel_86 : decode cX11_duel 86 = .ok (.iload 5, 2) := by decide +kernel
theorem dX11_duel_88 : decode cX11_duel 88 = .ok (.iload_n 3, 1) := by decide +kernel
theorem dX11_duel_89 : decode cX11_duel 89 = .ok (.if_icmp .ge 97, 3) := by decide +kernel
theorem dX11_duel_92 : decode cX11_duel 92 = .ok (.aload_n 0, 1) := by decide +kernel
theorem dX11_duel_93 : decode cX11_duel 93 = .ok (.getfield 63, 3) := by decide +kernel
theorem dX11_duel_96 : decode cX11_duel 96 = .ok (.iload 5, 2) := by decide +kernel
theorem dX11_duel_98 : decode cX11_duel 98 = .ok (.iaload, 1) := by decide +kernel
theorem dX11_duel_99 : decode cX11_duel 99 = .ok (.istore 6, 2) := by decide +kernel
theorem dX11_duel_101 : decode cX11_duel 101 = .ok (.iconst 1, 1) := by decide +kernel
theorem dX11_duel_102 : decode cX11_duel 102 = .ok (.istore 7, 2) := by decide +kernel
theorem dX11_duel_104 : decode cX11_duel 104 = .ok (.iload 7, 2) := by decide +kernel
theorem dX11_duel_106 : decode cX11_duel 106 = .ok (.bipush 6, 2) := by decide +kernel
theorem dX11_duel_108 : decode cX11_duel 108 = .ok (.if_icmp .ge 63, 3) := by decide +kernel
theorem dX11_duel_111 : decode cX11_duel 111 = .ok (.aload_n 0, 1) := by decide +kernel
theorem dX11_duel_112 : decode cX11_duel 112 = .ok (.getfield 63, 3) := by decide +kernel
theorem dX11_duel_115 : decode cX11_duel 115 = .ok (.iload 5, 2) := by decide +kernel
theorem dX11_duel_117 : decode cX11_duel 117 = .ok (.iload_n 3, 1) := by decide +kernel
theorem dX11_duel_118 : decode cX11_duel 118 = .ok (.iload 7, 2) := by decide +kernel
theorem dX11_duel_120 : decode cX11_duel 120 = .ok (.imul, 1) := by decide +kernel
theorem dX11_duel_121 : decode cX11_duel 121 = .ok (.iadd, 1) := by decide +kernel
theorem dX11_duel_122 : decode cX11_duel 122 = .ok (.iaload, 1) := by decide +kernel
theorem dX11_duel_123 : decode cX11_duel 123 = .ok (.istore 8, 2) := by decide +kernel
theorem dX11_duel_125 : decode cX11_duel 125 = .ok (.iload 4, 2) := by decide +kernel
theorem dX11_duel_127 : decode cX11_duel 127 = .ok (.iconst 2, 1) := by decide +kernel
theorem dX11_duel_128 : decode cX11_duel 128 = .ok (.irem, 1) := by decide +kernel
theorem dX11_duel_129 : decode cX11_duel 129 = .ok (.ifCond .ne 20, 3) := by decide +kernel
theorem dX11_duel_132 : decode cX11_duel 132 = .ok (.iload 8, 2) := by decide +kernel
theorem dX11_duel_134 : decode cX11_duel 134 = .ok (.iload 6, 2) := by decide +kernel
theorem dX11_duel_136 : decode cX11_duel 136 = .ok (.if_icmp .ge 8, 3) := by decide +kernel
theorem dX11_duel_139 : decode cX11_duel 139 = .ok (.iload 8, 2) := by decide +kernel
theorem dX11_duel_141 : decode cX11_duel 141 = .ok (.goto 22, 3) := by decide +kernel
theorem dX11_duel_144 : decode cX11_duel 144 = .ok (.iload 6, 2) := by decide +kernel
theorem dX11_duel_146 : decode cX11_duel 146 = .ok (.goto 17, 3) := by decide +kernel
theorem dX11_duel_149 : decode cX11_duel 149 = .ok (.iload 8, 2) := by decide +kernel
theorem dX11_duel_151 : decode cX11_duel 151 = .ok (.iload 6, 2) := by decide +kernel
theorem dX11_duel_153 : decode cX11_duel 153 = .ok (.if_icmp .le 8, 3) := by decide +kernel
theorem dX11_duel_156 : decode cX11_duel 156 = .ok (.iload 8, 2) := by decide +kernel
theorem dX11_duel_158 : decode cX11_duel 158 = .ok (.goto 5, 3) := by decide +kernel
theorem dX11_duel_161 : decode cX11_duel 161 = .ok (.iload 6, 2) := by decide +kernel
theorem dX11_duel_163 : decode cX11_duel 163 = .ok (.istore 6, 2) := by decide +kernel
theorem dX11_duel_165 : decode cX11_duel 165 = .ok (.iinc 7 1, 3) := by decide +kernel
theorem dX11_duel_168 : decode cX11_duel 168 = .ok (.goto (-64), 3) := by decide +kernel
theorem dX11_duel_171 : decode cX11_duel 171 = .ok (.aload_n 0, 1) := by decide +kernel
theorem dX11_duel_172 : decode cX11_duel 172 = .ok (.getfield 63, 3) := by decide +kernel
theorem dX11_duel_175 : decode cX11_duel 175 = .ok (.iload 5, 2) := by decide +kernel
theorem dX11_duel_177 : decode cX11_duel 177 = .ok (.iload 6, 2) := by decide +kernel
theorem dX11_duel_179 : decode cX11_duel 179 = .ok (.iastore, 1) := by decide +kernel
theorem dX11_duel_180 : decode cX11_duel 180 = .ok (.iinc 5 1, 3) := by decide +kernel
theorem dX11_duel_183 : decode cX11_duel 183 = .ok (.goto (-97), 3) := by decide +kernel
theorem dX11_duel_186 : decode cX11_duel 186 = .ok (.iinc 4 (-1), 3) := by decide +kernel
theorem dX11_duel_189 : decode cX11_duel 189 = .ok (.goto (-116), 3) := by decide +kernel
theorem dX11_duel_192 : decode cX11_duel 192 = .ok (.aload_n 0, 1) := by decide +kernel
theorem dX11_duel_193 : decode cX11_duel 193 = .ok (.getfield 63, 3) := by decide +kernel
theorem dX11_duel_196 : decode cX11_duel 196 = .ok (.iconst 0, 1) := by decide +kernel
theorem dX11_duel_197 : decode cX11_duel 197 = .ok (.iaload, 1) := by decide +kernel
theorem dX11_duel_198 : decode cX11_duel 198 = .ok (.ireturn, 1) := by decide +kernel
theorem dX11_layWinds_0 : decode cX11_layWinds 0 = .ok (.aload_n 0, 1) := by decide +kernel
theorem dX11_layWinds_1 : decode cX11_layWinds 1 = .ok (.lconst 1, 1) := by decide +kernel
theorem dX11_layWinds_2 : decode cX11_layWinds 2 = .ok (.putfield 228, 3) := by decide +kernel
theorem dX11_layWinds_5 : decode cX11_layWinds 5 = .ok (.iconst 0, 1) := by decide +kernel
theorem dX11_layWinds_6 : decode cX11_layWinds 6 = .ok (.istore 4, 2) := by decide +kernel
theorem dX11_layWinds_8 : decode cX11_layWinds 8 = .ok (.iload 4, 2) := by decide +kernel
theorem dX11_layWinds_10 : decode cX11_layWinds 10 = .ok (.iconst 5, 1) := by decide +kernel
theorem dX11_layWinds_11 : decode cX11_layWinds 11 = .ok (.if_icmp .ge 21, 3) := by decide +kernel
theorem dX11_layWinds_14 : decode cX11_layWinds 14 = .ok (.aload_n 0, 1) := by decide +kernel
theorem dX11_layWinds_15 : decode cX11_layWinds 15 = .ok (.dup, 1) := by decide +kernel
theorem dX11_layWinds_16 : decode cX11_layWinds 16 = .ok (.getfield 228, 3) := by decide +kernel
theorem dX11_layWinds_19 : decode cX11_layWinds 19 = .ok (.ldc2_w 231, 3) := by decide +kernel
theorem dX11_layWinds_22 : decode cX11_layWinds 22 = .ok (.lmul, 1) := by decide +kernel
theorem dX11_layWinds_23 : decode cX11_layWinds 23 = .ok (.putfield 228, 3) := by decide +kernel
theorem dX11_layWinds_26 : decode cX11_layWinds 26 = .ok (.iinc 4 1, 3) := by decide +kernel
theorem dX11_layWinds_29 : decode cX11_layWinds 29 = .ok (.goto (-21), 3) := by decide +kernel
theorem dX11_layWinds_32 : decode cX11_layWinds 32 = .ok (.aload_n 0, 1) := by decide +kernel
theorem dX11_layWinds_33 : decode cX11_layWinds 33 = .ok (.lconst 0, 1) := by decide +kernel
theorem dX11_layWinds_34 : decode cX11_layWinds 34 = .ok (.putfield 233, 3) := by decide +kernel
theorem dX11_layWinds_37 : decode cX11_layWinds 37 = .ok (.aload_n 0, 1) := by decide +kernel
theorem dX11_layWinds_38 : decode cX11_layWinds 38 = .ok (.lconst 0, 1) := by decide +kernel
theorem dX11_layWinds_39 : decode cX11_layWinds 39 = .ok (.putfield 236, 3) := by decide +kernel
theorem dX11_layWinds_42 : decode cX11_layWinds 42 = .ok (.iconst 0, 1) := by decide +kernel
theorem dX11_layWinds_43 : decode cX11_layWinds 43 = .ok (.istore 4, 2) := by decide +kernel
theorem dX11_layWinds_45 : decode cX11_layWinds 45 = .ok (.iload 4, 2) := by decide +kernel
theorem dX11_layWinds_47 : decode cX11_layWinds 47 = .ok (.bipush 32, 2) := by decide +kernel
theorem dX11_layWinds_49 : decode cX11_layWinds 49 = .ok (.if_icmp .ge 131, 3) := by decide +kernel
theorem dX11_layWinds_52 : decode cX11_layWinds 52 = .ok (.lconst 1, 1) := by decide +kernel
theorem dX11_layWinds_53 : decode cX11_layWinds 53 = .ok (.lstore 5, 2) := by decide +kernel
theorem dX11_layWinds_55 : decode cX11_layWinds 55 = .ok (.aload_n 0, 1) := by decide +kernel
theorem dX11_layWinds_56 : decode cX11_layWinds 56 = .ok (.invokevirtual 189, 3) := by decide +kernel
theorem dX11_layWinds_59 : decode cX11_layWinds 59 = .ok (.iconst 0, 1) := by decide +kernel
theorem dX11_layWinds_60 : decode cX11_layWinds 60 = .ok (.istore 7, 2) := by decide +kernel
theorem dX11_layWinds_62 : decode cX11_layWinds 62 = .ok (.iload 7, 2) := by decide +kernel
theorem dX11_layWinds_64 : decode cX11_layWinds 64 = .ok (.iconst 5, 1) := by decide +kernel
theorem dX11_layWinds_65 : decode cX11_layWinds 65 = .ok (.if_icmp .ge 66, 3) := by decide +kernel
theorem dX11_layWinds_68 : decode cX11_layWinds 68 = .ok (.lload 5, 2) := by decide +kernel
theorem dX11_layWinds_70 : decode cX11_layWinds 70 = .ok (.iload 4, 2) := by decide +kernel
theorem dX11_layWinds_72 : decode cX11_layWinds 72 = .ok (.iload 7, 2) := by decide +kernel
theorem dX11_layWinds_74 : decode cX11_layWinds 74 = .ok (.invokestatic 215, 3) := by decide +kernel
theorem dX11_layWinds_77 : decode cX11_layWinds 77 = .ok (.ifCond .eq 8, 3) := by decide +kernel
theorem dX11_layWinds_80 : decode cX11_layWinds 80 = .ok (.iload_n 3, 1) := by decide +kernel
theorem dX11_layWinds_81 : decode cX11_layWinds 81 = .ok (.i2l, 1) := by decide +kernel
theorem dX11_layWinds_82 : decode cX11_layWinds 82 = .ok (.goto 8, 3) := by decide +kernel
theorem dX11_layWinds_85 : decode cX11_layWinds 85 = .ok (.bipush 12, 2) := by decide +kernel
theorem dX11_layWinds_87 : decode cX11_layWinds 87 = .ok (.iload_n 3, 1) := by decide +kernel
theorem dX11_layWinds_88 : decode cX11_layWinds 88 = .ok (.isub, 1) := by decide +kernel
theorem dX11_layWinds_89 : decode cX11_layWinds 89 = .ok (.i2l, 1) := by decide +kernel
theorem dX11_layWinds_90 : decode cX11_layWinds 90 = .ok (.lmul, 1) := by decide +kernel
theorem dX11_layWinds_91 : decode cX11_layWinds 91 = .ok (.lstore 5, 2) := by decide +kernel
theorem dX11_layWinds_93 : decode cX11_layWinds 93 = .ok (.aload_n 0, 1) := by decide +kernel
theorem dX11_layWinds_94 : decode cX11_layWinds 94 = .ok (.getfield 51, 3) := by decide +kernel
theorem dX11_layWinds_97 : decode cX11_layWinds 97 = .ok (.iconst 1, 1) := by decide +kernel
theorem dX11_layWinds_98 : decode cX11_layWinds 98 = .ok (.iload 7, 2) := by decide +kernel
theorem dX11_layWinds_100 : decode cX11_layWinds 100 = .ok (.iadd, 1) := by decide +kernel
theorem dX11_layWinds_101 : decode cX11_layWinds 101 = .ok (.iload 4, 2) := by decide +kernel
theorem dX11_layWinds_103 : decode cX11_layWinds 103 = .ok (.iload 7, 2) := by decide +kernel
theorem dX11_layWinds_105 : decode cX11_layWinds 105 = .ok (.invokestatic 215, 3) := by decide +kernel
theorem dX11_layWinds_108 : decode cX11_layWinds 108 = .ok (.ifCond .eq 7, 3) := by decide +kernel
theorem dX11_layWinds_111 : decode cX11_layWinds 111 = .ok (.iconst 0, 1) := by decide +kernel
theorem dX11_layWinds_112 : decode cX11_layWinds 112 = .ok (.goto 12, 3) := by decide +kernel
theorem dX11_layWinds_115 : decode cX11_layWinds 115 = .ok (.aload_n 0, 1) := by decide +kernel
theorem dX11_layWinds_116 : decode cX11_layWinds 116 = .ok (.getfield 51, 3) := by decide +kernel
theorem dX11_layWinds_119 : decode cX11_layWinds 119 = .ok (.iconst 1, 1) := by decide +kernel
theorem dX11_layWinds_120 : decode cX11_layWinds 120 = .ok (.iload 7, 2) := by decide +kernel
theorem dX11_layWinds_122 : decode cX11_layWinds 122 = .ok (.iadd, 1) := by decide +kernel
theorem dX11_layWinds_123 : decode cX11_layWinds 123 = .ok (.iaload, 1) := by decide +kernel
theorem dX11_layWinds_124 : decode cX11_layWinds 124 = .ok (.iastore, 1) := by decide +kernel
theorem dX11_layWinds_125 : decode cX11_layWinds 125 = .ok (.iinc 7 1, 3) := by decide +kernel
theorem dX11_layWinds_128 : decode cX11_layWinds 128 = .ok (.goto (-66), 3) := by decide +kernel
theorem dX11_layWinds_131 : decode cX11_layWinds 131 = .ok (.aload_n 0, 1) := by decide +kernel
theorem dX11_layWinds_132 : decode cX11_layWinds 132 = .ok (.iload_n 2, 1) := by decide +kernel
theorem dX11_layWinds_133 : decode cX11_layWinds 133 = .ok (.invokevirtual 192, 3) := by decide +kernel
theorem dX11_layWinds_136 : decode cX11_layWinds 136 = .ok (.istore 7, 2) := by decide +kernel
theorem dX11_layWinds_138 : decode cX11_layWinds 138 = .ok (.aload_n 0, 1) := by decide +kernel
theorem dX11_layWinds_139 : decode cX11_layWinds 139 = .ok (.dup, 1) := by decide +kernel
theorem dX11_layWinds_140 : decode cX11_layWinds 140 = .ok (.getfield 233, 3) := by decide +kernel
theorem dX11_layWinds_143 : decode cX11_layWinds 143 = .ok (.iload 7, 2) := by decide +kernel
theorem dX11_layWinds_145 : decode cX11_layWinds 145 = .ok (.iload_n 1, 1) := by decide +kernel
theorem dX11_layWinds_146 : decode cX11_layWinds 146 = .ok (.if_icmp .gt 8, 3) := by decide +kernel
theorem dX11_layWinds_149 : decode cX11_layWinds 149 = .ok (.lload 5, 2) := by decide +kernel
theorem dX11_layWinds_151 : decode cX11_layWinds 151 = .ok (.goto 4, 3) := by decide +kernel
theorem dX11_layWinds_154 : decode cX11_layWinds 154 = .ok (.lconst 0, 1) := by decide +kernel
theorem dX11_layWinds_155 : decode cX11_layWinds 155 = .ok (.ladd, 1) := by decide +kernel
theorem dX11_layWinds_156 : decode cX11_layWinds 156 = .ok (.putfield 233, 3) := by decide +kernel
theorem dX11_layWinds_159 : decode cX11_layWinds 159 = .ok (.aload_n 0, 1) := by decide +kernel
theorem dX11_layWinds_160 : decode cX11_layWinds 160 = .ok (.dup, 1) := by decide +kernel
theorem dX11_layWinds_161 : decode cX11_layWinds 161 = .ok (.getfield 236, 3) := by decide +kernel
theorem dX11_layWinds_164 : decode cX11_layWinds 164 = .ok (.lload 5, 2) := by decide +kernel
theorem dX11_layWinds_166 : decode cX11_layWinds 166 = .ok (.iload 7, 2) := by decide +kernel
theorem dX11_layWinds_168 : decode cX11_layWinds 168 = .ok (.i2l, 1) := by decide +kernel
theorem dX11_layWinds_169 : decode cX11_layWinds 169 = .ok (.lmul, 1) := by decide +kernel
theorem dX11_layWinds_170 : decode cX11_layWinds 170 = .ok (.ladd, 1) := by decide +kernel
theorem dX11_layWinds_171 : decode cX11_layWinds 171 = .ok (.putfield 236, 3) := by decide +kernel
theorem dX11_layWinds_174 : decode cX11_layWinds 174 = .ok (.iinc 4 1, 3) := by decide +kernel
theorem dX11_layWinds_177 : decode cX11_layWinds 177 = .ok (.goto (-132), 3) := by decide +kernel
theorem dX11_layWinds_180 : decode cX11_layWinds 180 = .ok (.return_, 1) := by decide +kernel
theorem dX11_odds_0 : decode cX11_odds 0 = .ok (.aload_n 0, 1) := by decide +kernel
theorem dX11_odds_1 : decode cX11_odds 1 = .ok (.iload_n 1, 1) := by decide +kernel
theorem dX11_odds_2 : decode cX11_odds 2 = .ok (.iconst 0, 1) := by decide +kernel
theorem dX11_odds_3 : decode cX11_odds 3 = .ok (.bipush 63, 2) := by decide +kernel
theorem dX11_odds_5 : decode cX11_odds 5 = .ok (.invokestatic 76, 3) := by decide +kernel
theorem dX11_odds_8 : decode cX11_odds 8 = .ok (.ifCond .eq 27, 3) := by decide +kernel
theorem dX11_odds_11 : decode cX11_odds 11 = .ok (.iload_n 2, 1) := by decide +kernel
theorem dX11_odds_12 : decode cX11_odds 12 = .ok (.iconst 0, 1) := by decide +kernel
theorem dX11_odds_13 : decode cX11_odds 13 = .ok (.bipush 20, 2) := by decide +kernel
theorem dX11_odds_15 : decode cX11_odds 15 = .ok (.invokestatic 76, 3) := by decide +kernel
theorem dX11_odds_18 : decode cX11_odds 18 = .ok (.ifCond .eq 17, 3) := by decide +kernel
theorem dX11_odds_21 : decode cX11_odds 21 = .ok (.iload_n 3, 1) := by decide +kernel
theorem dX11_odds_22 : decode cX11_odds 22 = .ok (.iconst 0, 1) := by decide +kernel
theorem dX11_odds_23 : decode cX11_odds 23 = .ok (.bipush 12, 2) := by decide +kernel
theorem dX11_odds_25 : decode cX11_odds 25 = .ok (.invokestatic 76, 3) := by decide +kernel
theorem dX11_odds_28 : decode cX11_odds 28 = .ok (.ifCond .eq 7, 3) := by decide +kernel
theorem dX11_odds_31 : decode cX11_odds 31 = .ok (.iconst 1, 1) := by decide +kernel
theorem dX11_odds_32 : decode cX11_odds 32 = .ok (.goto 4, 3) := by decide +kernel
theorem dX11_odds_35 : decode cX11_odds 35 = .ok (.iconst 0, 1) := by decide +kernel
theorem dX11_odds_36 : decode cX11_odds 36 = .ok (.invokevirtual 195, 3) := by decide +kernel
theorem dX11_odds_39 : decode cX11_odds 39 = .ok (.istore 4, 2) := by decide +kernel
theorem dX11_odds_41 : decode cX11_odds 41 = .ok (.iload 4, 2) := by decide +kernel
theorem dX11_odds_43 : decode cX11_odds 43 = .ok (.ifCond .ge 6, 3) := by decide +kernel
theorem dX11_odds_46 : decode cX11_odds 46 = .ok (.iload 4, 2) := by decide +kernel
theorem dX11_odds_48 : decode cX11_odds 48 = .ok (.ireturn, 1) := by decide +kernel
theorem dX11_odds_49 : decode cX11_odds 49 = .ok (.aload_n 0, 1) := by decide +kernel
theorem dX11_odds_50 : decode cX11_odds 50 = .ok (.iload_n 1, 1) := by decide +kernel
theorem dX11_odds_51 : decode cX11_odds 51 = .ok (.iload_n 2, 1) := by decide +kernel
theorem dX11_odds_52 : decode cX11_odds 52 = .ok (.iload_n 3, 1) := by decide +kernel
theorem dX11_odds_53 : decode cX11_odds 53 = .ok (.invokevirtual 239, 3) := by decide +kernel
theorem dX11_odds_56 : decode cX11_odds 56 = .ok (.aload_n 0, 1) := by decide +kernel
theorem dX11_odds_57 : decode cX11_odds 57 = .ok (.aload_n 0, 1) := by decide +kernel
theorem dX11_odds_58 : decode cX11_odds 58 = .ok (.getfield 233, 3) := by decide +kernel
theorem dX11_odds_61 : decode cX11_odds 61 = .ok (.aload_n 0, 1) := by decide +kernel
theorem dX11_odds_62 : decode cX11_odds 62 = .ok (.getfield 228, 3) := by decide +kernel
theorem dX11_odds_65 : decode cX11_odds 65 = .ok (.iconst 1, 1) := by decide +kernel
theorem dX11_odds_66 : decode cX11_odds 66 = .ok (.invokevirtual 243, 3) := by decide +kernel
theorem dX11_odds_69 : decode cX11_odds 69 = .ok (.ireturn, 1) := by decide +kernel
theorem dX11_mid_0 : decode cX11_mid 0 = .ok (.aload_n 0, 1) := by decide +kernel
theorem dX11_mid_1 : decode cX11_mid 1 = .ok (.iload_n 1, 1) := by decide +kernel
theorem dX11_mid_2 : decode cX11_mid 2 = .ok (.iconst 0, 1) := by decide +kernel
theorem dX11_mid_3 : decode cX11_mid 3 = .ok (.bipush 20, 2) := by decide +kernel
theorem dX11_mid_5 : decode cX11_mid 5 = .ok (.invokestatic 76, 3) := by decide +kernel
theorem dX11_mid_8 : decode cX11_mid 8 = .ok (.ifCond .eq 17, 3) := by decide +kernel
theorem dX11_mid_11 : decode cX11_mid 11 = .ok (.iload_n 2, 1) := by decide +kernel
theorem dX11_mid_12 : decode cX11_mid 12 = .ok (.iconst 0, 1) := by decide +kernel
theorem dX11_mid_13 : decode cX11_mid 13 = .ok (.bipush 12, 2) := by decide +kernel
theorem dX11_mid_15 : decode cX11_mid 15 = .ok (.invokestatic 76, 3) := by decide +kernel
theorem dX11_mid_18 : decode cX11_mid 18 = .ok (.ifCond .eq 7, 3) := by decide +kernel
theorem dX11_mid_21 : decode cX11_mid 21 = .ok (.iconst 1, 1) := by decide +kernel
theorem dX11_mid_22 : decode cX11_mid 22 = .ok (.goto 4, 3) := by decide +kernel
theorem dX11_mid_25 : decode cX11_mid 25 = .ok (.iconst 0, 1) := by decide +kernel
theorem dX11_mid_26 : decode cX11_mid 26 = .ok (.invokevirtual 195, 3) := by decide +kernel
theorem dX11_mid_29 : decode cX11_mid 29 = .ok (.istore_n 3, 1) := by decide +kernel
theorem dX11_mid_30 : decode cX11_mid 30 = .ok (.iload_n 3, 1) := by decide +kernel
theorem dX11_mid_31 : decode cX11_mid 31 = .ok (.ifCond .ge 5, 3) := by decide +kernel
theorem dX11_mid_34 : decode cX11_mid 34 = .ok (.iload_n 3, 1) := by decide +kernel
theorem dX11_mid_35 : decode cX11_mid 35 = .ok (.ireturn, 1) := by decide +kernel
theorem dX11_mid_36 : decode cX11_mid 36 = .ok (.aload_n 0, 1) := by decide +kernel
theorem dX11_mid_37 : decode cX11_mid 37 = .ok (.iconst 0, 1) := by decide +kernel
theorem dX11_mid_38 : decode cX11_mid 38 = .ok (.iload_n 1, 1) := by decide +kernel
theorem dX11_mid_39 : decode cX11_mid 39 = .ok (.iload_n 2, 1) := by decide +kernel
theorem dX11_mid_40 : decode cX11_mid 40 = .ok (.invokevirtual 239, 3) := by decide +kernel
theorem dX11_mid_43 : decode cX11_mid 43 = .ok (.aload_n 0, 1) := by decide +kernel
theorem dX11_mid_44 : decode cX11_mid 44 = .ok (.aload_n 0, 1) := by decide +kernel
theorem dX11_mid_45 : decode cX11_mid 45 = .ok (.getfield 236, 3) := by decide +kernel
theorem dX11_mid_48 : decode cX11_mid 48 = .ok (.aload_n 0, 1) := by decide +kernel
theorem dX11_mid_49 : decode cX11_mid 49 = .ok (.getfield 228, 3) := by decide +kernel
theorem dX11_mid_52 : decode cX11_mid 52 = .ok (.iconst 1, 1) := by decide +kernel
theorem dX11_mid_53 : decode cX11_mid 53 = .ok (.invokevirtual 243, 3) := by decide +kernel
theorem dX11_mid_56 : decode cX11_mid 56 = .ok (.ireturn, 1) := by decide +kernel
theorem dX11_lots_0 : decode cX11_lots 0 = .ok (.aload_n 0, 1) := by decide +kernel
theorem dX11_lots_1 : decode cX11_lots 1 = .ok (.iload_n 1, 1) := by decide +kernel
theorem dX11_lots_2 : decode cX11_lots 2 = .ok (.iconst 1, 1) := by decide +kernel
theorem dX11_lots_3 : decode cX11_lots 3 = .ok (.bipush 20, 2) := by decide +kernel
theorem dX11_lots_5 : decode cX11_lots 5 = .ok (.invokestatic 76, 3) := by decide +kernel
theorem dX11_lots_8 : decode cX11_lots 8 = .ok (.ifCond .eq 17, 3) := by decide +kernel
theorem dX11_lots_11 : decode cX11_lots 11 = .ok (.iload_n 2, 1) := by decide +kernel
theorem dX11_lots_12 : decode cX11_lots 12 = .ok (.iconst 1, 1) := by decide +kernel
theorem dX11_lots_13 : decode cX11_lots 13 = .ok (.ldc 247, 2) := by decide +kernel
theorem dX11_lots_15 : decode cX11_lots 15 = .ok (.invokestatic 76, 3) := by decide +kernel
theorem dX11_lots_18 : decode cX11_lots 18 = .ok (.ifCond .eq 7, 3) := by decide +kernel
theorem dX11_lots_21 : decode cX11_lots 21 = .ok (.iconst 1, 1) := by decide +kernel
theorem dX11_lots_22 : decode cX11_lots 22 = .ok (.goto 4, 3) := by decide +kernel
theorem dX11_lots_25 : decode cX11_lots 25 = .ok (.iconst 0, 1) := by decide +kernel
theorem dX11_lots_26 : decode cX11_lots 26 = .ok (.invokevirtual 195, 3) := by decide +kernel
theorem dX11_lots_29 : decode cX11_lots 29 = .ok (.istore_n 3, 1) := by decide +kernel
theorem dX11_lots_30 : decode cX11_lots 30 = .ok (.iload_n 3, 1) := by decide +kernel
theorem dX11_lots_31 : decode cX11_lots 31 = .ok (.ifCond .ge 5, 3) := by decide +kernel
theorem dX11_lots_34 : decode cX11_lots 34 = .ok (.iload_n 3, 1) := by decide +kernel
theorem dX11_lots_35 : decode cX11_lots 35 = .ok (.ireturn, 1) := by decide +kernel
theorem dX11_lots_36 : decode cX11_lots 36 = .ok (.aload_n 0, 1) := by decide +kernel
theorem dX11_lots_37 : decode cX11_lots 37 = .ok (.getfield 129, 3) := by decide +kernel
theorem dX11_lots_40 : decode cX11_lots 40 = .ok (.iload_n 1, 1) := by decide +kernel
theorem dX11_lots_41 : decode cX11_lots 41 = .ok (.iadd, 1) := by decide +kernel
theorem dX11_lots_42 : decode cX11_lots 42 = .ok (.bipush 40, 2) := by decide +kernel
theorem dX11_lots_44 : decode cX11_lots 44 = .ok (.if_icmp .le 6, 3) := by decide +kernel
theorem dX11_lots_47 : decode cX11_lots 47 = .ok (.bipush (-2), 2) := by decide +kernel
theorem dX11_lots_49 : decode cX11_lots 49 = .ok (.ireturn, 1) := by decide +kernel
theorem dX11_lots_50 : decode cX11_lots 50 = .ok (.iload_n 2, 1) := by decide +kernel
theorem dX11_lots_51 : decode cX11_lots 51 = .ok (.i2l, 1) := by decide +kernel
theorem dX11_lots_52 : decode cX11_lots 52 = .ok (.lstore 4, 2) := by decide +kernel
theorem dX11_lots_54 : decode cX11_lots 54 = .ok (.iconst 0, 1) := by decide +kernel
theorem dX11_lots_55 : decode cX11_lots 55 = .ok (.istore 6, 2) := by decide +kernel
theorem dX11_lots_57 : decode cX11_lots 57 = .ok (.iload 6, 2) := by decide +kernel
theorem dX11_lots_59 : decode cX11_lots 59 = .ok (.iload_n 1, 1) := by decide +kernel
theorem dX11_lots_60 : decode cX11_lots 60 = .ok (.if_icmp .ge 147, 3) := by decide +kernel
theorem dX11_lots_63 : decode cX11_lots 63 = .ok (.lload 4, 2) := by decide +kernel
theorem dX11_lots_65 : decode cX11_lots 65 = .ok (.ldc2_w 248, 3) := by decide +kernel
theorem dX11_lots_68 : decode cX11_lots 68 = .ok (.lmul, 1) := by decide +kernel
theorem dX11_lots_69 : decode cX11_lots 69 = .ok (.ldc2_w 250, 3) := by decide +kernel
theorem dX11_lots_72 : decode cX11_lots 72 = .ok (.lrem, 1) := by decide +kernel
theorem dX11_lots_73 : decode cX11_lots 73 = .ok (.lstore 4, 2) := by decide +kernel
theorem dX11_lots_75 : decode cX11_lots 75 = .ok (.lload 4, 2) := by decide +kernel
theorem dX11_lots_77 : decode cX11_lots 77 = .ok (.ldc2_w 252, 3) := by decide +kernel
theorem dX11_lots_80 : decode cX11_lots 80 = .ok (.ldiv, 1) := by decide +kernel
theorem dX11_lots_81 : decode cX11_lots 81 = .ok (.ldc2_w 254, 3) := by decide +kernel
theorem dX11_lots_84 : decode cX11_lots 84 = .ok (.lrem, 1) := by decide +kernel
theorem dX11_lots_85 : decode cX11_lots 85 = .ok (.l2i, 1) := by decide +kernel
theorem dX11_lots_86 : decode cX11_lots 86 = .ok (.istore 7, 2) := by decide +kernel
theorem dX11_lots_88 : decode cX11_lots 88 = .ok (.lload 4, 2) := by decide +kernel
theorem dX11_lots_90 : decode cX11_lots 90 = .ok (.ldc2_w 252, 3) := by decide +kernel
theorem dX11_lots_93 : decode cX11_lots 93 = .ok (.lrem, 1) := by decide +kernel
theorem dX11_lots_94 : decode cX11_lots 94 = .ok (.l2i, 1) := by decide +kernel
theorem dX11_lots_95 : decode cX11_lots 95 = .ok (.istore 8, 2) := by decide +kernel
theorem dX11_lots_97 : decode cX11_lots 97 = .ok (.aload_n 0, 1) := by decide +kernel
theorem dX11_lots_98 : decode cX11_lots 98 = .ok (.invokevirtual 179, 3) := by decide +kernel
theorem dX11_lots_101 : decode cX11_lots 101 = .ok (.iload 8, 2) := by decide +kernel
theorem dX11_lots_103 : decode cX11_lots 103 = .ok (.ifCond .ne 16, 3) := by decide +kernel
theorem dX11_lots_106 : decode cX11_lots 106 = .ok (.aload_n 0, 1) := by decide +kernel
theorem dX11_lots_107 : decode cX11_lots 107 = .ok (.getfield 48, 3) := by decide +kernel
theorem dX11_lots_110 : decode cX11_lots 110 = .ok (.iconst 1, 1) := by decide +kernel
theorem dX11_lots_111 : decode cX11_lots 111 = .ok (.iload 7, 2) := by decide +kernel
theorem dX11_lots_113 : decode cX11_lots 113 = .ok (.iadd, 1) := by decide +kernel
theorem dX11_lots_114 : decode cX11_lots 114 = .ok (.iconst 0, 1) := by decide +kernel
theorem dX11_lots_115 : decode cX11_lots 115 = .ok (.iastore, 1) := by decide +kernel
theorem dX11_lots_116 : decode cX11_lots 116 = .ok (.goto 85, 3) := by decide +kernel
theorem dX11_lots_119 : decode cX11_lots 119 = .ok (.iload 8, 2) := by decide +kernel
theorem dX11_lots_121 : decode cX11_lots 121 = .ok (.iconst 3, 1) := by decide +kernel
theorem dX11_lots_122 : decode cX11_lots 122 = .ok (.if_icmp .ge 28, 3) := by decide +kernel
theorem dX11_lots_125 : decode cX11_lots 125 = .ok (.aload_n 0, 1) := by decide +kernel
theorem dX11_lots_126 : decode cX11_lots 126 = .ok (.getfield 48, 3) := by decide +kernel
theorem dX11_lots_129 : decode cX11_lots 129 = .ok (.iconst 1, 1) := by decide +kernel
theorem dX11_lots_130 : decode cX11_lots 130 = .ok (.iload 7, 2) := by decide +kernel
theorem dX11_lots_132 : decode cX11_lots 132 = .ok (.iadd, 1) := by decide +kernel
theorem dX11_lots_133 : decode cX11_lots 133 = .ok (.aload_n 0, 1) := by decide +kernel
theorem dX11_lots_134 : decode cX11_lots 134 = .ok (.getfield 48, 3) := by decide +kernel
theorem dX11_lots_137 : decode cX11_lots 137 = .ok (.iconst 1, 1) := by decide +kernel
theorem dX11_lots_138 : decode cX11_lots 138 = .ok (.iload 7, 2) := by decide +kernel
theorem dX11_lots_140 : decode cX11_lots 140 = .ok (.iadd, 1) := by decide +kernel
theorem dX11_lots_141 : decode cX11_lots 141 = .ok (.iaload, 1) := by decide +kernel
theorem dX11_lots_142 : decode cX11_lots 142 = .ok (.iconst 1, 1) := by decide +kernel
theorem dX11_lots_143 : decode cX11_lots 143 = .ok (.invokestatic 182, 3) := by decide +kernel
theorem dX11_lots_146 : decode cX11_lots 146 = .ok (.iastore, 1) := by decide +kernel
theorem dX11_lots_147 : decode cX11_lots 147 = .ok (.goto 54, 3) := by decide +kernel
theorem dX11_lots_150 : decode cX11_lots 150 = .ok (.iload 8, 2) := by decide +kernel
theorem dX11_lots_152 : decode cX11_lots 152 = .ok (.iconst 3, 1) := by decide +kernel
theorem dX11_lots_153 : decode cX11_lots 153 = .ok (.if_icmp .ne 29, 3) := by decide +kernel
theorem dX11_lots_156 : decode cX11_lots 156 = .ok (.aload_n 0, 1) := by decide +kernel
theorem dX11_lots_157 : decode cX11_lots 157 = .ok (.getfield 48, 3) := by decide +kernel
theorem dX11_lots_160 : decode cX11_lots 160 = .ok (.bipush 13, 2) := by decide +kernel
theorem dX11_lots_162 : decode cX11_lots 162 = .ok (.lload 4, 2) := by decide +kernel
theorem dX11_lots_164 : decode cX11_lots 164 = .ok (.ldc2_w 256, 3) := by decide +kernel
theorem dX11_lots_167 : decode cX11_lots 167 = .ok (.ldiv, 1) := by decide +kernel
theorem dX11_lots_168 : decode cX11_lots 168 = .ok (.aload_n 0, 1) := by decide +kernel
theorem dX11_lots_169 : decode cX11_lots 169 = .ok (.getfield 126, 3) := by decide +kernel
theorem dX11_lots_172 : decode cX11_lots 172 = .ok (.i2l, 1) := by decide +kernel
theorem dX11_lots_173 : decode cX11_lots 173 = .ok (.lrem, 1) := by decide +kernel
theorem dX11_lots_174 : decode cX11_lots 174 = .ok (.l2i, 1) := by decide +kernel
theorem dX11_lots_175 : decode cX11_lots 175 = .ok (.iadd, 1) := by decide +kernel
theorem dX11_lots_176 : decode cX11_lots 176 = .ok (.iload 7, 2) := by decide +kernel
theorem dX11_lots_178 : decode cX11_lots 178 = .ok (.iastore, 1) := by decide +kernel
theorem dX11_lots_179 : decode cX11_lots 179 = .ok (.goto 22, 3) := by decide +kernel
theorem dX11_lots_182 : decode cX11_lots 182 = .ok (.aload_n 0, 1) := by decide +kernel
theorem dX11_lots_183 : decode cX11_lots 183 = .ok (.getfield 48, 3) := by decide +kernel
theorem dX11_lots_186 : decode cX11_lots 186 = .ok (.iconst 0, 1) := by decide +kernel
theorem dX11_lots_187 : decode cX11_lots 187 = .ok (.iaload, 1) := by decide +kernel
theorem dX11_lots_188 : decode cX11_lots 188 = .ok (.bipush 99, 2) := by decide +kernel
theorem dX11_lots_190 : decode cX11_lots 190 = .ok (.if_icmp .ge 11, 3) := by decide +kernel
theorem dX11_lots_193 : decode cX11_lots 193 = .ok (.aload_n 0, 1) := by decide +kernel
theorem dX11_lots_194 : decode cX11_lots 194 = .ok (.aload_n 0, 1) := by decide +kernel
theorem dX11_lots_195 : decode cX11_lots 195 = .ok (.getfield 48, 3) := by decide +kernel
theorem dX11_lots_198 : decode cX11_lots 198 = .ok (.invokevirtual 159, 3) := by decide +kernel
theorem dX11_lots_201 : decode cX11_lots 201 = .ok (.iinc 6 1, 3) := by decide +kernel
theorem dX11_lots_204 : decode cX11_lots 204 = .ok (.goto (-147), 3) := by decide +kernel
theorem dX11_lots_207 : decode cX11_lots 207 = .ok (.aload_n 0, 1) := by decide +kernel
theorem dX11_lots_208 : decode cX11_lots 208 = .ok (.aload_n 0, 1) := by decide +kernel
theorem dX11_lots_209 : decode cX11_lots 209 = .ok (.getfield 48, 3) := by decide +kernel
theorem dX11_lots_212 : decode cX11_lots 212 = .ok (.invokevirtual 163, 3) := by decide +kernel
theorem dX11_lots_215 : decode cX11_lots 215 = .ok (.ireturn, 1) := by decide +kernel
theorem dX11_counted_0 : decode cX11_counted 0 = .ok (.iconst 0, 1) := by decide +kernel
theorem dX11_counted_1 : decode cX11_counted 1 = .ok (.istore_n 2, 1) := by decide +kernel
theorem dX11_counted_2 : decode cX11_counted 2 = .ok (.iload_n 1, 1) := by decide +kernel
theorem dX11_counted_3 : decode cX11_counted 3 = .ok (.tableswitch 251 0 9 #[53, 58, 65, 70, 79, 119, 128, 154, 187, 219], 53) := by decide +kernel
theorem dX11_counted_56 : decode cX11_counted 56 = .ok (.aload_n 0, 1) := by decide +kernel
theorem dX11_counted_57 : decode cX11_counted 57 = .ok (.getfield 126, 3) := by decide +kernel
theorem dX11_counted_60 : decode cX11_counted 60 = .ok (.ireturn, 1) := by decide +kernel
theorem dX11_counted_61 : decode cX11_counted 61 = .ok (.aload_n 0, 1) := by decide +kernel
theorem dX11_counted_62 : decode cX11_counted 62 = .ok (.getfield 48, 3) := by decide +kernel
theorem dX11_counted_65 : decode cX11_counted 65 = .ok (.iconst 0, 1) := by decide +kernel
theorem dX11_counted_66 : decode cX11_counted 66 = .ok (.iaload, 1) := by decide +kernel
theorem dX11_counted_67 : decode cX11_counted 67 = .ok (.ireturn, 1) := by decide +kernel
theorem dX11_counted_68 : decode cX11_counted 68 = .ok (.aload_n 0, 1) := by decide +kernel
theorem dX11_counted_69 : decode cX11_counted 69 = .ok (.getfield 129, 3) := by decide +kernel
theorem dX11_counted_72 : decode cX11_counted 72 = .ok (.ireturn, 1) := by decide +kernel
theorem dX11_counted_73 : decode cX11_counted 73 = .ok (.aload_n 0, 1) := by decide +kernel
theorem dX11_counted_74 : decode cX11_counted 74 = .ok (.aload_n 0, 1) := by decide +kernel
theorem dX11_counted_75 : decode cX11_counted 75 = .ok (.getfield 48, 3) := by decide +kernel
theorem dX11_counted_78 : decode cX11_counted 78 = .ok (.invokevirtual 163, 3) := by decide +kernel
theorem dX11_counted_81 : decode cX11_counted 81 = .ok (.ireturn, 1) := by decide +kernel
theorem dX11_counted_82 : decode cX11_counted 82 = .ok (.iconst 0, 1) := by decide +kernel
theorem dX11_counted_83 : decode cX11_counted 83 = .ok (.istore_n 3, 1) := by decide +kernel
theorem dX11_counted_84 : decode cX11_counted 84 = .ok (.iload_n 3, 1) := by decide +kernel
theorem dX11_counted_85 : decode cX11_counted 85 = .ok (.aload_n 0, 1) := by decide +kernel
theorem dX11_counted_86 : decode cX11_counted 86 = .ok (.getfield 126, 3) := by decide +kernel
theorem dX11_counted_89 : decode cX11_counted 89 = .ok (.if_icmp .ge 31, 3) := by decide +kernel
theorem dX11_counted_92 : decode cX11_counted 92 = .ok (.iload_n 2, 1) := by decide +kernel
theorem dX11_counted_93 : decode cX11_counted 93 = .ok (.aload_n 0, 1) := by decide +kernel
theorem dX11_counted_94 : decode cX11_counted 94 = .ok (.aload_n 0, 1) := by decide +kernel
theorem dX11_counted_95 : decode cX11_counted 95 = .ok (.getfield 48, 3) := by decide +kernel
theorem dX11_counted_98 : decode cX11_counted 98 = .ok (.iload_n 3, 1) := by decide +kernel
theorem dX11_counted_99 : decode cX11_counted 99 = .ok (.invokevirtual 139, 3) := by decide +kernel
theorem dX11_counted_102 : decode cX11_counted 102 = .ok (.ifCond .eq 9, 3) := by decide +kernel
theorem dX11_counted_105 : decode cX11_counted 105 = .ok (.iconst 1, 1) := by decide +kernel
theorem dX11_counted_106 : decode cX11_counted 106 = .ok (.iload_n 3, 1) := by decide +kernel
theorem dX11_counted_107 : decode cX11_counted 107 = .ok (.ishl, 1) := by decide +kernel
theorem dX11_counted_108 : decode cX11_counted 108 = .ok (.goto 4, 3) := by decide +kernel
theorem dX11_counted_111 : decode cX11_counted 111 = .ok (.iconst 0, 1) := by decide +kernel
theorem dX11_counted_112 : decode cX11_counted 112 = .ok (.ior, 1) := by decide +kernel
theorem dX11_counted_113 : decode cX11_counted 113 = .ok (.istore_n 2, 1) := by decide +kernel
theorem dX11_counted_114 : decode cX11_counted 114 = .ok (.iinc 3 1, 3) := by decide +kernel
theorem dX11_counted_117 : decode cX11_counted 117 = .ok (.goto (-33), 3) := by decide +kernel
theorem dX11_counted_120 : decode cX11_counted 120 = .ok (.iload_n 2, 1) := by decide +kernel
theorem dX11_counted_121 : decode cX11_counted 121 = .ok (.ireturn, 1) := by decide +kernel
theorem dX11_counted_122 : decode cX11_counted 122 = .ok (.aload_n 0, 1) := by decide +kernel
theorem dX11_counted_123 : decode cX11_counted 123 = .ok (.aload_n 0, 1) := by decide +kernel
theorem dX11_counted_124 : decode cX11_counted 124 = .ok (.getfield 48, 3) := by decide +kernel
theorem dX11_counted_127 : decode cX11_counted 127 = .ok (.invokevirtual 199, 3) := by decide +kernel
theorem dX11_counted_130 : decode cX11_counted 130 = .ok (.ireturn, 1) := by decide +kernel
theorem dX11_counted_131 : decode cX11_counted 131 = .ok (.iconst 0, 1) := by decide +kernel
theorem dX11_counted_132 : decode cX11_counted 132 = .ok (.istore_n 3, 1) := by decide +kernel
theorem dX11_counted_133 : decode cX11_counted 133 = .ok (.iload_n 3, 1) := by decide +kernel
theorem dX11_counted_134 : decode cX11_counted 134 = .ok (.iconst 5, 1) := by decide +kernel
theorem dX11_counted_135 : decode cX11_counted 135 = .ok (.if_icmp .ge 20, 3) := by decide +kernel
theorem dX11_counted_138 : decode cX11_counted 138 = .ok (.iload_n 2, 1) := by decide +kernel
theorem dX11_counted_139 : decode cX11_counted 139 = .ok (.aload_n 0, 1) := by decide +kernel
theorem dX11_counted_140 : decode cX11_counted 140 = .ok (.getfield 48, 3) := by decide +kernel
theorem dX11_counted_143 : decode cX11_counted 143 = .ok (.iconst 1, 1) := by decide +kernel
theorem dX11_counted_144 : decode cX11_counted 144 = .ok (.iload_n 3, 1) := by decide +kernel
theorem dX11_counted_145 : decode cX11_counted 145 = .ok (.iadd, 1) := by decide +kernel
theorem dX11_counted_146 : decode cX11_counted 146 = .ok (.iaload, 1) := by decide +kernel
theorem dX11_counted_147 : decode cX11_counted 147 = .ok (.iadd, 1) := by decide +kernel
theorem dX11_counted_148 : decode cX11_counted 148 = .ok (.istore_n 2, 1) := by decide +kernel
theorem dX11_counted_149 : decode cX11_counted 149 = .ok (.iinc 3 1, 3) := by decide +kernel
theorem dX11_counted_152 : decode cX11_counted 152 = .ok (.goto (-19), 3) := by decide +kernel
theorem dX11_counted_155 : decode cX11_counted 155 = .ok (.iload_n 2, 1) := by decide +kernel
theorem dX11_counted_156 : decode cX11_counted 156 = .ok (.ireturn, 1) := by decide +kernel
theorem dX11_counted_157 : decode cX11_counted 157 = .ok (.iconst 0, 1) := by decide +kernel
theorem dX11_counted_158 : decode cX11_counted 158 = .ok (.istore_n 3, 1) := by decide +kernel
theorem dX11_counted_159 : decode cX11_counted 159 = .ok (.iload_n 3, 1) := by decide +kernel
theorem dX11_counted_160 : decode cX11_counted 160 = .ok (.bipush 6, 2) := by decide +kernel
theorem dX11_counted_162 : decode cX11_counted 162 = .ok (.if_icmp .ge 26, 3) := by decide +kernel
theorem dX11_counted_165 : decode cX11_counted 165 = .ok (.iload_n 2, 1) := by decide +kernel
theorem dX11_counted_166 : decode cX11_counted 166 = .ok (.aload_n 0, 1) := by decide +kernel
theorem dX11_counted_167 : decode cX11_counted 167 = .ok (.getfield 17, 3) := by decide +kernel
theorem dX11_counted_170 : decode cX11_counted 170 = .ok (.iload_n 3, 1) := by decide +kernel
theorem dX11_counted_171 : decode cX11_counted 171 = .ok (.iaload, 1) := by decide +kernel
theorem dX11_counted_172 : decode cX11_counted 172 = .ok (.ifCond .lt 7, 3) := by decide +kernel
theorem dX11_counted_175 : decode cX11_counted 175 = .ok (.iconst 1, 1) := by decide +kernel
theorem dX11_counted_176 : decode cX11_counted 176 = .ok (.goto 4, 3) := by decide +kernel
theorem dX11_counted_179 : decode cX11_counted 179 = .ok (.iconst 0, 1) := by decide +kernel
theorem dX11_counted_180 : decode cX11_counted 180 = .ok (.iadd, 1) := by decide +kernel
theorem dX11_counted_181 : decode cX11_counted 181 = .ok (.istore_n 2, 1) := by decide +kernel
theorem dX11_counted_182 : decode cX11_counted 182 = .ok (.iinc 3 1, 3) := by decide +kernel
theorem dX11_counted_185 : decode cX11_counted 185 = .ok (.goto (-26), 3) := by decide +kernel
theorem dX11_counted_188 : decode cX11_counted 188 = .ok (.iload_n 2, 1) := by decide +kernel
theorem dX11_counted_189 : decode cX11_counted 189 = .ok (.ireturn, 1) := by decide +kernel
theorem dX11_counted_190 : decode cX11_counted 190 = .ok (.iconst 0, 1) := by decide +kernel
theorem dX11_counted_191 : decode cX11_counted 191 = .ok (.istore_n 3, 1) := by decide +kernel
theorem dX11_counted_192 : decode cX11_counted 192 = .ok (.iload_n 3, 1) := by decide +kernel
theorem dX11_counted_193 : decode cX11_counted 193 = .ok (.iconst 4, 1) := by decide +kernel
theorem dX11_counted_194 : decode cX11_counted 194 = .ok (.if_icmp .ge 26, 3) := by decide +kernel
theorem dX11_counted_197 : decode cX11_counted 197 = .ok (.iload_n 2, 1) := by decide +kernel
theorem dX11_counted_198 : decode cX11_counted 198 = .ok (.aload_n 0, 1) := by decide +kernel
theorem dX11_counted_199 : decode cX11_counted 199 = .ok (.getfield 26, 3) := by decide +kernel
theorem dX11_counted_202 : decode cX11_counted 202 = .ok (.iload_n 3, 1) := by decide +kernel
theorem dX11_counted_203 : decode cX11_counted 203 = .ok (.iaload, 1) := by decide +kernel
theorem dX11_counted_204 : decode cX11_counted 204 = .ok (.ifCond .lt 7, 3) := by decide +kernel
theorem dX11_counted_207 : decode cX11_counted 207 = .ok (.iconst 1, 1) := by decide +kernel
theorem dX11_counted_208 : decode cX11_counted 208 = .ok (.goto 4, 3) := by decide +kernel
theorem dX11_counted_211 : decode cX11_counted 211 = .ok (.iconst 0, 1) := by decide +kernel
theorem dX11_counted_212 : decode cX11_counted 212 = .ok (.iadd, 1) := by decide +kernel
theorem dX11_counted_213 : decode cX11_counted 213 = .ok (.istore_n 2, 1) := by decide +kernel
theorem dX11_counted_214 : decode cX11_counted 214 = .ok (.iinc 3 1, 3) := by decide +kernel
theorem dX11_counted_217 : decode cX11_counted 217 = .ok (.goto (-25), 3) := by decide +kernel
theorem dX11_counted_220 : decode cX11_counted 220 = .ok (.iload_n 2, 1) := by decide +kernel
theorem dX11_counted_221 : decode cX11_counted 221 = .ok (.ireturn, 1) := by decide +kernel
theorem dX11_counted_222 : decode cX11_counted 222 = .ok (.iconst 0, 1) := by decide +kernel
theorem dX11_counted_223 : decode cX11_counted 223 = .ok (.istore_n 3, 1) := by decide +kernel
theorem dX11_counted_224 : decode cX11_counted 224 = .ok (.iload_n 3, 1) := by decide +kernel
theorem dX11_counted_225 : decode cX11_counted 225 = .ok (.iconst 3, 1) := by decide +kernel
theorem dX11_counted_226 : decode cX11_counted 226 = .ok (.if_icmp .ge 26, 3) := by decide +kernel
theorem dX11_counted_229 : decode cX11_counted 229 = .ok (.iload_n 2, 1) := by decide +kernel
theorem dX11_counted_230 : decode cX11_counted 230 = .ok (.aload_n 0, 1) := by decide +kernel
theorem dX11_counted_231 : decode cX11_counted 231 = .ok (.getfield 57, 3) := by decide +kernel
theorem dX11_counted_234 : decode cX11_counted 234 = .ok (.iload_n 3, 1) := by decide +kernel
theorem dX11_counted_235 : decode cX11_counted 235 = .ok (.iaload, 1) := by decide +kernel
theorem dX11_counted_236 : decode cX11_counted 236 = .ok (.ifCond .lt 7, 3) := by decide +kernel
theorem dX11_counted_239 : decode cX11_counted 239 = .ok (.iconst 1, 1) := by decide +kernel
theorem dX11_counted_240 : decode cX11_counted 240 = .ok (.goto 4, 3) := by decide +kernel
theorem dX11_counted_243 : decode cX11_counted 243 = .ok (.iconst 0, 1) := by decide +kernel
theorem dX11_counted_244 : decode cX11_counted 244 = .ok (.iadd, 1) := by decide +kernel
theorem dX11_counted_245 : decode cX11_counted 245 = .ok (.istore_n 2, 1) := by decide +kernel
theorem dX11_counted_246 : decode cX11_counted 246 = .ok (.iinc 3 1, 3) := by decide +kernel
theorem dX11_counted_249 : decode cX11_counted 249 = .ok (.goto (-25), 3) := by decide +kernel
theorem dX11_counted_252 : decode cX11_counted 252 = .ok (.iload_n 2, 1) := by decide +kernel
theorem dX11_counted_253 : decode cX11_counted 253 = .ok (.ireturn, 1) := by decide +kernel
theorem dX11_counted_254 : decode cX11_counted 254 = .ok (.iconst 0, 1) := by decide +kernel
theorem dX11_counted_255 : decode cX11_counted 255 = .ok (.istore_n 3, 1) := by decide +kernel
theorem dX11_counted_256 : decode cX11_counted 256 = .ok (.iload_n 3, 1) := by decide +kernel
theorem dX11_counted_257 : decode cX11_counted 257 = .ok (.aload_n 0, 1) := by decide +kernel
theorem dX11_counted_258 : decode cX11_counted 258 = .ok (.getfield 126, 3) := by decide +kernel
theorem dX11_counted_261 : decode cX11_counted 261 = .ok (.if_icmp .ge 40, 3) := by decide +kernel
theorem dX11_counted_264 : decode cX11_counted 264 = .ok (.iload_n 2, 1) := by decide +kernel
theorem dX11_counted_265 : decode cX11_counted 265 = .ok (.aload_n 0, 1) := by decide +kernel
theorem dX11_counted_266 : decode cX11_counted 266 = .ok (.getfield 39, 3) := by decide +kernel
theorem dX11_counted_269 : decode cX11_counted 269 = .ok (.iload_n 3, 1) := by decide +kernel
theorem dX11_counted_270 : decode cX11_counted 270 = .ok (.iaload, 1) := by decide +kernel
theorem dX11_counted_271 : decode cX11_counted 271 = .ok (.iload_n 1, 1) := by decide +kernel
theorem dX11_counted_272 : decode cX11_counted 272 = .ok (.bipush 10, 2) := by decide +kernel
theorem dX11_counted_274 : decode cX11_counted 274 = .ok (.if_icmp .ne 7, 3) := by decide +kernel
theorem dX11_counted_277 : decode cX11_counted 277 = .ok (.iconst 1, 1) := by decide +kernel
theorem dX11_counted_278 : decode cX11_counted 278 = .ok (.goto 4, 3) := by decide +kernel
theorem dX11_counted_281 : decode cX11_counted 281 = .ok (.iconst 2, 1) := by decide +kernel
theorem dX11_counted_282 : decode cX11_counted 282 = .ok (.invokestatic 143, 3) := by decide +kernel
theorem dX11_counted_285 : decode cX11_counted 285 = .ok (.ifCond .eq 7, 3) := by decide +kernel
theorem dX11_counted_288 : decode cX11_counted 288 = .ok (.iconst 1, 1) := by decide +kernel
theorem dX11_counted_289 : decode cX11_counted 289 = .ok (.goto 4, 3) := by decide +kernel
theorem dX11_counted_292 : decode cX11_counted 292 = .ok (.iconst 0, 1) := by decide +kernel
theorem dX11_counted_293 : decode cX11_counted 293 = .ok (.iadd, 1) := by decide +kernel
theorem dX11_counted_294 : decode cX11_counted 294 = .ok (.istore_n 2, 1) := by decide +kernel
theorem dX11_counted_295 : decode cX11_counted 295 = .ok (.iinc 3 1, 3) := by decide +kernel
theorem dX11_counted_298 : decode cX11_counted 298 = .ok (.goto (-42), 3) := by decide +kernel
theorem dX11_counted_301 : decode cX11_counted 301 = .ok (.iload_n 2, 1) := by decide +kernel
theorem dX11_counted_302 : decode cX11_counted 302 = .ok (.ireturn, 1) := by decide +kernel
theorem dX11_count_0 : decode cX11_count 0 = .ok (.iload_n 1, 1) := by decide +kernel
theorem dX11_count_1 : decode cX11_count 1 = .ok (.iconst 0, 1) := by decide +kernel
theorem dX11_count_2 : decode cX11_count 2 = .ok (.bipush 11, 2) := by decide +kernel
theorem dX11_count_4 : decode cX11_count 4 = .ok (.invokestatic 76, 3) := by decide +kernel
theorem dX11_count_7 : decode cX11_count 7 = .ok (.ifCond .eq 11, 3) := by decide +kernel
theorem dX11_count_10 : decode cX11_count 10 = .ok (.aload_n 0, 1) := by decide +kernel
theorem dX11_count_11 : decode cX11_count 11 = .ok (.iload_n 1, 1) := by decide +kernel
theorem dX11_count_12 : decode cX11_count 12 = .ok (.invokevirtual 258, 3) := by decide +kernel
theorem dX11_count_15 : decode cX11_count 15 = .ok (.goto 4, 3) := by decide +kernel
theorem dX11_count_18 : decode cX11_count 18 = .ok (.iconst (-1), 1) := by decide +kernel
theorem dX11_count_19 : decode cX11_count 19 = .ok (.ireturn, 1) := by decide +kernel
theorem dX11_adds_0 : decode cX11_adds 0 = .ok (.aload_n 0, 1) := by decide +kernel
theorem dX11_adds_1 : decode cX11_adds 1 = .ok (.ldc2_w 261, 3) := by decide +kernel
theorem dX11_adds_4 : decode cX11_adds 4 = .ok (.aload_n 0, 1) := by decide +kernel
theorem dX11_adds_5 : decode cX11_adds 5 = .ok (.getfield 263, 3) := by decide +kernel
theorem dX11_adds_8 : decode cX11_adds 8 = .ok (.lmul, 1) := by decide +kernel
theorem dX11_adds_9 : decode cX11_adds 9 = .ok (.lload_n 1, 1) := by decide +kernel
theorem dX11_adds_10 : decode cX11_adds 10 = .ok (.ladd, 1) := by decide +kernel
theorem dX11_adds_11 : decode cX11_adds 11 = .ok (.putfield 263, 3) := by decide +kernel
theorem dX11_adds_14 : decode cX11_adds 14 = .ok (.return_, 1) := by decide +kernel
theorem dX11_digest_0 : decode cX11_digest 0 = .ok (.aload_n 0, 1) := by decide +kernel
theorem dX11_digest_1 : decode cX11_digest 1 = .ok (.ldc2_w 266, 3) := by decide +kernel
theorem dX11_digest_4 : decode cX11_digest 4 = .ok (.putfield 263, 3) := by decide +kernel
theorem dX11_digest_7 : decode cX11_digest 7 = .ok (.iconst 0, 1) := by decide +kernel
theorem dX11_digest_8 : decode cX11_digest 8 = .ok (.istore_n 1, 1) := by decide +kernel
theorem dX11_digest_9 : decode cX11_digest 9 = .ok (.iload_n 1, 1) := by decide +kernel
theorem dX11_digest_10 : decode cX11_digest 10 = .ok (.bipush 12, 2) := by decide +kernel
theorem dX11_digest_12 : decode cX11_digest 12 = .ok (.if_icmp .ge 19, 3) := by decide +kernel
theorem dX11_digest_15 : decode cX11_digest 15 = .ok (.aload_n 0, 1) := by decide +kernel
theorem dX11_digest_16 : decode cX11_digest 16 = .ok (.aload_n 0, 1) := by decide +kernel
theorem dX11_digest_17 : decode cX11_digest 17 = .ok (.iload_n 1, 1) := by decide +kernel
theorem dX11_digest_18 : decode cX11_digest 18 = .ok (.invokevirtual 258, 3) := by decide +kernel
theorem dX11_digest_21 : decode cX11_digest 21 = .ok (.i2l, 1) := by decide +kernel
theorem dX11_digest_22 : decode cX11_digest 22 = .ok (.invokevirtual 268, 3) := by decide +kernel
theorem dX11_digest_25 : decode cX11_digest 25 = .ok (.iinc 1 1, 3) := by decide +kernel
theorem dX11_digest_28 : decode cX11_digest 28 = .ok (.goto (-19), 3) := by decide +kernel
theorem dX11_digest_31 : decode cX11_digest 31 = .ok (.iconst 0, 1) := by decide +kernel
theorem dX11_digest_32 : decode cX11_digest 32 = .ok (.istore_n 1, 1) := by decide +kernel
theorem dX11_digest_33 : decode cX11_digest 33 = .ok (.iload_n 1, 1) := by decide +kernel
theorem dX11_digest_34 : decode cX11_digest 34 = .ok (.aload_n 0, 1) := by decide +kernel
theorem dX11_digest_35 : decode cX11_digest 35 = .ok (.getfield 126, 3) := by decide +kernel
theorem dX11_digest_38 : decode cX11_digest 38 = .ok (.if_icmp .ge 34, 3) := by decide +kernel
theorem dX11_digest_41 : decode cX11_digest 41 = .ok (.iconst 0, 1) := by decide +kernel
theorem dX11_digest_42 : decode cX11_digest 42 = .ok (.istore_n 2, 1) := by decide +kernel
theorem dX11_digest_43 : decode cX11_digest 43 = .ok (.iload_n 2, 1) := by decide +kernel
theorem dX11_digest_44 : decode cX11_digest 44 = .ok (.bipush 6, 2) := by decide +kernel
theorem dX11_digest_46 : decode cX11_digest 46 = .ok (.if_icmp .gt 20, 3) := by decide +kernel
theorem dX11_digest_49 : decode cX11_digest 49 = .ok (.aload_n 0, 1) := by decide +kernel
theorem dX11_digest_50 : decode cX11_digest 50 = .ok (.aload_n 0, 1) := by decide +kernel
theorem dX11_digest_51 : decode cX11_digest 51 = .ok (.iload_n 1, 1) := by decide +kernel
theorem dX11_digest_52 : decode cX11_digest 52 = .ok (.iload_n 2, 1) := by decide +kernel
theorem dX11_digest_53 : decode cX11_digest 53 = .ok (.invokevirtual 170, 3) := by decide +kernel
theorem dX11_digest_56 : decode cX11_digest 56 = .ok (.i2l, 1) := by decide +kernel
theorem dX11_digest_57 : decode cX11_digest 57 = .ok (.invokevirtual 268, 3) := by decide +kernel
theorem dX11_digest_60 : decode cX11_digest 60 = .ok (.iinc 2 1, 3) := by decide +kernel
theorem dX11_digest_63 : decode cX11_digest 63 = .ok (.goto (-20), 3) := by decide +kernel
theorem dX11_digest_66 : decode cX11_digest 66 = .ok (.iinc 1 1, 3) := by decide +kernel
theorem dX11_digest_69 : decode cX11_digest 69 = .ok (.goto (-36), 3) := by decide +kernel
theorem dX11_digest_72 : decode cX11_digest 72 = .ok (.iconst 0, 1) := by decide +kernel
theorem dX11_digest_73 : decode cX11_digest 73 = .ok (.istore_n 1, 1) := by decide +kernel
theorem dX11_digest_74 : decode cX11_digest 74 = .ok (.iload_n 1, 1) := by decide +kernel
theorem dX11_digest_75 : decode cX11_digest 75 = .ok (.iconst 5, 1) := by decide +kernel
theorem dX11_digest_76 : decode cX11_digest 76 = .ok (.if_icmp .ge 22, 3) := by decide +kernel
theorem dX11_digest_79 : decode cX11_digest 79 = .ok (.aload_n 0, 1) := by decide +kernel
theorem dX11_digest_80 : decode cX11_digest 80 = .ok (.aload_n 0, 1) := by decide +kernel
theorem dX11_digest_81 : decode cX11_digest 81 = .ok (.getfield 48, 3) := by decide +kernel
theorem dX11_digest_84 : decode cX11_digest 84 = .ok (.iconst 1, 1) := by decide +kernel
theorem dX11_digest_85 : decode cX11_digest 85 = .ok (.iload_n 1, 1) := by decide +kernel
theorem dX11_digest_86 : decode cX11_digest 86 = .ok (.iadd, 1) := by decide +kernel
theorem dX11_digest_87 : decode cX11_digest 87 = .ok (.iaload, 1) := by decide +kernel
theorem dX11_digest_88 : decode cX11_digest 88 = .ok (.i2l, 1) := by decide +kernel
theorem dX11_digest_89 : decode cX11_digest 89 = .ok (.invokevirtual 268, 3) := by decide +kernel
theorem dX11_digest_92 : decode cX11_digest 92 = .ok (.iinc 1 1, 3) := by decide +kernel
theorem dX11_digest_95 : decode cX11_digest 95 = .ok (.goto (-21), 3) := by decide +kernel
theorem dX11_digest_98 : decode cX11_digest 98 = .ok (.iconst 0, 1) := by decide +kernel
theorem dX11_digest_99 : decode cX11_digest 99 = .ok (.istore_n 1, 1) := by decide +kernel
theorem dX11_digest_100 : decode cX11_digest 100 = .ok (.iload_n 1, 1) := by decide +kernel
theorem dX11_digest_101 : decode cX11_digest 101 = .ok (.iconst 3, 1) := by decide +kernel
theorem dX11_digest_102 : decode cX11_digest 102 = .ok (.if_icmp .ge 20, 3) := by decide +kernel
theorem dX11_digest_105 : decode cX11_digest 105 = .ok (.aload_n 0, 1) := by decide +kernel
theorem dX11_digest_106 : decode cX11_digest 106 = .ok (.aload_n 0, 1) := by decide +kernel
theorem dX11_digest_107 : decode cX11_digest 107 = .ok (.getfield 57, 3) := by decide +kernel
theorem dX11_digest_110 : decode cX11_digest 110 = .ok (.iload_n 1, 1) := by decide +kernel
theorem dX11_digest_111 : decode cX11_digest 111 = .ok (.iaload, 1) := by decide +kernel
theorem dX11_digest_112 : decode cX11_digest 112 = .ok (.i2l, 1) := by decide +kernel
theorem dX11_digest_113 : decode cX11_digest 113 = .ok (.invokevirtual 268, 3) := by decide +kernel
theorem dX11_digest_116 : decode cX11_digest 116 = .ok (.iinc 1 1, 3) := by decide +kernel
theorem dX11_digest_119 : decode cX11_digest 119 = .ok (.goto (-19), 3) := by decide +kernel
theorem dX11_digest_122 : decode cX11_digest 122 = .ok (.iconst 0, 1) := by decide +kernel
theorem dX11_digest_123 : decode cX11_digest 123 = .ok (.istore_n 1, 1) := by decide +kernel
theorem dX11_digest_124 : decode cX11_digest 124 = .ok (.iload_n 1, 1) := by decide +kernel
theorem dX11_digest_125 : decode cX11_digest 125 = .ok (.bipush 6, 2) := by decide +kernel
theorem dX11_digest_127 : decode cX11_digest 127 = .ok (.if_icmp .ge 49, 3) := by decide +kernel
theorem dX11_digest_130 : decode cX11_digest 130 = .ok (.aload_n 0, 1) := by decide +kernel
theorem dX11_digest_131 : decode cX11_digest 131 = .ok (.aload_n 0, 1) := by decide +kernel
theorem dX11_digest_132 : decode cX11_digest 132 = .ok (.getfield 17, 3) := by decide +kernel
theorem dX11_digest_135 : decode cX11_digest 135 = .ok (.iload_n 1, 1) := by decide +kernel
theorem dX11_digest_136 : decode cX11_digest 136 = .ok (.iaload, 1) := by decide +kernel
theorem dX11_digest_137 : decode cX11_digest 137 = .ok (.i2l, 1) := by decide +kernel
theorem dX11_digest_138 : decode cX11_digest 138 = .ok (.invokevirtual 268, 3) := by decide +kernel
theorem dX11_digest_141 : decode cX11_digest 141 = .ok (.iconst 0, 1) := by decide +kernel
theorem dX11_digest_142 : decode cX11_digest 142 = .ok (.istore_n 2, 1) := by decide +kernel
theorem dX11_digest_143 : decode cX11_digest 143 = .ok (.iload_n 2, 1) := by decide +kernel
theorem dX11_digest_144 : decode cX11_digest 144 = .ok (.aload_n 0, 1) := by decide +kernel
theorem dX11_digest_145 : decode cX11_digest 145 = .ok (.getfield 17, 3) := by decide +kernel
theorem dX11_digest_148 : decode cX11_digest 148 = .ok (.iload_n 1, 1) := by decide +kernel
theorem dX11_digest_149 : decode cX11_digest 149 = .ok (.iaload, 1) := by decide +kernel
theorem dX11_digest_150 : decode cX11_digest 150 = .ok (.if_icmp .ge 20, 3) := by decide +kernel
theorem dX11_digest_153 : decode cX11_digest 153 = .ok (.aload_n 0, 1) := by decide +kernel
theorem dX11_digest_154 : decode cX11_digest 154 = .ok (.aload_n 0, 1) := by decide +kernel
theorem dX11_digest_155 : decode cX11_digest 155 = .ok (.iload_n 1, 1) := by decide +kernel
theorem dX11_digest_156 : decode cX11_digest 156 = .ok (.iload_n 2, 1) := by decide +kernel
theorem dX11_digest_157 : decode cX11_digest 157 = .ok (.invokevirtual 88, 3) := by decide +kernel
theorem dX11_digest_160 : decode cX11_digest 160 = .ok (.i2l, 1) := by decide +kernel
theorem dX11_digest_161 : decode cX11_digest 161 = .ok (.invokevirtual 268, 3) := by decide +kernel
theorem dX11_digest_164 : decode cX11_digest 164 = .ok (.iinc 2 1, 3) := by decide +kernel
theorem dX11_digest_167 : decode cX11_digest 167 = .ok (.goto (-24), 3) := by decide +kernel
theorem dX11_digest_170 : decode cX11_digest 170 = .ok (.iinc 1 1, 3) := by decide +kernel
theorem dX11_digest_173 : decode cX11_digest 173 = .ok (.goto (-49), 3) := by decide +kernel
theorem dX11_digest_176 : decode cX11_digest 176 = .ok (.iconst 0, 1) := by decide +kernel
theorem dX11_digest_177 : decode cX11_digest 177 = .ok (.istore_n 1, 1) := by decide +kernel
theorem dX11_digest_178 : decode cX11_digest 178 = .ok (.iload_n 1, 1) := by decide +kernel
theorem dX11_digest_179 : decode cX11_digest 179 = .ok (.iconst 4, 1) := by decide +kernel
theorem dX11_digest_180 : decode cX11_digest 180 = .ok (.if_icmp .ge 54, 3) := by decide +kernel
theorem dX11_digest_183 : decode cX11_digest 183 = .ok (.aload_n 0, 1) := by decide +kernel
theorem dX11_digest_184 : decode cX11_digest 184 = .ok (.aload_n 0, 1) := by decide +kernel
theorem dX11_digest_185 : decode cX11_digest 185 = .ok (.getfield 26, 3) := by decide +kernel
theorem dX11_digest_188 : decode cX11_digest 188 = .ok (.iload_n 1, 1) := by decide +kernel
theorem dX11_digest_189 : decode cX11_digest 189 = .ok (.iaload, 1) := by decide +kernel
theorem dX11_digest_190 : decode cX11_digest 190 = .ok (.i2l, 1) := by decide +kernel
theorem dX11_digest_191 : decode cX11_digest 191 = .ok (.invokevirtual 268, 3) := by decide +kernel
theorem dX11_digest_194 : decode cX11_digest 194 = .ok (.iconst 0, 1) := by decide +kernel
theorem dX11_digest_195 : decode cX11_digest 195 = .ok (.istore_n 2, 1) := by decide +kernel
theorem dX11_digest_196 : decode cX11_digest 196 = .ok (.iload_n 2, 1) := by decide +kernel
theorem dX11_digest_197 : decode cX11_digest 197 = .ok (.aload_n 0, 1) := by decide +kernel
theorem dX11_digest_198 : decode cX11_digest 198 = .ok (.getfield 26, 3) := by decide +kernel
theorem dX11_digest_201 : decode cX11_digest 201 = .ok (.iload_n 1, 1) := by decide +kernel
theorem dX11_digest_202 : decode cX11_digest 202 = .ok (.iaload, 1) := by decide +kernel
theorem dX11_digest_203 : decode cX11_digest 203 = .ok (.if_icmp .ge 25, 3) := by decide +kernel
theorem dX11_digest_206 : decode cX11_digest 206 = .ok (.aload_n 0, 1) := by decide +kernel
theorem dX11_digest_207 : decode cX11_digest 207 = .ok (.aload_n 0, 1) := by decide +kernel
theorem dX11_digest_208 : decode cX11_digest 208 = .ok (.getfield 29, 3) := by decide +kernel
theorem dX11_digest_211 : decode cX11_digest 211 = .ok (.bipush 60, 2) := by decide +kernel
theorem dX11_digest_213 : decode cX11_digest 213 = .ok (.iload_n 1, 1) := by decide +kernel
theorem dX11_digest_214 : decode cX11_digest 214 = .ok (.imul, 1) := by decide +kernel
theorem dX11_digest_215 : decode cX11_digest 215 = .ok (.iload_n 2, 1) := by decide +kernel
theorem dX11_digest_216 : decode cX11_digest 216 = .ok (.iadd, 1) := by decide +kernel
theorem dX11_digest_217 : decode cX11_digest 217 = .ok (.baload, 1) := by decide +kernel
theorem dX11_digest_218 : decode cX11_digest 218 = .ok (.i2l, 1) := by decide +kernel
theorem dX11_digest_219 : decode cX11_digest 219 = .ok (.invokevirtual 268, 3) := by decide +kernel
theorem dX11_digest_222 : decode cX11_digest 222 = .ok (.iinc 2 1, 3) := by decide +kernel
theorem dX11_digest_225 : decode cX11_digest 225 = .ok (.goto (-29), 3) := by decide +kernel
theorem dX11_digest_228 : decode cX11_digest 228 = .ok (.iinc 1 1, 3) := by decide +kernel
theorem dX11_digest_231 : decode cX11_digest 231 = .ok (.goto (-53), 3) := by decide +kernel
theorem dX11_digest_234 : decode cX11_digest 234 = .ok (.aload_n 0, 1) := by decide +kernel
theorem dX11_digest_235 : decode cX11_digest 235 = .ok (.getfield 263, 3) := by decide +kernel
theorem dX11_digest_238 : decode cX11_digest 238 = .ok (.lreturn, 1) := by decide +kernel
end
section
theorem dL_law_0 : decode cL_law 0 = .ok (.new 7, 3) := by decide +kernel
theorem dL_law_3 : decode cL_law 3 = .ok (.dup, 1) := by decide +kernel
theorem dL_law_4 : decode cL_law 4 = .ok (.invokespecial 9, 3) := by decide +kernel
theorem dL_law_7 : decode cL_law 7 = .ok (.astore_n 1, 1) := by decide +kernel
theorem dL_law_8 : decode cL_law 8 = .ok (.new 10, 3) := by decide +kernel
theorem dL_law_11 : decode cL_law 11 = .ok (.dup, 1) := by decide +kernel
theorem dL_law_12 : decode cL_law 12 = .ok (.invokespecial 12, 3) := by decide +kernel
theorem dL_law_15 : decode cL_law 15 = .ok (.astore_n 2, 1) := by decide +kernel
theorem dL_law_16 : decode cL_law 16 = .ok (.iconst 0, 1) := by decide +kernel
theorem dL_law_17 : decode cL_law 17 = .ok (.istore_n 3, 1) := by decide +kernel
theorem dL_law_18 : decode cL_law 18 = .ok (.iload_n 3, 1) := by decide +kernel
theorem dL_law_19 : decode cL_law 19 = .ok (.aload_n 0, 1) := by decide +kernel
theorem dL_law_20 : decode cL_law 20 = .ok (.arraylength, 1) := by decide +kernel
theorem dL_law_21 : decode cL_law 21 = .ok (.bipush 6, 2) := by decide +kernel
theorem dL_law_23 : decode cL_law 23 = .ok (.isub, 1) := by decide +kernel
theorem dL_law_24 : decode cL_law 24 = .ok (.if_icmp .gt 1263, 3) := by decide +kernel
theorem dL_law_27 : decode cL_law 27 = .ok (.aload_n 0, 1) := by decide +kernel
theorem dL_law_28 : decode cL_law 28 = .ok (.iload_n 3, 1) := by decide +kernel
theorem dL_law_29 : decode cL_law 29 = .ok (.iaload, 1) := by decide +kernel
theorem dL_law_30 : decode cL_law 30 = .ok (.bipush 63, 2) := by decide +kernel
theorem dL_law_32 : decode cL_law 32 = .ok (.iand, 1) := by decide +kernel
theorem dL_law_33 : decode cL_law 33 = .ok (.tableswitch 1248 0 39 #[175, 208, 251, 284, 307, 370, 393, 426, 469, 492, 515, 548, 571, 604, 617, 650, 673, 706, 729, 752, 775, 788, 821, 834, 857, 880, 903, 936, 969, 1002, 1025, 1068, 1101, 1134, 1147, 1161, 1175, 1198, 1211, 1234], 175) := by decide +kernel
theorem dL_law_208 : decode cL_law 208 = .ok (.aload_n 1, 1) := by decide +kernel
theorem dL_law_209 : decode cL_law 209 = .ok (.aload_n 0, 1) := by decide +kernel
theorem dL_law_210 : decode cL_law 210 = .ok (.iload_n 3, 1) := by decide +kernel
theorem dL_law_211 : decode cL_law 211 = .ok (.iconst 1, 1) := by decide +kernel
theorem dL_law_212 : decode cL_law 212 = .ok (.iadd, 1) := by decide +kernel
theorem dL_law_213 : decode cL_law 213 = .ok (.iaload, 1) := by decide +kernel
theorem dL_law_214 : decode cL_law 214 = .ok (.aload_n 0, 1) := by decide +kernel
theorem dL_law_215 : decode cL_law 215 = .ok (.iload_n 3, 1) := by decide +kernel
theorem dL_law_216 : decode cL_law 216 = .ok (.iconst 2, 1) := by decide +kernel
theorem dL_law_217 : decode cL_law 217 = .ok (.iadd, 1) := by decide +kernel
theorem dL_law_218 : decode cL_law 218 = .ok (.iaload, 1) := by decide +kernel
theorem dL_law_219 : decode cL_law 219 = .ok (.invokevirtual 13, 3) := by decide +kernel
theorem dL_law_222 : decode cL_law 222 = .ok (.aload_n 2, 1) := by decide +kernel
theorem dL_law_223 : decode cL_law 223 = .ok (.aload_n 0, 1) := by decide +kernel
theorem dL_law_224 : decode cL_law 224 = .ok (.iload_n 3, 1) := by decide +kernel
theorem dL_law_225 : decode cL_law 225 = .ok (.iconst 1, 1) := by decide +kernel
theorem dL_law_226 : decode cL_law 226 = .ok (.iadd, 1) := by decide +kernel
theorem dL_law_227 : decode cL_law 227 = .ok (.iaload, 1) := by decide +kernel
theorem dL_law_228 : decode cL_law 228 = .ok (.aload_n 0, 1) := by decide +kernel
theorem dL_law_229 : decode cL_law 229 = .ok (.iload_n 3, 1) := by decide +kernel
theorem dL_law_230 : decode cL_law 230 = .ok (.iconst 2, 1) := by decide +kernel
theorem dL_law_231 : decode cL_law 231 = .ok (.iadd, 1) := by decide +kernel
theorem dL_law_232 : decode cL_law 232 = .ok (.iaload, 1) := by decide +kernel
theorem dL_law_233 : decode cL_law 233 = .ok (.invokevirtual 17, 3) := by decide +kernel
theorem dL_law_236 : decode cL_law 236 = .ok (.if_icmp .eq 1045, 3) := by decide +kernel
theorem dL_law_239 : decode cL_law 239 = .ok (.iconst 0, 1) := by decide +kernel
theorem dL_law_240 : decode cL_law 240 = .ok (.ireturn, 1) := by decide +kernel
theorem dL_law_241 : decode cL_law 241 = .ok (.aload_n 1, 1) := by decide +kernel
theorem dL_law_242 : decode cL_law 242 = .ok (.aload_n 0, 1) := by decide +kernel
theorem dL_law_243 : decode cL_law 243 = .ok (.iload_n 3, 1) := by decide +kernel
theorem dL_law_244 : decode cL_law 244 = .ok (.iconst 1, 1) := by decide +kernel
theorem dL_law_245 : decode cL_law 245 = .ok (.iadd, 1) := by decide +kernel
theorem dL_law_246 : decode cL_law 246 = .ok (.iaload, 1) := by decide +kernel
theorem dL_law_247 : decode cL_law 247 = .ok (.aload_n 0, 1) := by decide +kernel
theorem dL_law_248 : decode cL_law 248 = .ok (.iload_n 3, 1) := by decide +kernel
theorem dL_law_249 : decode cL_law 249 = .ok (.iconst 2, 1) := by decide +kernel
theorem dL_law_250 : decode cL_law 250 = .ok (.iadd, 1) := by decide +kernel
theorem dL_law_251 : decode cL_law 251 = .ok (.iaload, 1) := by decide +kernel
theorem dL_law_252 : decode cL_law 252 = .ok (.aload_n 0, 1) := by decide +kernel
theorem dL_law_253 : decode cL_law 253 = .ok (.iload_n 3, 1) := by decide +kernel
theorem dL_law_254 : decode cL_law 254 = .ok (.iconst 3, 1) := by decide +kernel
theorem dL_law_255 : decode cL_law 255 = .ok (.iadd, 1) := by decide +kernel
theorem dL_law_256 : decode cL_law 256 = .ok (.iaload, 1) := by decide +kernel
theorem dL_law_257 : decode cL_law 257 = .ok (.invokevirtual 18, 3) := by decide +kernel
theorem dL_law_260 : decode cL_law 260 = .ok (.aload_n 2, 1) := by decide +kernel
theorem dL_law_261 : decode cL_law 261 = .ok (.aload_n 0, 1) := by decide +kernel
theorem dL_law_262 : decode cL_law 262 = .ok (.iload_n 3, 1) := by decide +kernel
theorem dL_law_263 : decode cL_law 263 = .ok (.iconst 1, 1) := by decide +kernel
theorem dL_law_264 : decode cL_law 264 = .ok (.iadd, 1) := by decide +kernel
theorem dL_law_265 : decode cL_law 265 = .ok (.iaload, 1) := by decide +kernel
theorem dL_law_266 : decode cL_law 266 = .ok (.aload_n 0, 1) := by decide +kernel
theorem dL_law_267 : decode cL_law 267 = .ok (.iload_n 3, 1) := by decide +kernel
theorem dL_law_268 : decode cL_law 268 = .ok (.iconst 2, 1) := by decide +kernel
theorem dL_law_269 : decode cL_law 269 = .ok (.iadd, 1) := by decide +kernel
theorem dL_law_270 : decode cL_law 270 = .ok (.iaload, 1) := by decide +kernel
theorem dL_law_271 : decode cL_law 271 = .ok (.aload_n 0, 1) := by decide +kernel
theorem dL_law_272 : decode cL_law 272 = .ok (.iload_n 3, 1) := by decide +kernel
theorem dL_law_273 : decode cL_law 273 = .ok (.iconst 3, 1) := by decide +kernel
theorem dL_law_274 : decode cL_law 274 = .ok (.iadd, 1) := by decide +kernel
theorem dL_law_275 : decode cL_law 275 = .ok (.iaload, 1) := by decide +kernel
theorem dL_law_276 : decode cL_law 276 = .ok (.invokevirtual 22, 3) := by decide +kernel
theorem dL_law_279 : decode cL_law 279 = .ok (.if_icmp .eq 1002, 3) := by decide +kernel
theorem dL_law_282 : decode cL_law 282 = .ok (.iconst 0, 1) := by decide +kernel
theorem dL_law_283 : decode cL_law 283 = .ok (.ireturn, 1) := by decide +kernel
theorem dL_law_284 : decode cL_law 284 = .ok (.aload_n 1, 1) := by decide +kernel
theorem dL_law_285 : decode cL_law 285 = .ok (.aload_n 0, 1) := by decide +kernel
theorem dL_law_286 : decode cL_law 286 = .ok (.iload_n 3, 1) := by decide +kernel
theorem dL_law_287 : decode cL_law 287 = .ok (.iconst 1, 1) := by decide +kernel
theorem dL_law_288 : decode cL_law 288 = .ok (.iadd, 1) := by decide +kernel
theorem dL_law_289 : decode cL_law 289 = .ok (.iaload, 1) := by decide +kernel
theorem dL_law_290 : decode cL_law 290 = .ok (.aload_n 0, 1) := by decide +kernel
theorem dL_law_291 : decode cL_law 291 = .ok (.iload_n 3, 1) := by decide +kernel
theorem dL_law_292 : decode cL_law 292 = .ok (.iconst 2, 1) := by decide +kernel
theorem dL_law_293 : decode cL_law 293 = .ok (.iadd, 1) := by decide +kernel
theorem dL_law_294 : decode cL_law 294 = .ok (.iaload, 1) := by decide +kernel
theorem dL_law_295 : decode cL_law 295 = .ok (.invokevirtual 23, 3) := by decide +kernel
theorem dL_law_298 : decode cL_law 298 = .ok (.aload_n 2, 1) := by decide +kernel
theorem dL_law_299 : decode cL_law 299 = .ok (.aload_n 0, 1) := by decide +kernel
theorem dL_law_300 : decode cL_law 300 = .ok (.iload_n 3, 1) := by decide +kernel
theorem dL_law_301 : decode cL_law 301 = .ok (.iconst 1, 1) := by decide +kernel
theorem dL_law_302 : decode cL_law 302 = .ok (.iadd, 1) := by decide +kernel
theorem dL_law_303 : decode cL_law 303 = .ok (.iaload, 1) := by decide +kernel
theorem dL_law_304 : decode cL_law 304 = .ok (.aload_n 0, 1) := by decide +kernel
theorem dL_law_305 : decode cL_law 305 = .ok (.iload_n 3, 1) := by decide +kernel
theorem dL_law_306 : decode cL_law 306 = .ok (.iconst 2, 1) := by decide +kernel
theorem dL_law_307 : decode cL_law 307 = .ok (.iadd, 1) := by decide +kernel
theorem dL_law_308 : decode cL_law 308 = .ok (.iaload, 1) := by decide +kernel
theorem dL_law_309 : decode cL_law 309 = .ok (.invokevirtual 26, 3) := by decide +kernel
theorem dL_law_312 : decode cL_law 312 = .ok (.if_icmp .eq 969, 3) := by decide +kernel
theorem dL_law_315 : decode cL_law 315 = .ok (.iconst 0, 1) := by decide +kernel
theorem dL_law_316 : decode cL_law 316 = .ok (.ireturn, 1) := by decide +kernel
theorem dL_law_317 : decode cL_law 317 = .ok (.aload_n 1, 1) := by decide +kernel
theorem dL_law_318 : decode cL_law 318 = .ok (.aload_n 0, 1) := by decide +kernel
theorem dL_law_319 : decode cL_law 319 = .ok (.iload_n 3, 1) := by decide +kernel
theorem dL_law_320 : decode cL_law 320 = .ok (.iconst 1, 1) := by decide +kernel
theorem dL_law_321 : decode cL_law 321 = .ok (.iadd, 1) := by decide +kernel
theorem dL_law_322 : decode cL_law 322 = .ok (.iaload, 1) := by decide +kernel
theorem dL_law_323 : decode cL_law 323 = .ok (.invokevirtual 27, 3) := by decide +kernel
theorem dL_law_326 : decode cL_law 326 = .ok (.aload_n 2, 1) := by decide +kernel
theorem dL_law_327 : decode cL_law 327 = .ok (.aload_n 0, 1) := by decide +kernel
theorem dL_law_328 : decode cL_law 328 = .ok (.iload_n 3, 1) := by decide +kernel
theorem dL_law_329 : decode cL_law 329 = .ok (.iconst 1, 1) := by decide +kernel
theorem dL_law_330 : decode cL_law 330 = .ok (.iadd, 1) := by decide +kernel
theorem dL_law_331 : decode cL_law 331 = .ok (.iaload, 1) := by decide +kernel
theorem dL_law_332 : decode cL_law 332 = .ok (.invokevirtual 31, 3) := by decide +kernel
theorem dL_law_335 : decode cL_law 335 = .ok (.if_icmp .eq 946, 3) := by decide +kernel
theorem dL_law_338 : decode cL_law 338 = .ok (.iconst 0, 1) := by decide +kernel
theorem dL_law_339 : decode cL_law 339 = .ok (.ireturn, 1) := by decide +kernel
theorem dL_law_340 : decode cL_law 340 = .ok (.aload_n 1, 1) := by decide +kernel
theorem dL_law_341 : decode cL_law 341 = .ok (.aload_n 0, 1) := by decide +kernel
theorem dL_law_342 : decode cL_law 342 = .ok (.iload_n 3, 1) := by decide +kernel
theorem dL_law_343 : decode cL_law 343 = .ok (.iconst 1, 1) := by decide +kernel
theorem dL_law_344 : decode cL_law 344 = .ok (.iadd, 1) := by decide +kernel
theorem dL_law_345 : decode cL_law 345 = .ok (.iaload, 1) := by decide +kernel
theorem dL_law_346 : decode cL_law 346 = .ok (.aload_n 0, 1) := by decide +kernel
theorem dL_law_347 : decode cL_law 347 = .ok (.iload_n 3, 1) := by decide +kernel
theorem dL_law_348 : decode cL_law 348 = .ok (.iconst 2, 1) := by decide +kernel
theorem dL_law_349 : decode cL_law 349 = .ok (.iadd, 1) := by decide +kernel
theorem dL_law_350 : decode cL_law 350 = .ok (.iaload, 1) := by decide +kernel
theorem dL_law_351 : decode cL_law 351 = .ok (.aload_n 0, 1) := by decide +kernel
theorem dL_law_352 : decode cL_law 352 = .ok (.iload_n 3, 1) := by decide +kernel
theorem dL_law_353 : decode cL_law 353 = .ok (.iconst 3, 1) := by decide +kernel
theorem dL_law_354 : decode cL_law 354 = .ok (.iadd, 1) := by decide +kernel
theorem dL_law_355 : decode cL_law 355 = .ok (.iaload, 1) := by decide +kernel
theorem dL_law_356 : decode cL_law 356 = .ok (.aload_n 0, 1) := by decide +kernel
theorem dL_law_357 : decode cL_law 357 = .ok (.iload_n 3, 1) := by decide +kernel
theorem dL_law_358 : decode cL_law 358 = .ok (.iconst 4, 1) := by decide +kernel
theorem dL_law_359 : decode cL_law 359 = .ok (.iadd, 1) := by decide +kernel
theorem dL_law_360 : decode cL_law 360 = .ok (.iaload, 1) := by decide +kernel
theorem dL_law_361 : decode cL_law 361 = .ok (.aload_n 0, 1) := by decide +kernel
theorem dL_law_362 : decode cL_law 362 = .ok (.iload_n 3, 1) := by decide +kernel
theorem dL_law_363 : decode cL_law 363 = .ok (.iconst 5, 1) := by decide +kernel
theorem dL_law_364 : decode cL_law 364 = .ok (.iadd, 1) := by decide +kernel
theorem dL_law_365 : decode cL_law 365 = .ok (.iaload, 1) := by decide +kernel
theorem dL_law_366 : decode cL_law 366 = .ok (.invokevirtual 32, 3) := by decide +kernel
theorem dL_law_369 : decode cL_law 369 = .ok (.aload_n 2, 1) := by decide +kernel
theorem dL_law_370 : decode cL_law 370 = .ok (.aload_n 0, 1) := by decide +kernel
theorem dL_law_371 : decode cL_law 371 = .ok (.iload_n 3, 1) := by decide +kernel
theorem dL_law_372 : decode cL_law 372 = .ok (.iconst 1, 1) := by decide +kernel
theorem dL_law_373 : decode cL_law 373 = .ok (.iadd, 1) := by decide +kernel
theorem dL_law_374 : decode cL_law 374 = .ok (.iaload, 1) := by decide +kernel
theorem dL_law_375 : decode cL_law 375 = .ok (.aload_n 0, 1) := by decide +kernel
theorem dL_law_376 : decode cL_law 376 = .ok (.iload_n 3, 1) := by decide +kernel
theorem dL_law_377 : decode cL_law 377 = .ok (.iconst 2, 1) := by decide +kernel
theorem dL_law_378 : decode cL_law 378 = .ok (.iadd, 1) := by decide +kernel
theorem dL_law_379 : decode cL_law 379 = .ok (.iaload, 1) := by decide +kernel
theorem dL_law_380 : decode cL_law 380 = .ok (.aload_n 0, 1) := by decide +kernel
theorem dL_law_381 : decode cL_law 381 = .ok (.iload_n 3, 1) := by decide +kernel
theorem dL_law_382 : decode cL_law 382 = .ok (.iconst 3, 1) := by decide +kernel
theorem dL_law_383 : decode cL_law 383 = .ok (.iadd, 1) := by decide +kernel
theorem dL_law_384 : decode cL_law 384 = .ok (.iaload, 1) := by decide +kernel
theorem dL_law_385 : decode cL_law 385 = .ok (.aload_n 0, 1) := by decide +kernel
theorem dL_law_386 : decode cL_law 386 = .ok (.iload_n 3, 1) := by decide +kernel
theorem dL_law_387 : decode cL_law 387 = .ok (.iconst 4, 1) := by decide +kernel
theorem dL_law_388 : decode cL_law 388 = .ok (.iadd, 1) := by decide +kernel
theorem dL_law_389 : decode cL_law 389 = .ok (.iaload, 1) := by decide +kernel
theorem dL_law_390 : decode cL_law 390 = .ok (.aload_n 0, 1) := by decide +kernel
theorem dL_law_391 : decode cL_law 391 = .ok (.iload_n 3, 1) := by decide +kernel
theorem dL_law_392 : decode cL_law 392 = .ok (.iconst 5, 1) := by decide +kernel
theorem dL_law_393 : decode cL_law 393 = .ok (.iadd, 1) := by decide +kernel
theorem dL_law_394 : decode cL_law 394 = .ok (.iaload, 1) := by decide +kernel
theorem dL_law_395 : decode cL_law 395 = .ok (.invokevirtual 36, 3) := by decide +kernel
theorem dL_law_398 : decode cL_law 398 = .ok (.if_icmp .eq 883, 3) := by decide +kernel
theorem dL_law_401 : decode cL_law 401 = .ok (.iconst 0, 1) := by decide +kernel
theorem dL_law_402 : decode cL_law 402 = .ok (.ireturn, 1) := by decide +kernel
theorem dL_law_403 : decode cL_law 403 = .ok (.aload_n 1, 1) := by decide +kernel
theorem dL_law_404 : decode cL_law 404 = .ok (.aload_n 0, 1) := by decide +kernel
theorem dL_law_405 : decode cL_law 405 = .ok (.iload_n 3, 1) := by decide +kernel
theorem dL_law_406 : decode cL_law 406 = .ok (.iconst 1, 1) := by decide +kernel
theorem dL_law_407 : decode cL_law 407 = .ok (.iadd, 1) := by decide +kernel
theorem dL_law_408 : decode cL_law 408 = .ok (.iaload, 1) := by decide +kernel
theorem dL_law_409 : decode cL_law 409 = .ok (.invokevirtual 37, 3) := by decide +kernel
theorem dL_law_412 : decode cL_law 412 = .ok (.aload_n 2, 1) := by decide +kernel
theorem dL_law_413 : decode cL_law 413 = .ok (.aload_n 0, 1) := by decide +kernel
theorem dL_law_414 : decode cL_law 414 = .ok (.iload_n 3, 1) := by decide +kernel
theorem dL_law_415 : decode cL_law 415 = .ok (.iconst 1, 1) := by decide +kernel
theorem dL_law_416 : decode cL_law 416 = .ok (.iadd, 1) := by decide +kernel
theorem dL_law_417 : decode cL_law 417 = .ok (.iaload, 1) := by decide +kernel
theorem dL_law_418 : decode cL_law 418 = .ok (.invokevirtual 40, 3) := by decide +kernel
theorem dL_law_421 : decode cL_law 421 = .ok (.if_icmp .eq 860, 3) := by decide +kernel
theorem dL_law_424 : decode cL_law 424 = .ok (.iconst 0, 1) := by decide +kernel
theorem dL_law_425 : decode cL_law 425 = .ok (.ireturn, 1) := by decide +kernel
theorem dL_law_426 : decode cL_law 426 = .ok (.aload_n 1, 1) := by decide +kernel
theorem dL_law_427 : decode cL_law 427 = .ok (.aload_n 0, 1) := by decide +kernel
theorem dL_law_428 : decode cL_law 428 = .ok (.iload_n 3, 1) := by decide +kernel
theorem dL_law_429 : decode cL_law 429 = .ok (.iconst 1, 1) := by decide +kernel
theorem dL_law_430 : decode cL_law 430 = .ok (.iadd, 1) := by decide +kernel
theorem dL_law_431 : decode cL_law 431 = .ok (.iaload, 1) := by decide +kernel
theorem dL_law_432 : decode cL_law 432 = .ok (.aload_n 0, 1) := by decide +kernel
theorem dL_law_433 : decode cL_law 433 = .ok (.iload_n 3, 1) := by decide +kernel
theorem dL_law_434 : decode cL_law 434 = .ok (.iconst 2, 1) := by decide +kernel
theorem dL_law_435 : decode cL_law 435 = .ok (.iadd, 1) := by decide +kernel
theorem dL_law_436 : decode cL_law 436 = .ok (.iaload, 1) := by decide +kernel
theorem dL_law_437 : decode cL_law 437 = .ok (.invokevirtual 41, 3) := by decide +kernel
theorem dL_law_440 : decode cL_law 440 = .ok (.aload_n 2, 1) := by decide +kernel
theorem dL_law_441 : decode cL_law 441 = .ok (.aload_n 0, 1) := by decide +kernel
theorem dL_law_442 : decode cL_law 442 = .ok (.iload_n 3, 1) := by decide +kernel
theorem dL_law_443 : decode cL_law 443 = .ok (.iconst 1, 1) := by decide +kernel
theorem dL_law_444 : decode cL_law 444 = .ok (.iadd, 1) := by decide +kernel
theorem dL_law_445 : decode cL_law 445 = .ok (.iaload, 1) := by decide +kernel
theorem dL_law_446 : decode cL_law 446 = .ok (.aload_n 0, 1) := by decide +kernel
theorem dL_law_447 : decode cL_law 447 = .ok (.iload_n 3, 1) := by decide +kernel
theorem dL_law_448 : decode cL_law 448 = .ok (.iconst 2, 1) := by decide +kernel
theorem dL_law_449 : decode cL_law 449 = .ok (.iadd, 1) := by decide +kernel
theorem dL_law_450 : decode cL_law 450 = .ok (.iaload, 1) := by decide +kernel
theorem dL_law_451 : decode cL_law 451 = .ok (.invokevirtual 44, 3) := by decide +kernel
theorem dL_law_454 : decode cL_law 454 = .ok (.if_icmp .eq 827, 3) := by decide +kernel
theorem dL_law_457 : decode cL_law 457 = .ok (.iconst 0, 1) := by decide +kernel
theorem dL_law_458 : decode cL_law 458 = .ok (.ireturn, 1) := by decide +kernel
theorem dL_law_459 : decode cL_law 459 = .ok (.aload_n 1, 1) := by decide +kernel
theorem dL_law_460 : decode cL_law 460 = .ok (.aload_n 0, 1) := by decide +kernel
theorem dL_law_461 : decode cL_law 461 = .ok (.iload_n 3, 1) := by decide +kernel
theorem dL_law_462 : decode cL_law 462 = .ok (.iconst 1, 1) := by decide +kernel
theorem dL_law_463 : decode cL_law 463 = .ok (.iadd, 1) := by decide +kernel
theorem dL_law_464 : decode cL_law 464 = .ok (.iaload, 1) := by decide +kernel
theorem dL_law_465 : decode cL_law 465 = .ok (.aload_n 0, 1) := by decide +kernel
theorem dL_law_466 : decode cL_law 466 = .ok (.iload_n 3, 1) := by decide +kernel
theorem dL_law_467 : decode cL_law 467 = .ok (.iconst 2, 1) := by decide +kernel
theorem dL_law_468 : decode cL_law 468 = .ok (.iadd, 1) := by decide +kernel
theorem dL_law_469 : decode cL_law 469 = .ok (.iaload, 1) := by decide +kernel
theorem dL_law_470 : decode cL_law 470 = .ok (.aload_n 0, 1) := by decide +kernel
theorem dL_law_471 : decode cL_law 471 = .ok (.iload_n 3, 1) := by decide +kernel
theorem dL_law_472 : decode cL_law 472 = .ok (.iconst 3, 1) := by decide +kernel
theorem dL_law_473 : decode cL_law 473 = .ok (.iadd, 1) := by decide +kernel
theorem dL_law_474 : decode cL_law 474 = .ok (.iaload, 1) := by decide +kernel
theorem dL_law_475 : decode cL_law 475 = .ok (.invokevirtual 45, 3) := by decide +kernel
theorem dL_law_478 : decode cL_law 478 = .ok (.aload_n 2, 1) := by decide +kernel
theorem dL_law_479 : decode cL_law 479 = .ok (.aload_n 0, 1) := by decide +kernel
theorem dL_law_480 : decode cL_law 480 = .ok (.iload_n 3, 1) := by decide +kernel
theorem dL_law_481 : decode cL_law 481 = .ok (.iconst 1, 1) := by decide +kernel
theorem dL_law_482 : decode cL_law 482 = .ok (.iadd, 1) := by decide +kernel
theorem dL_law_483 : decode cL_law 483 = .ok (.iaload, 1) := by decide +kernel
theorem dL_law_484 : decode cL_law 484 = .ok (.aload_n 0, 1) := by decide +kernel
theorem dL_law_485 : decode cL_law 485 = .ok (.iload_n 3, 1) := by decide +kernel
theorem dL_law_486 : decode cL_law 486 = .ok (.iconst 2, 1) := by decide +kernel
theorem dL_law_487 : decode cL_law 487 = .ok (.iadd, 1) := by decide +kernel
theorem dL_law_488 : decode cL_law 488 = .ok (.iaload, 1) := by decide +kernel
theorem dL_law_489 : decode cL_law 489 = .ok (.aload_n 0, 1) := by decide +kernel
theorem dL_law_490 : decode cL_law 490 = .ok (.iload_n 3, 1) := by decide +kernel
theorem dL_law_491 : decode cL_law 491 = .ok (.iconst 3, 1) := by decide +kernel
theorem dL_law_492 : decode cL_law 492 = .ok (.iadd, 1) := by decide +kernel
theorem dL_law_493 : decode cL_law 493 = .ok (.iaload, 1) := by decide +kernel
theorem dL_law_494 : decode cL_law 494 = .ok (.invokevirtual 48, 3) := by decide +kernel
theorem dL_law_497 : decode cL_law 497 = .ok (.if_icmp .eq 784, 3) := by decide +kernel
theorem dL_law_500 : decode cL_law 500 = .ok (.iconst 0, 1) := by decide +kernel
theorem dL_law_501 : decode cL_law 501 = .ok (.ireturn, 1) := by decide +kernel
theorem dL_law_502 : decode cL_law 502 = .ok (.aload_n 1, 1) := by decide +kernel
theorem dL_law_503 : decode cL_law 503 = .ok (.aload_n 0, 1) := by decide +kernel
theorem dL_law_504 : decode cL_law 504 = .ok (.iload_n 3, 1) := by decide +kernel
theorem dL_law_505 : decode cL_law 505 = .ok (.iconst 1, 1) := by decide +kernel
theorem dL_law_506 : decode cL_law 506 = .ok (.iadd, 1) := by decide +kernel
theorem dL_law_507 : decode cL_law 507 = .ok (.iaload, 1) := by decide +kernel
theorem dL_law_508 : decode cL_law 508 = .ok (.invokevirtual 49, 3) := by decide +kernel
theorem dL_law_511 : decode cL_law 511 = .ok (.aload_n 2, 1) := by decide +kernel
theorem dL_law_512 : decode cL_law 512 = .ok (.aload_n 0, 1) := by decide +kernel
theorem dL_law_513 : decode cL_law 513 = .ok (.iload_n 3, 1) := by decide +kernel
theorem dL_law_514 : decode cL_law 514 = .ok (.iconst 1, 1) := by decide +kernel
theorem dL_law_515 : decode cL_law 515 = .ok (.iadd, 1) := by decide +kernel
theorem dL_law_516 : decode cL_law 516 = .ok (.iaload, 1) := by decide +kernel
theorem dL_law_517 : decode cL_law 517 = .ok (.invokevirtual 52, 3) := by decide +kernel
theorem dL_law_520 : decode cL_law 520 = .ok (.if_icmp .eq 761, 3) := by decide +kernel
theorem dL_law_523 : decode cL_law 523 = .ok (.iconst 0, 1) := by decide +kernel
theorem dL_law_524 : decode cL_law 524 = .ok (.ireturn, 1) := by decide +kernel
theorem dL_law_525 : decode cL_law 525 = .ok (.aload_n 1, 1) := by decide +kernel
theorem dL_law_526 : decode cL_law 526 = .ok (.aload_n 0, 1) := by decide +kernel
theorem dL_law_527 : decode cL_law 527 = .ok (.iload_n 3, 1) := by decide +kernel
theorem dL_law_528 : decode cL_law 528 = .ok (.iconst 1, 1) := by decide +kernel
theorem dL_law_529 : decode cL_law 529 = .ok (.iadd, 1) := by decide +kernel
theorem dL_law_530 : decode cL_law 530 = .ok (.iaload, 1) := by decide +kernel
theorem dL_law_531 : decode cL_law 531 = .ok (.invokevirtual 53, 3) := by decide +kernel
theorem dL_law_534 : decode cL_law 534 = .ok (.aload_n 2, 1) := by decide +kernel
theorem dL_law_535 : decode cL_law 535 = .ok (.aload_n 0, 1) := by decide +kernel
theorem dL_law_536 : decode cL_law 536 = .ok (.iload_n 3, 1) := by decide +kernel
theorem dL_law_537 : decode cL_law 537 = .ok (.iconst 1, 1) := by decide +kernel
theorem dL_law_538 : decode cL_law 538 = .ok (.iadd, 1) := by decide +kernel
theorem dL_law_539 : decode cL_law 539 = .ok (.iaload, 1) := by decide +kernel
theorem dL_law_540 : decode cL_law 540 = .ok (.invokevirtual 56, 3) := by decide +kernel
theorem dL_law_543 : decode cL_law 543 = .ok (.if_icmp .eq 738, 3) := by decide +kernel
theorem dL_law_546 : decode cL_law 546 = .ok (.iconst 0, 1) := by decide +kernel
theorem dL_law_547 : decode cL_law 547 = .ok (.ireturn, 1) := by decide +kernel
theorem dL_law_548 : decode cL_law 548 = .ok (.aload_n 1, 1) := by decide +kernel
theorem dL_law_549 : decode cL_law 549 = .ok (.aload_n 0, 1) := by decide +kernel
theorem dL_law_550 : decode cL_law 550 = .ok (.iload_n 3, 1) := by decide +kernel
theorem dL_law_551 : decode cL_law 551 = .ok (.iconst 1, 1) := by decide +kernel
theorem dL_law_552 : decode cL_law 552 = .ok (.iadd, 1) := by decide +kernel
theorem dL_law_553 : decode cL_law 553 = .ok (.iaload, 1) := by decide +kernel
theorem dL_law_554 : decode cL_law 554 = .ok (.aload_n 0, 1) := by decide +kernel
theorem dL_law_555 : decode cL_law 555 = .ok (.iload_n 3, 1) := by decide +kernel
theorem dL_law_556 : decode cL_law 556 = .ok (.iconst 2, 1) := by decide +kernel
theorem dL_law_557 : decode cL_law 557 = .ok (.iadd, 1) := by decide +kernel
theorem dL_law_558 : decode cL_law 558 = .ok (.iaload, 1) := by decide +kernel
theorem dL_law_559 : decode cL_law 559 = .ok (.invokevirtual 57, 3) := by decide +kernel
theorem dL_law_562 : decode cL_law 562 = .ok (.aload_n 2, 1) := by decide +kernel
theorem dL_law_563 : decode cL_law 563 = .ok (.aload_n 0, 1) := by decide +kernel
theorem dL_law_564 : decode cL_law 564 = .ok (.iload_n 3, 1) := by decide +kernel
theorem dL_law_565 : decode cL_law 565 = .ok (.iconst 1, 1) := by decide +kernel
theorem dL_law_566 : decode cL_law 566 = .ok (.iadd, 1) := by decide +kernel
theorem dL_law_567 : decode cL_law 567 = .ok (.iaload, 1) := by decide +kernel
theorem dL_law_568 : decode cL_law 568 = .ok (.aload_n 0, 1) := by decide +kernel
theorem dL_law_569 : decode cL_law 569 = .ok (.iload_n 3, 1) := by decide +kernel
theorem dL_law_570 : decode cL_law 570 = .ok (.iconst 2, 1) := by decide +kernel
theorem dL_law_571 : decode cL_law 571 = .ok (.iadd, 1) := by decide +kernel
theorem dL_law_572 : decode cL_law 572 = .ok (.iaload, 1) := by decide +kernel
theorem dL_law_573 : decode cL_law 573 = .ok (.invokevirtual 60, 3) := by decide +kernel
theorem dL_law_576 : decode cL_law 576 = .ok (.if_icmp .eq 705, 3) := by decide +kernel
theorem dL_law_579 : decode cL_law 579 = .ok (.iconst 0, 1) := by decide +kernel
theorem dL_law_580 : decode cL_law 580 = .ok (.ireturn, 1) := by decide +kernel
theorem dL_law_581 : decode cL_law 581 = .ok (.aload_n 1, 1) := by decide +kernel
theorem dL_law_582 : decode cL_law 582 = .ok (.aload_n 0, 1) := by decide +kernel
theorem dL_law_583 : decode cL_law 583 = .ok (.iload_n 3, 1) := by decide +kernel
theorem dL_law_584 : decode cL_law 584 = .ok (.iconst 1, 1) := by decide +kernel
theorem dL_law_585 : decode cL_law 585 = .ok (.iadd, 1) := by decide +kernel
theorem dL_law_586 : decode cL_law 586 = .ok (.iaload, 1) := by decide +kernel
theorem dL_law_587 : decode cL_law 587 = .ok (.invokevirtual 61, 3) := by decide +kernel
theorem dL_law_590 : decode cL_law 590 = .ok (.aload_n 2, 1) := by decide +kernel
theorem dL_law_591 : decode cL_law 591 = .ok (.aload_n 0, 1) := by decide +kernel
theorem dL_law_592 : decode cL_law 592 = .ok (.iload_n 3, 1) := by decide +kernel
theorem dL_law_593 : decode cL_law 593 = .ok (.iconst 1, 1) := by decide +kernel
theorem dL_law_594 : decode cL_law 594 = .ok (.iadd, 1) := by decide +kernel
theorem dL_law_595 : decode cL_law 595 = .ok (.iaload, 1) := by decide +kernel
theorem dL_law_596 : decode cL_law 596 = .ok (.invokevirtual 64, 3) := by decide +kernel
theorem dL_law_599 : decode cL_law 599 = .ok (.if_icmp .eq 682, 3) := by decide +kernel
theorem dL_law_602 : decode cL_law 602 = .ok (.iconst 0, 1) := by decide +kernel
theorem dL_law_603 : decode cL_law 603 = .ok (.ireturn, 1) := by decide +kernel
theorem dL_law_604 : decode cL_law 604 = .ok (.aload_n 1, 1) := by decide +kernel
theorem dL_law_605 : decode cL_law 605 = .ok (.aload_n 0, 1) := by decide +kernel
theorem dL_law_606 : decode cL_law 606 = .ok (.iload_n 3, 1) := by decide +kernel
theorem dL_law_607 : decode cL_law 607 = .ok (.iconst 1, 1) := by decide +kernel
theorem dL_law_608 : decode cL_law 608 = .ok (.iadd, 1) := by decide +kernel
theorem dL_law_609 : decode cL_law 609 = .ok (.iaload, 1) := by decide +kernel
theorem dL_law_610 : decode cL_law 610 = .ok (.aload_n 0, 1) := by decide +kernel
theorem dL_law_611 : decode cL_law 611 = .ok (.iload_n 3, 1) := by decide +kernel
theorem dL_law_612 : decode cL_law 612 = .ok (.iconst 2, 1) := by decide +kernel
theorem dL_law_613 : decode cL_law 613 = .ok (.iadd, 1) := by decide +kernel
theorem dL_law_614 : decode cL_law 614 = .ok (.iaload, 1) := by decide +kernel
theorem dL_law_615 : decode cL_law 615 = .ok (.invokevirtual 65, 3) := by decide +kernel
theorem dL_law_618 : decode cL_law 618 = .ok (.aload_n 2, 1) := by decide +kernel
theorem dL_law_619 : decode cL_law 619 = .ok (.aload_n 0, 1) := by decide +kernel
theorem dL_law_620 : decode cL_law 620 = .ok (.iload_n 3, 1) := by decide +kernel
theorem dL_law_621 : decode cL_law 621 = .ok (.iconst 1, 1) := by decide +kernel
theorem dL_law_622 : decode cL_law 622 = .ok (.iadd, 1) := by decide +kernel
theorem dL_law_623 : decode cL_law 623 = .ok (.iaload, 1) := by decide +kernel
theorem dL_law_624 : decode cL_law 624 = .ok (.aload_n 0, 1) := by decide +kernel
theorem dL_law_625 : decode cL_law 625 = .ok (.iload_n 3, 1) := by decide +kernel
theorem dL_law_626 : decode cL_law 626 = .ok (.iconst 2, 1) := by decide +kernel
theorem dL_law_627 : decode cL_law 627 = .ok (.iadd, 1) := by decide +kernel
theorem dL_law_628 : decode cL_law 628 = .ok (.iaload, 1) := by decide +kernel
theorem dL_law_629 : decode cL_law 629 = .ok (.invokevirtual 68, 3) := by decide +kernel
theorem dL_law_632 : decode cL_law 632 = .ok (.if_icmp .eq 649, 3) := by decide +kernel
theorem dL_law_635 : decode cL_law 635 = .ok (.iconst 0, 1) := by decide +kernel
theorem dL_law_636 : decode cL_law 636 = .ok (.ireturn, 1) := by decide +kernel
theorem dL_law_637 : decode cL_law 637 = .ok (.aload_n 1, 1) := by decide +kernel
theorem dL_law_638 : decode cL_law 638 = .ok (.invokevirtual 69, 3) := by decide +kernel
theorem dL_law_641 : decode cL_law 641 = .ok (.aload_n 2, 1) := by decide +kernel
theorem dL_law_642 : decode cL_law 642 = .ok (.invokevirtual 73, 3) := by decide +kernel
theorem dL_law_645 : decode cL_law 645 = .ok (.if_icmp .eq 636, 3) := by decide +kernel
theorem dL_law_648 : decode cL_law 648 = .ok (.iconst 0, 1) := by decide +kernel
theorem dL_law_649 : decode cL_law 649 = .ok (.ireturn, 1) := by decide +kernel
theorem dL_law_650 : decode cL_law 650 = .ok (.aload_n 1, 1) := by decide +kernel
theorem dL_law_651 : decode cL_law 651 = .ok (.aload_n 0, 1) := by decide +kernel
theorem dL_law_652 : decode cL_law 652 = .ok (.iload_n 3, 1) := by decide +kernel
theorem dL_law_653 : decode cL_law 653 = .ok (.iconst 1, 1) := by decide +kernel
theorem dL_law_654 : decode cL_law 654 = .ok (.iadd, 1) := by decide +kernel
theorem dL_law_655 : decode cL_law 655 = .ok (.iaload, 1) := by decide +kernel
theorem dL_law_656 : decode cL_law 656 = .ok (.aload_n 0, 1) := by decide +kernel
theorem dL_law_657 : decode cL_law 657 = .ok (.iload_n 3, 1) := by decide +kernel
theorem dL_law_658 : decode cL_law 658 = .ok (.iconst 2, 1) := by decide +kernel
theorem dL_law_659 : decode cL_law 659 = .ok (.iadd, 1) := by decide +kernel
theorem dL_law_660 : decode cL_law 660 = .ok (.iaload, 1) := by decide +kernel
theorem dL_law_661 : decode cL_law 661 = .ok (.invokevirtual 74, 3) := by decide +kernel
theorem dL_law_664 : decode cL_law 664 = .ok (.aload_n 2, 1) := by decide +kernel
theorem dL_law_665 : decode cL_law 665 = .ok (.aload_n 0, 1) := by decide +kernel
theorem dL_law_666 : decode cL_law 666 = .ok (.iload_n 3, 1) := by decide +kernel
theorem dL_law_667 : decode cL_law 667 = .ok (.iconst 1, 1) := by decide +kernel
theorem dL_law_668 : decode cL_law 668 = .ok (.iadd, 1) := by decide +kernel
theorem dL_law_669 : decode cL_law 669 = .ok (.iaload, 1) := by decide +kernel
theorem dL_law_670 : decode cL_law 670 = .ok (.aload_n 0, 1) := by decide +kernel
theorem dL_law_671 : decode cL_law 671 = .ok (.iload_n 3, 1) := by decide +kernel
theorem dL_law_672 : decode cL_law 672 = .ok (.iconst 2, 1) := by decide +kernel
theorem dL_law_673 : decode cL_law 673 = .ok (.iadd, 1) := by decide +kernel
theorem dL_law_674 : decode cL_law 674 = .ok (.iaload, 1) := by decide +kernel
theorem dL_law_675 : decode cL_law 675 = .ok (.invokevirtual 77, 3) := by decide +kernel
theorem dL_law_678 : decode cL_law 678 = .ok (.if_icmp .eq 603, 3) := by decide +kernel
theorem dL_law_681 : decode cL_law 681 = .ok (.iconst 0, 1) := by decide +kernel
theorem dL_law_682 : decode cL_law 682 = .ok (.ireturn, 1) := by decide +kernel
theorem dL_law_683 : decode cL_law 683 = .ok (.aload_n 1, 1) := by decide +kernel
theorem dL_law_684 : decode cL_law 684 = .ok (.aload_n 0, 1) := by decide +kernel
theorem dL_law_685 : decode cL_law 685 = .ok (.iload_n 3, 1) := by decide +kernel
theorem dL_law_686 : decode cL_law 686 = .ok (.iconst 1, 1) := by decide +kernel
theorem dL_law_687 : decode cL_law 687 = .ok (.iadd, 1) := by decide +kernel
theorem dL_law_688 : decode cL_law 688 = .ok (.iaload, 1) := by decide +kernel
theorem dL_law_689 : decode cL_law 689 = .ok (.invokevirtual 78, 3) := by decide +kernel
theorem dL_law_692 : decode cL_law 692 = .ok (.aload_n 2, 1) := by decide +kernel
theorem dL_law_693 : decode cL_law 693 = .ok (.aload_n 0, 1) := by decide +kernel
theorem dL_law_694 : decode cL_law 694 = .ok (.iload_n 3, 1) := by decide +kernel
theorem dL_law_695 : decode cL_law 695 = .ok (.iconst 1, 1) := by decide +kernel
theorem dL_law_696 : decode cL_law 696 = .ok (.iadd, 1) := by decide +kernel
theorem dL_law_697 : decode cL_law 697 = .ok (.iaload, 1) := by decide +kernel
theorem dL_law_698 : decode cL_law 698 = .ok (.invokevirtual 81, 3) := by decide +kernel
theorem dL_law_701 : decode cL_law 701 = .ok (.if_icmp .eq 580, 3) := by decide +kernel
theorem dL_law_704 : decode cL_law 704 = .ok (.iconst 0, 1) := by decide +kernel
theorem dL_law_705 : decode cL_law 705 = .ok (.ireturn, 1) := by decide +kernel
theorem dL_law_706 : decode cL_law 706 = .ok (.aload_n 1, 1) := by decide +kernel
theorem dL_law_707 : decode cL_law 707 = .ok (.aload_n 0, 1) := by decide +kernel
theorem dL_law_708 : decode cL_law 708 = .ok (.iload_n 3, 1) := by decide +kernel
theorem dL_law_709 : decode cL_law 709 = .ok (.iconst 1, 1) := by decide +kernel
theorem dL_law_710 : decode cL_law 710 = .ok (.iadd, 1) := by decide +kernel
theorem dL_law_711 : decode cL_law 711 = .ok (.iaload, 1) := by decide +kernel
theorem dL_law_712 : decode cL_law 712 = .ok (.aload_n 0, 1) := by decide +kernel
theorem dL_law_713 : decode cL_law 713 = .ok (.iload_n 3, 1) := by decide +kernel
theorem dL_law_714 : decode cL_law 714 = .ok (.iconst 2, 1) := by decide +kernel
theorem dL_law_715 : decode cL_law 715 = .ok (.iadd, 1) := by decide +kernel
theorem dL_law_716 : decode cL_law 716 = .ok (.iaload, 1) := by decide +kernel
theorem dL_law_717 : decode cL_law 717 = .ok (.invokevirtual 82, 3) := by decide +kernel
theorem dL_law_720 : decode cL_law 720 = .ok (.aload_n 2, 1) := by decide +kernel
theorem dL_law_721 : decode cL_law 721 = .ok (.aload_n 0, 1) := by decide +kernel
theorem dL_law_722 : decode cL_law 722 = .ok (.iload_n 3, 1) := by decide +kernel
theorem dL_law_723 : decode cL_law 723 = .ok (.iconst 1, 1) := by decide +kernel
theorem dL_law_724 : decode cL_law 724 = .ok (.iadd, 1) := by decide +kernel
theorem dL_law_725 : decode cL_law 725 = .ok (.iaload, 1) := by decide +kernel
theorem dL_law_726 : decode cL_law 726 = .ok (.aload_n 0, 1) := by decide +kernel
theorem dL_law_727 : decode cL_law 727 = .ok (.iload_n 3, 1) := by decide +kernel
theorem dL_law_728 : decode cL_law 728 = .ok (.iconst 2, 1) := by decide +kernel
theorem dL_law_729 : decode cL_law 729 = .ok (.iadd, 1) := by decide +kernel
theorem dL_law_730 : decode cL_law 730 = .ok (.iaload, 1) := by decide +kernel
theorem dL_law_731 : decode cL_law 731 = .ok (.invokevirtual 85, 3) := by decide +kernel
theorem dL_law_734 : decode cL_law 734 = .ok (.if_icmp .eq 547, 3) := by decide +kernel
theorem dL_law_737 : decode cL_law 737 = .ok (.iconst 0, 1) := by decide +kernel
theorem dL_law_738 : decode cL_law 738 = .ok (.ireturn, 1) := by decide +kernel
theorem dL_law_739 : decode cL_law 739 = .ok (.aload_n 1, 1) := by decide +kernel
theorem dL_law_740 : decode cL_law 740 = .ok (.aload_n 0, 1) := by decide +kernel
theorem dL_law_741 : decode cL_law 741 = .ok (.iload_n 3, 1) := by decide +kernel
theorem dL_law_742 : decode cL_law 742 = .ok (.iconst 1, 1) := by decide +kernel
theorem dL_law_743 : decode cL_law 743 = .ok (.iadd, 1) := by decide +kernel
theorem dL_law_744 : decode cL_law 744 = .ok (.iaload, 1) := by decide +kernel
theorem dL_law_745 : decode cL_law 745 = .ok (.invokevirtual 86, 3) := by decide +kernel
theorem dL_law_748 : decode cL_law 748 = .ok (.aload_n 2, 1) := by decide +kernel
theorem dL_law_749 : decode cL_law 749 = .ok (.aload_n 0, 1) := by decide +kernel
theorem dL_law_750 : decode cL_law 750 = .ok (.iload_n 3, 1) := by decide +kernel
theorem dL_law_751 : decode cL_law 751 = .ok (.iconst 1, 1) := by decide +kernel
theorem dL_law_752 : decode cL_law 752 = .ok (.iadd, 1) := by decide +kernel
theorem dL_law_753 : decode cL_law 753 = .ok (.iaload, 1) := by decide +kernel
theorem dL_law_754 : decode cL_law 754 = .ok (.invokevirtual 89, 3) := by decide +kernel
theorem dL_law_757 : decode cL_law 757 = .ok (.if_icmp .eq 524, 3) := by decide +kernel
theorem dL_law_760 : decode cL_law 760 = .ok (.iconst 0, 1) := by decide +kernel
theorem dL_law_761 : decode cL_law 761 = .ok (.ireturn, 1) := by decide +kernel
theorem dL_law_762 : decode cL_law 762 = .ok (.aload_n 1, 1) := by decide +kernel
theorem dL_law_763 : decode cL_law 763 = .ok (.aload_n 0, 1) := by decide +kernel
theorem dL_law_764 : decode cL_law 764 = .ok (.iload_n 3, 1) := by decide +kernel
theorem dL_law_765 : decode cL_law 765 = .ok (.iconst 1, 1) := by decide +kernel
theorem dL_law_766 : decode cL_law 766 = .ok (.iadd, 1) := by decide +kernel
theorem dL_law_767 : decode cL_law 767 = .ok (.iaload, 1) := by decide +kernel
theorem dL_law_768 : decode cL_law 768 = .ok (.invokevirtual 90, 3) := by decide +kernel
theorem dL_law_771 : decode cL_law 771 = .ok (.aload_n 2, 1) := by decide +kernel
theorem dL_law_772 : decode cL_law 772 = .ok (.aload_n 0, 1) := by decide +kernel
theorem dL_law_773 : decode cL_law 773 = .ok (.iload_n 3, 1) := by decide +kernel
theorem dL_law_774 : decode cL_law 774 = .ok (.iconst 1, 1) := by decide +kernel
theorem dL_law_775 : decode cL_law 775 = .ok (.iadd, 1) := by decide +kernel
theorem dL_law_776 : decode cL_law 776 = .ok (.iaload, 1) := by decide +kernel
theorem dL_law_777 : decode cL_law 777 = .ok (.invokevirtual 93, 3) := by decide +kernel
theorem dL_law_780 : decode cL_law 780 = .ok (.if_icmp .eq 501, 3) := by decide +kernel
theorem dL_law_783 : decode cL_law 783 = .ok (.iconst 0, 1) := by decide +kernel
theorem dL_law_784 : decode cL_law 784 = .ok (.ireturn, 1) := by decide +kernel
theorem dL_law_785 : decode cL_law 785 = .ok (.aload_n 1, 1) := by decide +kernel
theorem dL_law_786 : decode cL_law 786 = .ok (.aload_n 0, 1) := by decide +kernel
theorem dL_law_787 : decode cL_law 787 = .ok (.iload_n 3, 1) := by decide +kernel
theorem dL_law_788 : decode cL_law 788 = .ok (.iconst 1, 1) := by decide +kernel
theorem dL_law_789 : decode cL_law 789 = .ok (.iadd, 1) := by decide +kernel
theorem dL_law_790 : decode cL_law 790 = .ok (.iaload, 1) := by decide +kernel
theorem dL_law_791 : decode cL_law 791 = .ok (.invokevirtual 94, 3) := by decide +kernel
theorem dL_law_794 : decode cL_law 794 = .ok (.aload_n 2, 1) := by decide +kernel
theorem dL_law_795 : decode cL_law 795 = .ok (.aload_n 0, 1) := by decide +kernel
theorem dL_law_796 : decode cL_law 796 = .ok (.iload_n 3, 1) := by decide +kernel
theorem dL_law_797 : decode cL_law 797 = .ok (.iconst 1, 1) := by decide +kernel
theorem dL_law_798 : decode cL_law 798 = .ok (.iadd, 1) := by decide +kernel
theorem dL_law_799 : decode cL_law 799 = .ok (.iaload, 1) := by decide +kernel
theorem dL_law_800 : decode cL_law 800 = .ok (.invokevirtual 97, 3) := by decide +kernel
theorem dL_law_803 : decode cL_law 803 = .ok (.if_icmp .eq 478, 3) := by decide +kernel
theorem dL_law_806 : decode cL_law 806 = .ok (.iconst 0, 1) := by decide +kernel
theorem dL_law_807 : decode cL_law 807 = .ok (.ireturn, 1) := by decide +kernel
theorem dL_law_808 : decode cL_law 808 = .ok (.aload_n 1, 1) := by decide +kernel
theorem dL_law_809 : decode cL_law 809 = .ok (.invokevirtual 98, 3) := by decide +kernel
theorem dL_law_812 : decode cL_law 812 = .ok (.aload_n 2, 1) := by decide +kernel
theorem dL_law_813 : decode cL_law 813 = .ok (.invokevirtual 101, 3) := by decide +kernel
theorem dL_law_816 : decode cL_law 816 = .ok (.if_icmp .eq 465, 3) := by decide +kernel
theorem dL_law_819 : decode cL_law 819 = .ok (.iconst 0, 1) := by decide +kernel
theorem dL_law_820 : decode cL_law 820 = .ok (.ireturn, 1) := by decide +kernel
theorem dL_law_821 : decode cL_law 821 = .ok (.aload_n 1, 1) := by decide +kernel
theorem dL_law_822 : decode cL_law 822 = .ok (.aload_n 0, 1) := by decide +kernel
theorem dL_law_823 : decode cL_law 823 = .ok (.iload_n 3, 1) := by decide +kernel
theorem dL_law_824 : decode cL_law 824 = .ok (.iconst 1, 1) := by decide +kernel
theorem dL_law_825 : decode cL_law 825 = .ok (.iadd, 1) := by decide +kernel
theorem dL_law_826 : decode cL_law 826 = .ok (.iaload, 1) := by decide +kernel
theorem dL_law_827 : decode cL_law 827 = .ok (.aload_n 0, 1) := by decide +kernel
theorem dL_law_828 : decode cL_law 828 = .ok (.iload_n 3, 1) := by decide +kernel
theorem dL_law_829 : decode cL_law 829 = .ok (.iconst 2, 1) := by decide +kernel
theorem dL_law_830 : decode cL_law 830 = .ok (.iadd, 1) := by decide +kernel
theorem dL_law_831 : decode cL_law 831 = .ok (.iaload, 1) := by decide +kernel
theorem dL_law_832 : decode cL_law 832 = .ok (.invokevirtual 102, 3) := by decide +kernel
theorem dL_law_835 : decode cL_law 835 = .ok (.aload_n 2, 1) := by decide +kernel
theorem dL_law_836 : decode cL_law 836 = .ok (.aload_n 0, 1) := by decide +kernel
theorem dL_law_837 : decode cL_law 837 = .ok (.iload_n 3, 1) := by decide +kernel
theorem dL_law_838 : decode cL_law 838 = .ok (.iconst 1, 1) := by decide +kernel
theorem dL_law_839 : decode cL_law 839 = .ok (.iadd, 1) := by decide +kernel
theorem dL_law_840 : decode cL_law 840 = .ok (.iaload, 1) := by decide +kernel
theorem dL_law_841 : decode cL_law 841 = .ok (.aload_n 0, 1) := by decide +kernel
theorem dL_law_842 : decode cL_law 842 = .ok (.iload_n 3, 1) := by decide +kernel
theorem dL_law_843 : decode cL_law 843 = .ok (.iconst 2, 1) := by decide +kernel
theorem dL_law_844 : decode cL_law 844 = .ok (.iadd, 1) := by decide +kernel
theorem dL_law_845 : decode cL_law 845 = .ok (.iaload, 1) := by decide +kernel
theorem dL_law_846 : decode cL_law 846 = .ok (.invokevirtual 105, 3) := by decide +kernel
theorem dL_law_849 : decode cL_law 849 = .ok (.if_icmp .eq 432, 3) := by decide +kernel
theorem dL_law_852 : decode cL_law 852 = .ok (.iconst 0, 1) := by decide +kernel
theorem dL_law_853 : decode cL_law 853 = .ok (.ireturn, 1) := by decide +kernel
theorem dL_law_854 : decode cL_law 854 = .ok (.aload_n 1, 1) := by decide +kernel
theorem dL_law_855 : decode cL_law 855 = .ok (.invokevirtual 106, 3) := by decide +kernel
theorem dL_law_858 : decode cL_law 858 = .ok (.aload_n 2, 1) := by decide +kernel
theorem dL_law_859 : decode cL_law 859 = .ok (.invokevirtual 109, 3) := by decide +kernel
theorem dL_law_862 : decode cL_law 862 = .ok (.if_icmp .eq 419, 3) := by decide +kernel
theorem dL_law_865 : decode cL_law 865 = .ok (.iconst 0, 1) := by decide +kernel
theorem dL_law_866 : decode cL_law 866 = .ok (.ireturn, 1) := by decide +kernel
theorem dL_law_867 : decode cL_law 867 = .ok (.aload_n 1, 1) := by decide +kernel
theorem dL_law_868 : decode cL_law 868 = .ok (.aload_n 0, 1) := by decide +kernel
theorem dL_law_869 : decode cL_law 869 = .ok (.iload_n 3, 1) := by decide +kernel
theorem dL_law_870 : decode cL_law 870 = .ok (.iconst 1, 1) := by decide +kernel
theorem dL_law_871 : decode cL_law 871 = .ok (.iadd, 1) := by decide +kernel
theorem dL_law_872 : decode cL_law 872 = .ok (.iaload, 1) := by decide +kernel
theorem dL_law_873 : decode cL_law 873 = .ok (.invokevirtual 110, 3) := by decide +kernel
theorem dL_law_876 : decode cL_law 876 = .ok (.aload_n 2, 1) := by decide +kernel
theorem dL_law_877 : decode cL_law 877 = .ok (.aload_n 0, 1) := by decide +kernel
theorem dL_law_878 : decode cL_law 878 = .ok (.iload_n 3, 1) := by decide +kernel
theorem dL_law_879 : decode cL_law 879 = .ok (.iconst 1, 1) := by decide +kernel
theorem dL_law_880 : decode cL_law 880 = .ok (.iadd, 1) := by decide +kernel
theorem dL_law_881 : decode cL_law 881 = .ok (.iaload, 1) := by decide +kernel
theorem dL_law_882 : decode cL_law 882 = .ok (.invokevirtual 113, 3) := by decide +kernel
theorem dL_law_885 : decode cL_law 885 = .ok (.if_icmp .eq 396, 3) := by decide +kernel
theorem dL_law_888 : decode cL_law 888 = .ok (.iconst 0, 1) := by decide +kernel
theorem dL_law_889 : decode cL_law 889 = .ok (.ireturn, 1) := by decide +kernel
theorem dL_law_890 : decode cL_law 890 = .ok (.aload_n 1, 1) := by decide +kernel
theorem dL_law_891 : decode cL_law 891 = .ok (.aload_n 0, 1) := by decide +kernel
theorem dL_law_892 : decode cL_law 892 = .ok (.iload_n 3, 1) := by decide +kernel
theorem dL_law_893 : decode cL_law 893 = .ok (.iconst 1, 1) := by decide +kernel
theorem dL_law_894 : decode cL_law 894 = .ok (.iadd, 1) := by decide +kernel
theorem dL_law_895 : decode cL_law 895 = .ok (.iaload, 1) := by decide +kernel
theorem dL_law_896 : decode cL_law 896 = .ok (.invokevirtual 114, 3) := by decide +kernel
theorem dL_law_899 : decode cL_law 899 = .ok (.aload_n 2, 1) := by decide +kernel
theorem dL_law_900 : decode cL_law 900 = .ok (.aload_n 0, 1) := by decide +kernel
theorem dL_law_901 : decode cL_law 901 = .ok (.iload_n 3, 1) := by decide +kernel
theorem dL_law_902 : decode cL_law 902 = .ok (.iconst 1, 1) := by decide +kernel
theorem dL_law_903 : decode cL_law 903 = .ok (.iadd, 1) := by decide +kernel
theorem dL_law_904 : decode cL_law 904 = .ok (.iaload, 1) := by decide +kernel
theorem dL_law_905 : decode cL_law 905 = .ok (.invokevirtual 117, 3) := by decide +kernel
theorem dL_law_908 : decode cL_law 908 = .ok (.if_icmp .eq 373, 3) := by decide +kernel
theorem dL_law_911 : decode cL_law 911 = .ok (.iconst 0, 1) := by decide +kernel
theorem dL_law_912 : decode cL_law 912 = .ok (.ireturn, 1) := by decide +kernel
theorem dL_law_913 : decode cL_law 913 = .ok (.aload_n 1, 1) := by decide +kernel
theorem dL_law_914 : decode cL_law 914 = .ok (.aload_n 0, 1) := by decide +kernel
theorem dL_law_915 : decode cL_law 915 = .ok (.iload_n 3, 1) := by decide +kernel
theorem dL_law_916 : decode cL_law 916 = .ok (.iconst 1, 1) := by decide +kernel
theorem dL_law_917 : decode cL_law 917 = .ok (.iadd, 1) := by decide +kernel
theorem dL_law_918 : decode cL_law 918 = .ok (.iaload, 1) := by decide +kernel
theorem dL_law_919 : decode cL_law 919 = .ok (.invokevirtual 118, 3) := by decide +kernel
theorem dL_law_922 : decode cL_law 922 = .ok (.aload_n 2, 1) := by decide +kernel
theorem dL_law_923 : decode cL_law 923 = .ok (.aload_n 0, 1) := by decide +kernel
theorem dL_law_924 : decode cL_law 924 = .ok (.iload_n 3, 1) := by decide +kernel
theorem dL_law_925 : decode cL_law 925 = .ok (.iconst 1, 1) := by decide +kernel
theorem dL_law_926 : decode cL_law 926 = .ok (.iadd, 1) := by decide +kernel
theorem dL_law_927 : decode cL_law 927 = .ok (.iaload, 1) := by decide +kernel
theorem dL_law_928 : decode cL_law 928 = .ok (.invokevirtual 121, 3) := by decide +kernel
theorem dL_law_931 : decode cL_law 931 = .ok (.if_icmp .eq 350, 3) := by decide +kernel
theorem dL_law_934 : decode cL_law 934 = .ok (.iconst 0, 1) := by decide +kernel
theorem dL_law_935 : decode cL_law 935 = .ok (.ireturn, 1) := by decide +kernel
theorem dL_law_936 : decode cL_law 936 = .ok (.aload_n 1, 1) := by decide +kernel
theorem dL_law_937 : decode cL_law 937 = .ok (.aload_n 0, 1) := by decide +kernel
theorem dL_law_938 : decode cL_law 938 = .ok (.iload_n 3, 1) := by decide +kernel
theorem dL_law_939 : decode cL_law 939 = .ok (.iconst 1, 1) := by decide +kernel
theorem dL_law_940 : decode cL_law 940 = .ok (.iadd, 1) := by decide +kernel
theorem dL_law_941 : decode cL_law 941 = .ok (.iaload, 1) := by decide +kernel
theorem dL_law_942 : decode cL_law 942 = .ok (.aload_n 0, 1) := by decide +kernel
theorem dL_law_943 : decode cL_law 943 = .ok (.iload_n 3, 1) := by decide +kernel
theorem dL_law_944 : decode cL_law 944 = .ok (.iconst 2, 1) := by decide +kernel
theorem dL_law_945 : decode cL_law 945 = .ok (.iadd, 1) := by decide +kernel
theorem dL_law_946 : decode cL_law 946 = .ok (.iaload, 1) := by decide +kernel
theorem dL_law_947 : decode cL_law 947 = .ok (.invokevirtual 122, 3) := by decide +kernel
theorem dL_law_950 : decode cL_law 950 = .ok (.aload_n 2, 1) := by decide +kernel
theorem dL_law_951 : decode cL_law 951 = .ok (.aload_n 0, 1) := by decide +kernel
theorem dL_law_952 : decode cL_law 952 = .ok (.iload_n 3, 1) := by decide +kernel
theorem dL_law_953 : decode cL_law 953 = .ok (.iconst 1, 1) := by decide +kernel
theorem dL_law_954 : decode cL_law 954 = .ok (.iadd, 1) := by decide +kernel
theorem dL_law_955 : decode cL_law 955 = .ok (.iaload, 1) := by decide +kernel
theorem dL_law_956 : decode cL_law 956 = .ok (.aload_n 0, 1) := by decide +kernel
theorem dL_law_957 : decode cL_law 957 = .ok (.iload_n 3, 1) := by decide +kernel
theorem dL_law_958 : decode cL_law 958 = .ok (.iconst 2, 1) := by decide +kernel
theorem dL_law_959 : decode cL_law 959 = .ok (.iadd, 1) := by decide +kernel
theorem dL_law_960 : decode cL_law 960 = .ok (.iaload, 1) := by decide +kernel
theorem dL_law_961 : decode cL_law 961 = .ok (.invokevirtual 125, 3) := by decide +kernel
theorem dL_law_964 : decode cL_law 964 = .ok (.if_icmp .eq 317, 3) := by decide +kernel
theorem dL_law_967 : decode cL_law 967 = .ok (.iconst 0, 1) := by decide +kernel
theorem dL_law_968 : decode cL_law 968 = .ok (.ireturn, 1) := by decide +kernel
theorem dL_law_969 : decode cL_law 969 = .ok (.aload_n 1, 1) := by decide +kernel
theorem dL_law_970 : decode cL_law 970 = .ok (.aload_n 0, 1) := by decide +kernel
theorem dL_law_971 : decode cL_law 971 = .ok (.iload_n 3, 1) := by decide +kernel
theorem dL_law_972 : decode cL_law 972 = .ok (.iconst 1, 1) := by decide +kernel
theorem dL_law_973 : decode cL_law 973 = .ok (.iadd, 1) := by decide +kernel
theorem dL_law_974 : decode cL_law 974 = .ok (.iaload, 1) := by decide +kernel
theorem dL_law_975 : decode cL_law 975 = .ok (.aload_n 0, 1) := by decide +kernel
theorem dL_law_976 : decode cL_law 976 = .ok (.iload_n 3, 1) := by decide +kernel
theorem dL_law_977 : decode cL_law 977 = .ok (.iconst 2, 1) := by decide +kernel
theorem dL_law_978 : decode cL_law 978 = .ok (.iadd, 1) := by decide +kernel
theorem dL_law_979 : decode cL_law 979 = .ok (.iaload, 1) := by decide +kernel
theorem dL_law_980 : decode cL_law 980 = .ok (.invokevirtual 126, 3) := by decide +kernel
theorem dL_law_983 : decode cL_law 983 = .ok (.aload_n 2, 1) := by decide +kernel
theorem dL_law_984 : decode cL_law 984 = .ok (.aload_n 0, 1) := by decide +kernel
theorem dL_law_985 : decode cL_law 985 = .ok (.iload_n 3, 1) := by decide +kernel
theorem dL_law_986 : decode cL_law 986 = .ok (.iconst 1, 1) := by decide +kernel
theorem dL_law_987 : decode cL_law 987 = .ok (.iadd, 1) := by decide +kernel
theorem dL_law_988 : decode cL_law 988 = .ok (.iaload, 1) := by decide +kernel
theorem dL_law_989 : decode cL_law 989 = .ok (.aload_n 0, 1) := by decide +kernel
theorem dL_law_990 : decode cL_law 990 = .ok (.iload_n 3, 1) := by decide +kernel
theorem dL_law_991 : decode cL_law 991 = .ok (.iconst 2, 1) := by decide +kernel
theorem dL_law_992 : decode cL_law 992 = .ok (.iadd, 1) := by decide +kernel
theorem dL_law_993 : decode cL_law 993 = .ok (.iaload, 1) := by decide +kernel
theorem dL_law_994 : decode cL_law 994 = .ok (.invokevirtual 129, 3) := by decide +kernel
theorem dL_law_997 : decode cL_law 997 = .ok (.if_icmp .eq 284, 3) := by decide +kernel
theorem dL_law_1000 : decode cL_law 1000 = .ok (.iconst 0, 1) := by decide +kernel
theorem dL_law_1001 : decode cL_law 1001 = .ok (.ireturn, 1) := by decide +kernel
theorem dL_law_1002 : decode cL_law 1002 = .ok (.aload_n 1, 1) := by decide +kernel
theorem dL_law_1003 : decode cL_law 1003 = .ok (.aload_n 0, 1) := by decide +kernel
theorem dL_law_1004 : decode cL_law 1004 = .ok (.iload_n 3, 1) := by decide +kernel
theorem dL_law_1005 : decode cL_law 1005 = .ok (.iconst 1, 1) := by decide +kernel
theorem dL_law_1006 : decode cL_law 1006 = .ok (.iadd, 1) := by decide +kernel
theorem dL_law_1007 : decode cL_law 1007 = .ok (.iaload, 1) := by decide +kernel
theorem dL_law_1008 : decode cL_law 1008 = .ok (.aload_n 0, 1) := by decide +kernel
theorem dL_law_1009 : decode cL_law 1009 = .ok (.iload_n 3, 1) := by decide +kernel
theorem dL_law_1010 : decode cL_law 1010 = .ok (.iconst 2, 1) := by decide +kernel
theorem dL_law_1011 : decode cL_law 1011 = .ok (.iadd, 1) := by decide +kernel
theorem dL_law_1012 : decode cL_law 1012 = .ok (.iaload, 1) := by decide +kernel
theorem dL_law_1013 : decode cL_law 1013 = .ok (.invokevirtual 130, 3) := by decide +kernel
theorem dL_law_1016 : decode cL_law 1016 = .ok (.aload_n 2, 1) := by decide +kernel
theorem dL_law_1017 : decode cL_law 1017 = .ok (.aload_n 0, 1) := by decide +kernel
theorem dL_law_1018 : decode cL_law 1018 = .ok (.iload_n 3, 1) := by decide +kernel
theorem dL_law_1019 : decode cL_law 1019 = .ok (.iconst 1, 1) := by decide +kernel
theorem dL_law_1020 : decode cL_law 1020 = .ok (.iadd, 1) := by decide +kernel
theorem dL_law_1021 : decode cL_law 1021 = .ok (.iaload, 1) := by decide +kernel
theorem dL_law_1022 : decode cL_law 1022 = .ok (.aload_n 0, 1) := by decide +kernel
theorem dL_law_1023 : decode cL_law 1023 = .ok (.iload_n 3, 1) := by decide +kernel
theorem dL_law_1024 : decode cL_law 1024 = .ok (.iconst 2, 1) := by decide +kernel
theorem dL_law_1025 : decode cL_law 1025 = .ok (.iadd, 1) := by decide +kernel
theorem dL_law_1026 : decode cL_law 1026 = .ok (.iaload, 1) := by decide +kernel
theorem dL_law_1027 : decode cL_law 1027 = .ok (.invokevirtual 133, 3) := by decide +kernel
theorem dL_law_1030 : decode cL_law 1030 = .ok (.if_icmp .eq 251, 3) := by decide +kernel
theorem dL_law_1033 : decode cL_law 1033 = .ok (.iconst 0, 1) := by decide +kernel
theorem dL_law_1034 : decode cL_law 1034 = .ok (.ireturn, 1) := by decide +kernel
theorem dL_law_1035 : decode cL_law 1035 = .ok (.aload_n 1, 1) := by decide +kernel
theorem dL_law_1036 : decode cL_law 1036 = .ok (.aload_n 0, 1) := by decide +kernel
theorem dL_law_1037 : decode cL_law 1037 = .ok (.iload_n 3, 1) := by decide +kernel
theorem dL_law_1038 : decode cL_law 1038 = .ok (.iconst 1, 1) := by decide +kernel
theorem dL_law_1039 : decode cL_law 1039 = .ok (.iadd, 1) := by decide +kernel
theorem dL_law_1040 : decode cL_law 1040 = .ok (.iaload, 1) := by decide +kernel
theorem dL_law_1041 : decode cL_law 1041 = .ok (.invokevirtual 134, 3) := by decide +kernel
theorem dL_law_1044 : decode cL_law 1044 = .ok (.aload_n 2, 1) := by decide +kernel
theorem dL_law_1045 : decode cL_law 1045 = .ok (.aload_n 0, 1) := by decide +kernel
theorem dL_law_1046 : decode cL_law 1046 = .ok (.iload_n 3, 1) := by decide +kernel
theorem dL_law_1047 : decode cL_law 1047 = .ok (.iconst 1, 1) := by decide +kernel
theorem dL_law_1048 : decode cL_law 1048 = .ok (.iadd, 1) := by decide +kernel
theorem dL_law_1049 : decode cL_law 1049 = .ok (.iaload, 1) := by decide +kernel
theorem dL_law_1050 : decode cL_law 1050 = .ok (.invokevirtual 137, 3) := by decide +kernel
theorem dL_law_1053 : decode cL_law 1053 = .ok (.if_icmp .eq 228, 3) := by decide +kernel
theorem dL_law_1056 : decode cL_law 1056 = .ok (.iconst 0, 1) := by decide +kernel
theorem dL_law_1057 : decode cL_law 1057 = .ok (.ireturn, 1) := by decide +kernel
theorem dL_law_1058 : decode cL_law 1058 = .ok (.aload_n 1, 1) := by decide +kernel
theorem dL_law_1059 : decode cL_law 1059 = .ok (.aload_n 0, 1) := by decide +kernel
theorem dL_law_1060 : decode cL_law 1060 = .ok (.iload_n 3, 1) := by decide +kernel
theorem dL_law_1061 : decode cL_law 1061 = .ok (.iconst 1, 1) := by decide +kernel
theorem dL_law_1062 : decode cL_law 1062 = .ok (.iadd, 1) := by decide +kernel
theorem dL_law_1063 : decode cL_law 1063 = .ok (.iaload, 1) := by decide +kernel
theorem dL_law_1064 : decode cL_law 1064 = .ok (.aload_n 0, 1) := by decide +kernel
theorem dL_law_1065 : decode cL_law 1065 = .ok (.iload_n 3, 1) := by decide +kernel
theorem dL_law_1066 : decode cL_law 1066 = .ok (.iconst 2, 1) := by decide +kernel
theorem dL_law_1067 : decode cL_law 1067 = .ok (.iadd, 1) := by decide +kernel
theorem dL_law_1068 : decode cL_law 1068 = .ok (.iaload, 1) := by decide +kernel
theorem dL_law_1069 : decode cL_law 1069 = .ok (.aload_n 0, 1) := by decide +kernel
theorem dL_law_1070 : decode cL_law 1070 = .ok (.iload_n 3, 1) := by decide +kernel
theorem dL_law_1071 : decode cL_law 1071 = .ok (.iconst 3, 1) := by decide +kernel
theorem dL_law_1072 : decode cL_law 1072 = .ok (.iadd, 1) := by decide +kernel
theorem dL_law_1073 : decode cL_law 1073 = .ok (.iaload, 1) := by decide +kernel
theorem dL_law_1074 : decode cL_law 1074 = .ok (.invokevirtual 138, 3) := by decide +kernel
theorem dL_law_1077 : decode cL_law 1077 = .ok (.aload_n 2, 1) := by decide +kernel
theorem dL_law_1078 : decode cL_law 1078 = .ok (.aload_n 0, 1) := by decide +kernel
theorem dL_law_1079 : decode cL_law 1079 = .ok (.iload_n 3, 1) := by decide +kernel
theorem dL_law_1080 : decode cL_law 1080 = .ok (.iconst 1, 1) := by decide +kernel
theorem dL_law_1081 : decode cL_law 1081 = .ok (.iadd, 1) := by decide +kernel
theorem dL_law_1082 : decode cL_law 1082 = .ok (.iaload, 1) := by decide +kernel
theorem dL_law_1083 : decode cL_law 1083 = .ok (.aload_n 0, 1) := by decide +kernel
theorem dL_law_1084 : decode cL_law 1084 = .ok (.iload_n 3, 1) := by decide +kernel
theorem dL_law_1085 : decode cL_law 1085 = .ok (.iconst 2, 1) := by decide +kernel
theorem dL_law_1086 : decode cL_law 1086 = .ok (.iadd, 1) := by decide +kernel
theorem dL_law_1087 : decode cL_law 1087 = .ok (.iaload, 1) := by decide +kernel
theorem dL_law_1088 : decode cL_law 1088 = .ok (.aload_n 0, 1) := by decide +kernel
theorem dL_law_1089 : decode cL_law 1089 = .ok (.iload_n 3, 1) := by decide +kernel
theorem dL_law_1090 : decode cL_law 1090 = .ok (.iconst 3, 1) := by decide +kernel
theorem dL_law_1091 : decode cL_law 1091 = .ok (.iadd, 1) := by decide +kernel
theorem dL_law_1092 : decode cL_law 1092 = .ok (.iaload, 1) := by decide +kernel
theorem dL_law_1093 : decode cL_law 1093 = .ok (.invokevirtual 141, 3) := by decide +kernel
theorem dL_law_1096 : decode cL_law 1096 = .ok (.if_icmp .eq 185, 3) := by decide +kernel
theorem dL_law_1099 : decode cL_law 1099 = .ok (.iconst 0, 1) := by decide +kernel
theorem dL_law_1100 : decode cL_law 1100 = .ok (.ireturn, 1) := by decide +kernel
theorem dL_law_1101 : decode cL_law 1101 = .ok (.aload_n 1, 1) := by decide +kernel
theorem dL_law_1102 : decode cL_law 1102 = .ok (.aload_n 0, 1) := by decide +kernel
theorem dL_law_1103 : decode cL_law 1103 = .ok (.iload_n 3, 1) := by decide +kernel
theorem dL_law_1104 : decode cL_law 1104 = .ok (.iconst 1, 1) := by decide +kernel
theorem dL_law_1105 : decode cL_law 1105 = .ok (.iadd, 1) := by decide +kernel
theorem dL_law_1106 : decode cL_law 1106 = .ok (.iaload, 1) := by decide +kernel
theorem dL_law_1107 : decode cL_law 1107 = .ok (.aload_n 0, 1) := by decide +kernel
theorem dL_law_1108 : decode cL_law 1108 = .ok (.iload_n 3, 1) := by decide +kernel
theorem dL_law_1109 : decode cL_law 1109 = .ok (.iconst 2, 1) := by decide +kernel
theorem dL_law_1110 : decode cL_law 1110 = .ok (.iadd, 1) := by decide +kernel
theorem dL_law_1111 : decode cL_law 1111 = .ok (.iaload, 1) := by decide +kernel
theorem dL_law_1112 : decode cL_law 1112 = .ok (.invokevirtual 142, 3) := by decide +kernel
theorem dL_law_1115 : decode cL_law 1115 = .ok (.aload_n 2, 1) := by decide +kernel
theorem dL_law_1116 : decode cL_law 1116 = .ok (.aload_n 0, 1) := by decide +kernel
theorem dL_law_1117 : decode cL_law 1117 = .ok (.iload_n 3, 1) := by decide +kernel
theorem dL_law_1118 : decode cL_law 1118 = .ok (.iconst 1, 1) := by decide +kernel
theorem dL_law_1119 : decode cL_law 1119 = .ok (.iadd, 1) := by decide +kernel
theorem dL_law_1120 : decode cL_law 1120 = .ok (.iaload, 1) := by decide +kernel
theorem dL_law_1121 : decode cL_law 1121 = .ok (.aload_n 0, 1) := by decide +kernel
theorem dL_law_1122 : decode cL_law 1122 = .ok (.iload_n 3, 1) := by decide +kernel
theorem dL_law_1123 : decode cL_law 1123 = .ok (.iconst 2, 1) := by decide +kernel
theorem dL_law_1124 : decode cL_law 1124 = .ok (.iadd, 1) := by decide +kernel
theorem dL_law_1125 : decode cL_law 1125 = .ok (.iaload, 1) := by decide +kernel
theorem dL_law_1126 : decode cL_law 1126 = .ok (.invokevirtual 145, 3) := by decide +kernel
theorem dL_law_1129 : decode cL_law 1129 = .ok (.if_icmp .eq 152, 3) := by decide +kernel
theorem dL_law_1132 : decode cL_law 1132 = .ok (.iconst 0, 1) := by decide +kernel
theorem dL_law_1133 : decode cL_law 1133 = .ok (.ireturn, 1) := by decide +kernel
theorem dL_law_1134 : decode cL_law 1134 = .ok (.aload_n 1, 1) := by decide +kernel
theorem dL_law_1135 : decode cL_law 1135 = .ok (.aload_n 0, 1) := by decide +kernel
theorem dL_law_1136 : decode cL_law 1136 = .ok (.iload_n 3, 1) := by decide +kernel
theorem dL_law_1137 : decode cL_law 1137 = .ok (.iconst 1, 1) := by decide +kernel
theorem dL_law_1138 : decode cL_law 1138 = .ok (.iadd, 1) := by decide +kernel
theorem dL_law_1139 : decode cL_law 1139 = .ok (.iaload, 1) := by decide +kernel
theorem dL_law_1140 : decode cL_law 1140 = .ok (.aload_n 0, 1) := by decide +kernel
theorem dL_law_1141 : decode cL_law 1141 = .ok (.iload_n 3, 1) := by decide +kernel
theorem dL_law_1142 : decode cL_law 1142 = .ok (.iconst 2, 1) := by decide +kernel
theorem dL_law_1143 : decode cL_law 1143 = .ok (.iadd, 1) := by decide +kernel
theorem dL_law_1144 : decode cL_law 1144 = .ok (.iaload, 1) := by decide +kernel
theorem dL_law_1145 : decode cL_law 1145 = .ok (.invokevirtual 146, 3) := by decide +kernel
theorem dL_law_1148 : decode cL_law 1148 = .ok (.aload_n 2, 1) := by decide +kernel
theorem dL_law_1149 : decode cL_law 1149 = .ok (.aload_n 0, 1) := by decide +kernel
theorem dL_law_1150 : decode cL_law 1150 = .ok (.iload_n 3, 1) := by decide +kernel
theorem dL_law_1151 : decode cL_law 1151 = .ok (.iconst 1, 1) := by decide +kernel
theorem dL_law_1152 : decode cL_law 1152 = .ok (.iadd, 1) := by decide +kernel
theorem dL_law_1153 : decode cL_law 1153 = .ok (.iaload, 1) := by decide +kernel
theorem dL_law_1154 : decode cL_law 1154 = .ok (.aload_n 0, 1) := by decide +kernel
theorem dL_law_1155 : decode cL_law 1155 = .ok (.iload_n 3, 1) := by decide +kernel
theorem dL_law_1156 : decode cL_law 1156 = .ok (.iconst 2, 1) := by decide +kernel
theorem dL_law_1157 : decode cL_law 1157 = .ok (.iadd, 1) := by decide +kernel
theorem dL_law_1158 : decode cL_law 1158 = .ok (.iaload, 1) := by decide +kernel
theorem dL_law_1159 : decode cL_law 1159 = .ok (.invokevirtual 149, 3) := by decide +kernel
theorem dL_law_1162 : decode cL_law 1162 = .ok (.if_icmp .eq 119, 3) := by decide +kernel
theorem dL_law_1165 : decode cL_law 1165 = .ok (.iconst 0, 1) := by decide +kernel
theorem dL_law_1166 : decode cL_law 1166 = .ok (.ireturn, 1) := by decide +kernel
theorem dL_law_1167 : decode cL_law 1167 = .ok (.aload_n 1, 1) := by decide +kernel
theorem dL_law_1168 : decode cL_law 1168 = .ok (.invokevirtual 150, 3) := by decide +kernel
theorem dL_law_1171 : decode cL_law 1171 = .ok (.aload_n 2, 1) := by decide +kernel
theorem dL_law_1172 : decode cL_law 1172 = .ok (.invokevirtual 153, 3) := by decide +kernel
theorem dL_law_1175 : decode cL_law 1175 = .ok (.if_icmp .eq 106, 3) := by decide +kernel
theorem dL_law_1178 : decode cL_law 1178 = .ok (.iconst 0, 1) := by decide +kernel
theorem dL_law_1179 : decode cL_law 1179 = .ok (.ireturn, 1) := by decide +kernel
theorem dL_law_1180 : decode cL_law 1180 = .ok (.aload_n 1, 1) := by decide +kernel
theorem dL_law_1181 : decode cL_law 1181 = .ok (.invokevirtual 154, 3) := by decide +kernel
theorem dL_law_1184 : decode cL_law 1184 = .ok (.aload_n 2, 1) := by decide +kernel
theorem dL_law_1185 : decode cL_law 1185 = .ok (.invokevirtual 158, 3) := by decide +kernel
theorem dL_law_1188 : decode cL_law 1188 = .ok (.lcmp, 1) := by decide +kernel
theorem dL_law_1189 : decode cL_law 1189 = .ok (.ifCond .eq 92, 3) := by decide +kernel
theorem dL_law_1192 : decode cL_law 1192 = .ok (.iconst 0, 1) := by decide +kernel
theorem dL_law_1193 : decode cL_law 1193 = .ok (.ireturn, 1) := by decide +kernel
theorem dL_law_1194 : decode cL_law 1194 = .ok (.aload_n 1, 1) := by decide +kernel
theorem dL_law_1195 : decode cL_law 1195 = .ok (.invokevirtual 159, 3) := by decide +kernel
theorem dL_law_1198 : decode cL_law 1198 = .ok (.aload_n 2, 1) := by decide +kernel
theorem dL_law_1199 : decode cL_law 1199 = .ok (.invokevirtual 162, 3) := by decide +kernel
theorem dL_law_1202 : decode cL_law 1202 = .ok (.lcmp, 1) := by decide +kernel
theorem dL_law_1203 : decode cL_law 1203 = .ok (.ifCond .eq 78, 3) := by decide +kernel
theorem dL_law_1206 : decode cL_law 1206 = .ok (.iconst 0, 1) := by decide +kernel
theorem dL_law_1207 : decode cL_law 1207 = .ok (.ireturn, 1) := by decide +kernel
theorem dL_law_1208 : decode cL_law 1208 = .ok (.aload_n 1, 1) := by decide +kernel
theorem dL_law_1209 : decode cL_law 1209 = .ok (.aload_n 0, 1) := by decide +kernel
theorem dL_law_1210 : decode cL_law 1210 = .ok (.iload_n 3, 1) := by decide +kernel
theorem dL_law_1211 : decode cL_law 1211 = .ok (.iconst 1, 1) := by decide +kernel
theorem dL_law_1212 : decode cL_law 1212 = .ok (.iadd, 1) := by decide +kernel
theorem dL_law_1213 : decode cL_law 1213 = .ok (.iaload, 1) := by decide +kernel
theorem dL_law_1214 : decode cL_law 1214 = .ok (.invokevirtual 163, 3) := by decide +kernel
theorem dL_law_1217 : decode cL_law 1217 = .ok (.aload_n 2, 1) := by decide +kernel
theorem dL_law_1218 : decode cL_law 1218 = .ok (.aload_n 0, 1) := by decide +kernel
theorem dL_law_1219 : decode cL_law 1219 = .ok (.iload_n 3, 1) := by decide +kernel
theorem dL_law_1220 : decode cL_law 1220 = .ok (.iconst 1, 1) := by decide +kernel
theorem dL_law_1221 : decode cL_law 1221 = .ok (.iadd, 1) := by decide +kernel
theorem dL_law_1222 : decode cL_law 1222 = .ok (.iaload, 1) := by decide +kernel
theorem dL_law_1223 : decode cL_law 1223 = .ok (.invokevirtual 166, 3) := by decide +kernel
theorem dL_law_1226 : decode cL_law 1226 = .ok (.if_icmp .eq 55, 3) := by decide +kernel
theorem dL_law_1229 : decode cL_law 1229 = .ok (.iconst 0, 1) := by decide +kernel
theorem dL_law_1230 : decode cL_law 1230 = .ok (.ireturn, 1) := by decide +kernel
theorem dL_law_1231 : decode cL_law 1231 = .ok (.aload_n 1, 1) := by decide +kernel
theorem dL_law_1232 : decode cL_law 1232 = .ok (.invokevirtual 167, 3) := by decide +kernel
theorem dL_law_1235 : decode cL_law 1235 = .ok (.aload_n 2, 1) := by decide +kernel
theorem dL_law_1236 : decode cL_law 1236 = .ok (.invokevirtual 170, 3) := by decide +kernel
theorem dL_law_1239 : decode cL_law 1239 = .ok (.if_icmp .eq 42, 3) := by decide +kernel
theorem dL_law_1242 : decode cL_law 1242 = .ok (.iconst 0, 1) := by decide +kernel
theorem dL_law_1243 : decode cL_law 1243 = .ok (.ireturn, 1) := by decide +kernel
theorem dL_law_1244 : decode cL_law 1244 = .ok (.aload_n 1, 1) := by decide +kernel
theorem dL_law_1245 : decode cL_law 1245 = .ok (.aload_n 0, 1) := by decide +kernel
theorem dL_law_1246 : decode cL_law 1246 = .ok (.iload_n 3, 1) := by decide +kernel
theorem dL_law_1247 : decode cL_law 1247 = .ok (.iconst 1, 1) := by decide +kernel
theorem dL_law_1248 : decode cL_law 1248 = .ok (.iadd, 1) := by decide +kernel
theorem dL_law_1249 : decode cL_law 1249 = .ok (.iaload, 1) := by decide +kernel
theorem dL_law_1250 : decode cL_law 1250 = .ok (.invokevirtual 171, 3) := by decide +kernel
theorem dL_law_1253 : decode cL_law 1253 = .ok (.aload_n 2, 1) := by decide +kernel
theorem dL_law_1254 : decode cL_law 1254 = .ok (.aload_n 0, 1) := by decide +kernel
theorem dL_law_1255 : decode cL_law 1255 = .ok (.iload_n 3, 1) := by decide +kernel
theorem dL_law_1256 : decode cL_law 1256 = .ok (.iconst 1, 1) := by decide +kernel
theorem dL_law_1257 : decode cL_law 1257 = .ok (.iadd, 1) := by decide +kernel
theorem dL_law_1258 : decode cL_law 1258 = .ok (.iaload, 1) := by decide +kernel
theorem dL_law_1259 : decode cL_law 1259 = .ok (.invokevirtual 174, 3) := by decide +kernel
theorem dL_law_1262 : decode cL_law 1262 = .ok (.if_icmp .eq 19, 3) := by decide +kernel
theorem dL_law_1265 : decode cL_law 1265 = .ok (.iconst 0, 1) := by decide +kernel
theorem dL_law_1266 : decode cL_law 1266 = .ok (.ireturn, 1) := by decide +kernel
theorem dL_law_1267 : decode cL_law 1267 = .ok (.aload_n 1, 1) := by decide +kernel
theorem dL_law_1268 : decode cL_law 1268 = .ok (.invokevirtual 175, 3) := by decide +kernel
theorem dL_law_1271 : decode cL_law 1271 = .ok (.aload_n 2, 1) := by decide +kernel
theorem dL_law_1272 : decode cL_law 1272 = .ok (.invokevirtual 178, 3) := by decide +kernel
theorem dL_law_1275 : decode cL_law 1275 = .ok (.lcmp, 1) := by decide +kernel
theorem dL_law_1276 : decode cL_law 1276 = .ok (.ifCond .eq 5, 3) := by decide +kernel
theorem dL_law_1279 : decode cL_law 1279 = .ok (.iconst 0, 1) := by decide +kernel
theorem dL_law_1280 : decode cL_law 1280 = .ok (.ireturn, 1) := by decide +kernel
theorem dL_law_1281 : decode cL_law 1281 = .ok (.iinc 3 6, 3) := by decide +kernel
theorem dL_law_1284 : decode cL_law 1284 = .ok (.goto (-1266), 3) := by decide +kernel
theorem dL_law_1287 : decode cL_law 1287 = .ok (.iconst 1, 1) := by decide +kernel
theorem dL_law_1288 : decode cL_law 1288 = .ok (.ireturn, 1) := by decide +kernel
end
section
/-! THE FLAT MACHINE. A world is an interval of cells from B on; each has a tag and a length, slots that are ints, longs or references; all of a method's steps are said over these alone. -/
abbrev IV : Type := Nat → Nat → Int32
abbrev LV : Type := Nat → Nat → Int64
/-- shapes: the heap's size; a cell's tag and length; its references -/
abbrev SH : Type := Nat × (Nat → Nat × Nat) × (Nat → Nat → Option Nat)
/-- launch, classes, slots, array classes, the world's first cell, the letters' cell -/
abbrev GC : Type := Launch × (Nat → ClassId) × (Nat → Nat → Nat) × (Nat → ClassId) × Nat × Nat
abbrev gL (G : GC) : Launch := G.1
abbrev gD (G : GC) : va_G := (G.2.1, G.2.2.1)
abbrev gA (G : GC) : Nat → ClassId := G.2.2.2.1
abbrev gB (G : GC) : Nat := G.2.2.2.2.1
abbrev gT (G : GC) : Nat := G.2.2.2.2.2
def tyT (t k : Nat) : FieldType := match t with
  | 3 => tyX3 k | 5 => tyX5 k | 7 => tyX7 k | 9 => tyX9 k | 10 => tyX10 k | 11 => tyX11 k | _ => .int
def nF (t : Nat) : Nat := match t with
  | 3 => 10 | 5 => 2 | 7 => 2 | 9 => 16 | 10 => 11 | 11 => 29 | _ => 0
def fv (rf : Nat → Nat → Option Nat) (iv : IV) (lv : LV) (t a k : Nat) : Value := match tyT t k with
  | .int => .int (iv a k) | .long => .long (lv a k) | _ => va_rf (rf a k)
def ce (dT : Nat → ClassId) (E : SH) (iv : IV) (lv : LV) (a : Nat) : va_E :=
  if (E.2.1 a).1 < 20 then .inr ((E.2.1 a).1, (List.range (nF (E.2.1 a).1)).map (fv E.2.2 iv lv (E.2.1 a).1 a))
  else .inl (dT ((E.2.1 a).1 - 20), (E.2.1 a).2, if (E.2.1 a).1 < 22 then .inl (iv a) else .inr (.inr (.inr (.inr (E.2.2 a)))))
def tysA (dT : Nat → ClassId) : List (ClassId × FieldType) := [(dT 0, .int), (dT 1, .byte), (dT 2, .object RX7), (dT 3, .object RX9), (dT 4, .object RX2), (dT 5, .array .int)]
/-- the letters of the kinds -/
def LT (j : Nat) : Int32 := match j with
  | 0 => 110 | 1 => 100 | 2 => 115 | 3 => 104 | 4 => 112 | _ => 98
/-- which kinds are none of which -/
def ncL : List (String × String) := [(RX2, RX1), (RX2, RX8), (RX2, RX6), (RX2, RX4), (RX2, RX0), (RX1, RX8), (RX1, RX6), (RX1, RX4), (RX1, RX0), (RX8, RX1), (RX8, RX6), (RX8, RX4), (RX8, RX0), (RX6, RX1), (RX6, RX8), (RX6, RX4), (RX6, RX0), (RX4, RX8), (RX4, RX6), (RX4, RX0), (RX0, RX1), (RX0, RX6), (RX0, RX4)]
def SF (G : GC) (s : State) (H : Heap) : Prop := va_Z RX5 "LETTERS" "[C" (.ref (gT G)) (fun q => gB G ≤ q) s H ∧ va_T .char (gT G) 6 (fun j => .int (LT j)) (fun q => gB G ≤ q) s H ∧ ∀ q ∈ ncL, va_Nc q.1 q.2 s
def wd (G : GC) (E : SH) (iv : IV) (lv : LV) (s : State) (H : Heap) : Prop :=
  va_K (gD G) vwCl (tysA (gA G)) s ∧ (∀ a, gB G ≤ a → a < E.1 → va_at (gD G) vwCl (a, ce (gA G) E iv lv a) H) ∧ H.size = E.1 ∧ gB G ≤ E.1
/-- a cell of the world: its tag, its length -/
def Sh (G : GC) (E : SH) (a t n : Nat) : Prop := gB G ≤ a ∧ a < E.1 ∧ E.2.1 a = (t, n)
/-- what the machine is at, in a method -/
def CX (μ : MI) (p : Program) (s : State) (m : MethodId) (args : Array Value) (meth : Method) (c : Code) : Prop :=
  p.tables.exec = Jvm.exec ∧ c.code = μ.2.1 ∧ c.maxLocals = μ.2.2.1 ∧ meth.sig.returnType = μ.2.2.2 ∧ meth.locks = false ∧ s.vm.findClass μ.1.cls = some m.cls ∧ (∀ w ∈ tb, w.before args s = true) ∧ meth.name = μ.1.name
def aL (ls : Array Slot) (lo : List (Option Value)) : Prop := ls.size = lo.length ∧ lv_wf ls ∧ ∀ (i : Nat) (v : Value), lo[i]? = some (some v) → ls[i]? = some (.val v)
def WQ (G : GC) (μ : MI) (X : State → Prop) (z0 : Nat) (lo : List (Option Value)) (E : SH) (iv : IV) (lv : LV) (s : State) (H : Heap) (locs : List Loc) (ls : Array Slot) : Prop :=
  X s ∧ s.heap.size = z0 ∧ gB G ≤ z0 ∧ SF G s s.heap ∧ wd G E iv lv s H ∧ va_S (fun q => gB G ≤ q) s.heap H locs ∧ aL ls lo ∧ lo.length = μ.2.2.1
/-- from here on it comes to Z -/
def AW (G : GC) (μ : MI) (R : Room) (Z : List Frame → Array Value → State → State → Prop) (X : State → Prop) (z0 : Nat) (pc : Nat) (lo : List (Option Value)) (st : List Value) (E : SH) (iv : IV) (lv : LV) : Prop :=
  ∀ (p : Program) (e : Jvm.Env) (s : State) (m : MethodId) (args : Array Value) (below : List Frame) (meth : Method) (c : Code) (H : Heap) (locs : List Loc) (ls : Array Slot),
    CX μ p s m args meth c → WQ G μ X z0 lo E iv lv s H locs ls → W p (gL G) e R s m args below meth c H locs (E.1 - z0) (2500 * (E.1 - z0)) (Z below args s) (F0 m pc ls st)
/-- storing into a local -/
def kp (lo : List (Option Value)) (i : Nat) : List (Option Value) := match i with
  | 0 => lo
  | j + 1 => match lo[j]? with
    | some (some w) => if w.category = 2 then lo.set j none else lo
    | _ => lo
def st1 (lo : List (Option Value)) (i : Nat) (v : Value) : List (Option Value) := (kp lo i).set i (some v)
def st2 (lo : List (Option Value)) (i : Nat) (v : Value) : List (Option Value) := ((kp lo i).set i (some v)).set (i + 1) none
def en : Nat → List (Option Value) → List (Nat × Value)
  | _, [] => []
  | i, none :: l => en (i + 1) l
  | i, some v :: l => (i, v) :: en (i + 1) l
theorem en_mem : ∀ (lo : List (Option Value)) (i0 : Nat) (q : Nat × Value), q ∈ en i0 lo ↔ ∃ j, lo[j]? = some (some q.2) ∧ q.1 = i0 + j
  | [], i0, q => by simp [en]
  | none :: l, i0, q => by
    rw [en, en_mem l (i0 + 1) q]
    constructor
    · rintro ⟨j, h1, h2⟩
      exact ⟨j + 1, by simpa using h1, by omega⟩
    · rintro ⟨j, h1, h2⟩
      cases j with
      | zero => simp at h1
      | succ j => exact ⟨j, by simpa using h1, by omega⟩
  | some v :: l, i0, q => by
    rw [en, List.mem_cons, en_mem l (i0 + 1) q]
    constructor
    · rintro (rfl | ⟨j, h1, h2⟩)
      · exact ⟨0, by simp, by simp⟩
      · exact ⟨j + 1, by simpa using h1, by omega⟩
    · rintro ⟨j, h1, h2⟩
      cases j with
      | zero =>
        left
        simp at h1
        obtain ⟨a, b⟩ := q
        simp at h1 h2
        rw [h1, h2]
      | succ j => exact Or.inr ⟨j, by simpa using h1, by omega⟩
theorem aL_has {ls : Array Slot} {lo : List (Option Value)} (h : aL ls lo) : lv_has ls lo.length (en 0 lo) := by
  refine ⟨h.1, h.2.1, fun q hq => ?_⟩
  obtain ⟨j, h1, h2⟩ := (en_mem lo 0 q).mp hq
  rw [h2, Nat.zero_add]
  exact h.2.2 j q.2 h1
theorem kp_length (lo : List (Option Value)) (i : Nat) : (kp lo i).length = lo.length := by
  unfold kp
  split
  · rfl
  · split
    · split <;> simp
    · rfl
theorem kp_at {lo : List (Option Value)} {i j : Nat} {w : Value} (h : (kp lo i)[j]? = some (some w)) : lo[j]? = some (some w) ∧ ¬ (j + 1 = i ∧ w.category = 2) := by
  unfold kp at h
  split at h
  · exact ⟨h, by omega⟩
  · rename_i k
    split at h
    · rename_i w' hw'
      split at h
      · by_cases e : k = j
        · subst e
          rw [List.getElem?_set_self (List.getElem?_eq_some_iff.mp hw').1] at h
          simp at h
        · rw [List.getElem?_set_ne e] at h
          exact ⟨h, by omega⟩
      · rename_i hc
        refine ⟨h, fun ⟨h1, h2⟩ => ?_⟩
        have e : j = k := by omega
        subst e
        rw [hw'] at h
        simp at h
        rw [h] at hc
        exact hc h2
    · rename_i hn
      refine ⟨h, fun ⟨h1, h2⟩ => ?_⟩
      have e : j = k := by omega
      subst e
      exact hn w h
theorem aL_st1 {ls : Array Slot} {lo : List (Option Value)} {i n : Nat} {v : Value} (hn : n = lo.length) (hi : i < n) (h : lv_has ls n ((i, v) :: (en 0 lo).filter (fun q => !(q.1 == i) && !(q.1 + 1 == i && q.2.category == 2)))) : aL ls (st1 lo i v) := by
  subst hn
  refine ⟨by rw [h.1, st1, List.length_set, kp_length], h.2.1, fun j w hj => ?_⟩
  unfold st1 at hj
  by_cases e : i = j
  · subst e
    rw [List.getElem?_set_self (by rw [kp_length]; exact hi)] at hj
    cases hj
    exact h.2.2 (i, v) List.mem_cons_self
  · rw [List.getElem?_set_ne e] at hj
    obtain ⟨h1, h2⟩ := kp_at hj
    refine h.2.2 (j, w) (List.mem_cons_of_mem _ (List.mem_filter.mpr ⟨(en_mem lo 0 (j, w)).mpr ⟨j, h1, by simp⟩, ?_⟩))
    simp only [Bool.and_eq_true, Bool.not_eq_true', beq_eq_false_iff_ne, ne_eq, Bool.and_eq_false_iff]
    refine ⟨fun q => e q.symm, ?_⟩
    by_cases f : j + 1 = i
    · exact Or.inr (fun q => h2 ⟨f, q⟩)
    · exact Or.inl f
theorem aL_st2 {ls : Array Slot} {lo : List (Option Value)} {i n : Nat} {v : Value} (hn : n = lo.length) (hi : i + 1 < n) (h : lv_has ls n ((i, v) :: (en 0 lo).filter (fun q => !(q.1 == i) && (!(q.1 == i + 1) && !(q.1 + 1 == i && q.2.category == 2))))) : aL ls (st2 lo i v) := by
  subst hn
  refine ⟨by rw [h.1, st2, List.length_set, List.length_set, kp_length], h.2.1, fun j w hj => ?_⟩
  unfold st2 at hj
  by_cases e1 : i + 1 = j
  · subst e1
    rw [List.getElem?_set_self (by rw [List.length_set, kp_length]; exact hi)] at hj
    cases hj
  · rw [List.getElem?_set_ne e1] at hj
    by_cases e : i = j
    · subst e
      rw [List.getElem?_set_self (by rw [kp_length]; omega)] at hj
      cases hj
      exact h.2.2 (i, v) List.mem_cons_self
    · rw [List.getElem?_set_ne e] at hj
      obtain ⟨h1, h2⟩ := kp_at hj
      refine h.2.2 (j, w) (List.mem_cons_of_mem _ (List.mem_filter.mpr ⟨(en_mem lo 0 (j, w)).mpr ⟨j, h1, by simp⟩, ?_⟩))
      simp only [Bool.and_eq_true, Bool.not_eq_true', beq_eq_false_iff_ne, ne_eq, Bool.and_eq_false_iff]
      refine ⟨fun q => e q.symm, fun q => e1 q.symm, ?_⟩
      by_cases f : j + 1 = i
      · exact Or.inr (fun q => h2 ⟨f, q⟩)
      · exact Or.inl f
section AWS
variable {G : GC} {μ : MI} {R : Room} {Z : List Frame → Array Value → State → State → Prop} {X : State → Prop} {z0 pc : Nat} {lo : List (Option Value)} {st : List Value} {E : SH} {iv : IV} {lv : LV}
theorem aw_iconst {n : Int} {v : Int32} (hd : decode μ.2.1 pc = .ok (.iconst n, 1)) (hv : Int32.ofInt n = v) (k : AW G μ R Z X z0 (pc + 1) lo (.int v :: st) E iv lv) : AW G μ R Z X z0 pc lo st E iv lv :=
  fun p e s m args below meth c H locs ls C q => lv_iconst C.1 C.2.1 hd hv (k p e s m args below meth c H locs ls C q)
theorem aw_bipush {n : Int} {v : Int32} (hd : decode μ.2.1 pc = .ok (.bipush n, 2)) (hv : (Int8.ofInt n).toInt32 = v) (k : AW G μ R Z X z0 (pc + 2) lo (.int v :: st) E iv lv) : AW G μ R Z X z0 pc lo st E iv lv :=
  fun p e s m args below meth c H locs ls C q => lv_bipush C.1 C.2.1 hd hv (k p e s m args below meth c H locs ls C q)
theorem aw_sipush {n : Int} {v : Int32} (hd : decode μ.2.1 pc = .ok (.sipush n, 3)) (hv : (Int16.ofInt n).toInt32 = v) (k : AW G μ R Z X z0 (pc + 3) lo (.int v :: st) E iv lv) : AW G μ R Z X z0 pc lo st E iv lv :=
  fun p e s m args below meth c H locs ls C q => lv_sipush C.1 C.2.1 hd hv (k p e s m args below meth c H locs ls C q)
theorem aw_lconst {n : Fin 2} {v : Int64} (hd : decode μ.2.1 pc = .ok (.lconst n, 1)) (hv : Int64.ofNat (n : Nat) = v) (k : AW G μ R Z X z0 (pc + 1) lo (.long v :: st) E iv lv) : AW G μ R Z X z0 pc lo st E iv lv :=
  fun p e s m args below meth c H locs ls C q => lv_lconst C.1 C.2.1 hd hv (k p e s m args below meth c H locs ls C q)
theorem aw_ldc {i : Nat} {v : Int32} (hd : decode μ.2.1 pc = .ok (.ldc i, 2)) (hw : Cond.constant μ.1.cls i v ∈ tb) (k : AW G μ R Z X z0 (pc + 2) lo (.int v :: st) E iv lv) : AW G μ R Z X z0 pc lo st E iv lv :=
  fun p e s m args below meth c H locs ls C q => lv_ldc C.1 C.2.1 C.2.2.2.2.2.1 (C.2.2.2.2.2.2.1 _ hw) hd (k p e s m args below meth c H locs ls C q)
theorem aw_ldc2 {i : Nat} {v : Int64} (hd : decode μ.2.1 pc = .ok (.ldc2_w i, 3)) (hw : Cond.constantLong μ.1.cls i v ∈ tb) (k : AW G μ R Z X z0 (pc + 3) lo (.long v :: st) E iv lv) : AW G μ R Z X z0 pc lo st E iv lv :=
  fun p e s m args below meth c H locs ls C q => lv_ldc2 C.1 C.2.1 C.2.2.2.2.2.1 (C.2.2.2.2.2.2.1 _ hw) hd (k p e s m args below meth c H locs ls C q)
theorem aw_iload_n {i : Fin 4} {x : Int32} (hd : decode μ.2.1 pc = .ok (.iload_n i, 1)) (hl : lo[(i : Nat)]? = some (some (.int x))) (k : AW G μ R Z X z0 (pc + 1) lo (.int x :: st) E iv lv) : AW G μ R Z X z0 pc lo st E iv lv :=
  fun p e s m args below meth c H locs ls C q => lv_iload_n C.1 C.2.1 hd rfl (q.2.2.2.2.2.2.1.2.2 _ _ hl) (k p e s m args below meth c H locs ls C q)
theorem aw_iload {i : Nat} {x : Int32} (hd : decode μ.2.1 pc = .ok (.iload i, 2)) (hl : lo[i]? = some (some (.int x))) (k : AW G μ R Z X z0 (pc + 2) lo (.int x :: st) E iv lv) : AW G μ R Z X z0 pc lo st E iv lv :=
  fun p e s m args below meth c H locs ls C q => lv_iload C.1 C.2.1 hd (q.2.2.2.2.2.2.1.2.2 _ _ hl) (k p e s m args below meth c H locs ls C q)
theorem aw_lload_n {i : Fin 4} {x : Int64} (hd : decode μ.2.1 pc = .ok (.lload_n i, 1)) (hl : lo[(i : Nat)]? = some (some (.long x))) (k : AW G μ R Z X z0 (pc + 1) lo (.long x :: st) E iv lv) : AW G μ R Z X z0 pc lo st E iv lv :=
  fun p e s m args below meth c H locs ls C q => lv_lload_n C.1 C.2.1 hd rfl (q.2.2.2.2.2.2.1.2.2 _ _ hl) (k p e s m args below meth c H locs ls C q)
theorem aw_lload {i : Nat} {x : Int64} (hd : decode μ.2.1 pc = .ok (.lload i, 2)) (hl : lo[i]? = some (some (.long x))) (k : AW G μ R Z X z0 (pc + 2) lo (.long x :: st) E iv lv) : AW G μ R Z X z0 pc lo st E iv lv :=
  fun p e s m args below meth c H locs ls C q => lv_lload C.1 C.2.1 hd (q.2.2.2.2.2.2.1.2.2 _ _ hl) (k p e s m args below meth c H locs ls C q)
theorem aw_aload_n {i : Fin 4} {x : Nat} (hd : decode μ.2.1 pc = .ok (.aload_n i, 1)) (hl : lo[(i : Nat)]? = some (some (.ref x))) (k : AW G μ R Z X z0 (pc + 1) lo (.ref x :: st) E iv lv) : AW G μ R Z X z0 pc lo st E iv lv :=
  fun p e s m args below meth c H locs ls C q => lv_aload_n C.1 C.2.1 hd rfl (q.2.2.2.2.2.2.1.2.2 _ _ hl) (k p e s m args below meth c H locs ls C q)
theorem aw_aload {i : Nat} {x : Nat} (hd : decode μ.2.1 pc = .ok (.aload i, 2)) (hl : lo[i]? = some (some (.ref x))) (k : AW G μ R Z X z0 (pc + 2) lo (.ref x :: st) E iv lv) : AW G μ R Z X z0 pc lo st E iv lv :=
  fun p e s m args below meth c H locs ls C q => lv_aload C.1 C.2.1 hd (q.2.2.2.2.2.2.1.2.2 _ _ hl) (k p e s m args below meth c H locs ls C q)
theorem WQ.to {lo' : List (Option Value)} {s : State} {H : Heap} {locs : List Loc} {ls ls' : Array Slot} (q : WQ G μ X z0 lo E iv lv s H locs ls) (h : aL ls' lo') (hn : lo'.length = lo.length) : WQ G μ X z0 lo' E iv lv s H locs ls' :=
  ⟨q.1, q.2.1, q.2.2.1, q.2.2.2.1, q.2.2.2.2.1, q.2.2.2.2.2.1, h, hn.trans q.2.2.2.2.2.2.2⟩
theorem st1_length (lo : List (Option Value)) (i : Nat) (v : Value) : (st1 lo i v).length = lo.length := by rw [st1, List.length_set, kp_length]
theorem st2_length (lo : List (Option Value)) (i : Nat) (v : Value) : (st2 lo i v).length = lo.length := by rw [st2, List.length_set, List.length_set, kp_length]
theorem aw_istore_n {i : Fin 4} {x : Int32} {lo' : List (Option Value)} (hd : decode μ.2.1 pc = .ok (.istore_n i, 1)) (hi : (i : Nat) < lo.length) (hl : st1 lo i (.int x) = lo') (k : AW G μ R Z X z0 (pc + 1) lo' st E iv lv) : AW G μ R Z X z0 pc lo (.int x :: st) E iv lv :=
  fun p e s m args below meth c H locs ls C q => lv_istore_n (nL := lo.length) C.1 C.2.1 hd rfl (aL_has q.2.2.2.2.2.2.1) hi rfl (fun ls' h => k p e s m args below meth c H locs ls' C (by subst hl; exact q.to (aL_st1 rfl hi h) (st1_length _ _ _)))
theorem aw_istore {i : Nat} {x : Int32} {lo' : List (Option Value)} (hd : decode μ.2.1 pc = .ok (.istore i, 2)) (hi : i < lo.length) (hl : st1 lo i (.int x) = lo') (k : AW G μ R Z X z0 (pc + 2) lo' st E iv lv) : AW G μ R Z X z0 pc lo (.int x :: st) E iv lv :=
  fun p e s m args below meth c H locs ls C q => lv_istore (nL := lo.length) C.1 C.2.1 hd (aL_has q.2.2.2.2.2.2.1) hi rfl (fun ls' h => k p e s m args below meth c H locs ls' C (by subst hl; exact q.to (aL_st1 rfl hi h) (st1_length _ _ _)))
theorem aw_astore_n {i : Fin 4} {x : Nat} {lo' : List (Option Value)} (hd : decode μ.2.1 pc = .ok (.astore_n i, 1)) (hi : (i : Nat) < lo.length) (hl : st1 lo i (.ref x) = lo') (k : AW G μ R Z X z0 (pc + 1) lo' st E iv lv) : AW G μ R Z X z0 pc lo (.ref x :: st) E iv lv :=
  fun p e s m args below meth c H locs ls C q => lv_astore_n (nL := lo.length) C.1 C.2.1 hd rfl (aL_has q.2.2.2.2.2.2.1) hi rfl (fun ls' h => k p e s m args below meth c H locs ls' C (by subst hl; exact q.to (aL_st1 rfl hi h) (st1_length _ _ _)))
theorem aw_astore {i : Nat} {x : Nat} {lo' : List (Option Value)} (hd : decode μ.2.1 pc = .ok (.astore i, 2)) (hi : i < lo.length) (hl : st1 lo i (.ref x) = lo') (k : AW G μ R Z X z0 (pc + 2) lo' st E iv lv) : AW G μ R Z X z0 pc lo (.ref x :: st) E iv lv :=
  fun p e s m args below meth c H locs ls C q => lv_astore (nL := lo.length) C.1 C.2.1 hd (aL_has q.2.2.2.2.2.2.1) hi rfl (fun ls' h => k p e s m args below meth c H locs ls' C (by subst hl; exact q.to (aL_st1 rfl hi h) (st1_length _ _ _)))
theorem aw_lstore_n {i : Fin 4} {x : Int64} {lo' : List (Option Value)} (hd : decode μ.2.1 pc = .ok (.lstore_n i, 1)) (hi : (i : Nat) + 1 < lo.length) (hl : st2 lo i (.long x) = lo') (k : AW G μ R Z X z0 (pc + 1) lo' st E iv lv) : AW G μ R Z X z0 pc lo (.long x :: st) E iv lv :=
  fun p e s m args below meth c H locs ls C q => lv_lstore_n (nL := lo.length) C.1 C.2.1 hd rfl (aL_has q.2.2.2.2.2.2.1) hi rfl (fun ls' h => k p e s m args below meth c H locs ls' C (by subst hl; exact q.to (aL_st2 rfl hi h) (st2_length _ _ _)))
theorem aw_lstore {i : Nat} {x : Int64} {lo' : List (Option Value)} (hd : decode μ.2.1 pc = .ok (.lstore i, 2)) (hi : i + 1 < lo.length) (hl : st2 lo i (.long x) = lo') (k : AW G μ R Z X z0 (pc + 2) lo' st E iv lv) : AW G μ R Z X z0 pc lo (.long x :: st) E iv lv :=
  fun p e s m args below meth c H locs ls C q => lv_lstore (nL := lo.length) C.1 C.2.1 hd (aL_has q.2.2.2.2.2.2.1) hi rfl (fun ls' h => k p e s m args below meth c H locs ls' C (by subst hl; exact q.to (aL_st2 rfl hi h) (st2_length _ _ _)))
theorem aw_iinc {i : Nat} {n : Int} {x v : Int32} {lo' : List (Option Value)} (hd : decode μ.2.1 pc = .ok (.iinc i n, 3)) (hg : lo[i]? = some (some (.int x))) (hv : x + Int32.ofInt n = v) (hl : st1 lo i (.int v) = lo') (k : AW G μ R Z X z0 (pc + 3) lo' st E iv lv) : AW G μ R Z X z0 pc lo st E iv lv :=
  fun p e s m args below meth c H locs ls C q => by
    have hi : i < lo.length := (List.getElem?_eq_some_iff.mp hg).1
    obtain ⟨k0, hk0⟩ := List.getElem?_of_mem ((en_mem lo 0 (i, .int x)).mpr ⟨i, hg, by simp⟩)
    exact lv_iinc (nL := lo.length) C.1 C.2.1 hd (aL_has q.2.2.2.2.2.2.1) hk0 hv hi rfl (fun ls' h => k p e s m args below meth c H locs ls' C (by subst hl; exact q.to (aL_st1 rfl hi h) (st1_length _ _ _)))
theorem aw_iadd {x y : Int32} (hd : decode μ.2.1 pc = .ok (.iadd, 1)) (k : AW G μ R Z X z0 (pc + 1) lo (.int (x + y) :: st) E iv lv) : AW G μ R Z X z0 pc lo (.int y :: .int x :: st) E iv lv :=
  fun p e s m args below meth c H locs ls C q => lv_iadd C.1 C.2.1 hd (k p e s m args below meth c H locs ls C q)
theorem aw_isub {x y : Int32} (hd : decode μ.2.1 pc = .ok (.isub, 1)) (k : AW G μ R Z X z0 (pc + 1) lo (.int (x - y) :: st) E iv lv) : AW G μ R Z X z0 pc lo (.int y :: .int x :: st) E iv lv :=
  fun p e s m args below meth c H locs ls C q => lv_isub C.1 C.2.1 hd (k p e s m args below meth c H locs ls C q)
theorem aw_imul {x y : Int32} (hd : decode μ.2.1 pc = .ok (.imul, 1)) (k : AW G μ R Z X z0 (pc + 1) lo (.int (x * y) :: st) E iv lv) : AW G μ R Z X z0 pc lo (.int y :: .int x :: st) E iv lv :=
  fun p e s m args below meth c H locs ls C q => lv_imul C.1 C.2.1 hd (k p e s m args below meth c H locs ls C q)
theorem aw_iand {x y : Int32} (hd : decode μ.2.1 pc = .ok (.iand, 1)) (k : AW G μ R Z X z0 (pc + 1) lo (.int (x &&& y) :: st) E iv lv) : AW G μ R Z X z0 pc lo (.int y :: .int x :: st) E iv lv :=
  fun p e s m args below meth c H locs ls C q => lv_iand C.1 C.2.1 hd (k p e s m args below meth c H locs ls C q)
theorem aw_ior {x y : Int32} (hd : decode μ.2.1 pc = .ok (.ior, 1)) (k : AW G μ R Z X z0 (pc + 1) lo (.int (x ||| y) :: st) E iv lv) : AW G μ R Z X z0 pc lo (.int y :: .int x :: st) E iv lv :=
  fun p e s m args below meth c H locs ls C q => lv_ior C.1 C.2.1 hd (k p e s m args below meth c H locs ls C q)
theorem aw_ishl {x y : Int32} (hd : decode μ.2.1 pc = .ok (.ishl, 1)) (k : AW G μ R Z X z0 (pc + 1) lo (.int (x <<< (y &&& 31)) :: st) E iv lv) : AW G μ R Z X z0 pc lo (.int y :: .int x :: st) E iv lv :=
  fun p e s m args below meth c H locs ls C q => lv_ishl C.1 C.2.1 hd (k p e s m args below meth c H locs ls C q)
theorem aw_ishr {x y : Int32} (hd : decode μ.2.1 pc = .ok (.ishr, 1)) (k : AW G μ R Z X z0 (pc + 1) lo (.int (x >>> (y &&& 31)) :: st) E iv lv) : AW G μ R Z X z0 pc lo (.int y :: .int x :: st) E iv lv :=
  fun p e s m args below meth c H locs ls C q => lv_ishr C.1 C.2.1 hd (k p e s m args below meth c H locs ls C q)
theorem aw_idiv {x y : Int32} (hd : decode μ.2.1 pc = .ok (.idiv, 1)) (hn : ¬ y = 0) (k : AW G μ R Z X z0 (pc + 1) lo (.int (x / y) :: st) E iv lv) : AW G μ R Z X z0 pc lo (.int y :: .int x :: st) E iv lv :=
  fun p e s m args below meth c H locs ls C q => lv_idiv C.1 C.2.1 hd hn (k p e s m args below meth c H locs ls C q)
theorem aw_irem {x y : Int32} (hd : decode μ.2.1 pc = .ok (.irem, 1)) (hn : ¬ y = 0) (k : AW G μ R Z X z0 (pc + 1) lo (.int (x - x / y * y) :: st) E iv lv) : AW G μ R Z X z0 pc lo (.int y :: .int x :: st) E iv lv :=
  fun p e s m args below meth c H locs ls C q => lv_irem C.1 C.2.1 hd hn (k p e s m args below meth c H locs ls C q)
theorem aw_ladd {x y : Int64} (hd : decode μ.2.1 pc = .ok (.ladd, 1)) (k : AW G μ R Z X z0 (pc + 1) lo (.long (x + y) :: st) E iv lv) : AW G μ R Z X z0 pc lo (.long y :: .long x :: st) E iv lv :=
  fun p e s m args below meth c H locs ls C q => lv_ladd C.1 C.2.1 hd (k p e s m args below meth c H locs ls C q)
theorem aw_lmul {x y : Int64} (hd : decode μ.2.1 pc = .ok (.lmul, 1)) (k : AW G μ R Z X z0 (pc + 1) lo (.long (x * y) :: st) E iv lv) : AW G μ R Z X z0 pc lo (.long y :: .long x :: st) E iv lv :=
  fun p e s m args below meth c H locs ls C q => lv_lmul C.1 C.2.1 hd (k p e s m args below meth c H locs ls C q)
theorem aw_ldiv {x y : Int64} (hd : decode μ.2.1 pc = .ok (.ldiv, 1)) (hn : ¬ y = 0) (k : AW G μ R Z X z0 (pc + 1) lo (.long (x / y) :: st) E iv lv) : AW G μ R Z X z0 pc lo (.long y :: .long x :: st) E iv lv :=
  fun p e s m args below meth c H locs ls C q => lv_ldiv C.1 C.2.1 hd hn (k p e s m args below meth c H locs ls C q)
theorem aw_lrem {x y : Int64} (hd : decode μ.2.1 pc = .ok (.lrem, 1)) (hn : ¬ y = 0) (k : AW G μ R Z X z0 (pc + 1) lo (.long (x - x / y * y) :: st) E iv lv) : AW G μ R Z X z0 pc lo (.long y :: .long x :: st) E iv lv :=
  fun p e s m args below meth c H locs ls C q => lv_lrem C.1 C.2.1 hd hn (k p e s m args below meth c H locs ls C q)
theorem aw_i2l {x : Int32} (hd : decode μ.2.1 pc = .ok (.i2l, 1)) (k : AW G μ R Z X z0 (pc + 1) lo (.long x.toInt64 :: st) E iv lv) : AW G μ R Z X z0 pc lo (.int x :: st) E iv lv :=
  fun p e s m args below meth c H locs ls C q => lv_i2l C.1 C.2.1 hd rfl (k p e s m args below meth c H locs ls C q)
theorem aw_l2i {x : Int64} (hd : decode μ.2.1 pc = .ok (.l2i, 1)) (k : AW G μ R Z X z0 (pc + 1) lo (.int x.toInt32 :: st) E iv lv) : AW G μ R Z X z0 pc lo (.long x :: st) E iv lv :=
  fun p e s m args below meth c H locs ls C q => lv_l2i C.1 C.2.1 hd rfl (k p e s m args below meth c H locs ls C q)
theorem aw_i2b {x : Int32} (hd : decode μ.2.1 pc = .ok (.i2b, 1)) (k : AW G μ R Z X z0 (pc + 1) lo (.int x.toInt8.toInt32 :: st) E iv lv) : AW G μ R Z X z0 pc lo (.int x :: st) E iv lv :=
  fun p e s m args below meth c H locs ls C q => lv_i2b C.1 C.2.1 hd rfl (k p e s m args below meth c H locs ls C q)
theorem aw_dup {v : Value} (hd : decode μ.2.1 pc = .ok (.dup, 1)) (hc : v.category = 1) (k : AW G μ R Z X z0 (pc + 1) lo (v :: v :: st) E iv lv) : AW G μ R Z X z0 pc lo (v :: st) E iv lv :=
  fun p e s m args below meth c H locs ls C q => lv_dup C.1 C.2.1 hd hc (k p e s m args below meth c H locs ls C q)
theorem aw_dup2 {va vb : Value} (hd : decode μ.2.1 pc = .ok (.dup2, 1)) (ha : va.category = 1) (hb : vb.category = 1) (k : AW G μ R Z X z0 (pc + 1) lo (va :: vb :: va :: vb :: st) E iv lv) : AW G μ R Z X z0 pc lo (va :: vb :: st) E iv lv :=
  fun p e s m args below meth c H locs ls C q => lv_dup2_11 C.1 C.2.1 hd ha hb (k p e s m args below meth c H locs ls C q)
theorem aw_if_eq {x : Int32} {off : Int} {tgt : Nat} (hd : decode μ.2.1 pc = .ok (.ifCond .eq off, 3)) (ht : (pc : Int) + off = (tgt : Int)) (kt : x = 0 → AW G μ R Z X z0 tgt lo st E iv lv) (kf : ¬ x = 0 → AW G μ R Z X z0 (pc + 3) lo st E iv lv) : AW G μ R Z X z0 pc lo (.int x :: st) E iv lv :=
  fun p e s m args below meth c H locs ls C q => lv_if_eq C.1 C.2.1 hd ht (fun h => kt h p e s m args below meth c H locs ls C q) (fun h => kf h p e s m args below meth c H locs ls C q)
theorem aw_icmp_eq {x y : Int32} {off : Int} {tgt : Nat} (hd : decode μ.2.1 pc = .ok (.if_icmp .eq off, 3)) (ht : (pc : Int) + off = (tgt : Int)) (kt : x = y → AW G μ R Z X z0 tgt lo st E iv lv) (kf : ¬ x = y → AW G μ R Z X z0 (pc + 3) lo st E iv lv) : AW G μ R Z X z0 pc lo (.int y :: .int x :: st) E iv lv :=
  fun p e s m args below meth c H locs ls C q => lv_icmp_eq C.1 C.2.1 hd ht (fun h => kt h p e s m args below meth c H locs ls C q) (fun h => kf h p e s m args below meth c H locs ls C q)
theorem aw_if_ne {x : Int32} {off : Int} {tgt : Nat} (hd : decode μ.2.1 pc = .ok (.ifCond .ne off, 3)) (ht : (pc : Int) + off = (tgt : Int)) (kt : ¬ x = 0 → AW G μ R Z X z0 tgt lo st E iv lv) (kf : x = 0 → AW G μ R Z X z0 (pc + 3) lo st E iv lv) : AW G μ R Z X z0 pc lo (.int x :: st) E iv lv :=
  fun p e s m args below meth c H locs ls C q => lv_if_ne C.1 C.2.1 hd ht (fun h => kt h p e s m args below meth c H locs ls C q) (fun h => kf h p e s m args below meth c H locs ls C q)
theorem aw_icmp_ne {x y : Int32} {off : Int} {tgt : Nat} (hd : decode μ.2.1 pc = .ok (.if_icmp .ne off, 3)) (ht : (pc : Int) + off = (tgt : Int)) (kt : ¬ x = y → AW G μ R Z X z0 tgt lo st E iv lv) (kf : x = y → AW G μ R Z X z0 (pc + 3) lo st E iv lv) : AW G μ R Z X z0 pc lo (.int y :: .int x :: st) E iv lv :=
  fun p e s m args below meth c H locs ls C q => lv_icmp_ne C.1 C.2.1 hd ht (fun h => kt h p e s m args below meth c H locs ls C q) (fun h => kf h p e s m args below meth c H locs ls C q)
theorem aw_if_lt {x : Int32} {off : Int} {tgt : Nat} (hd : decode μ.2.1 pc = .ok (.ifCond .lt off, 3)) (ht : (pc : Int) + off = (tgt : Int)) (kt : x < 0 → AW G μ R Z X z0 tgt lo st E iv lv) (kf : ¬ x < 0 → AW G μ R Z X z0 (pc + 3) lo st E iv lv) : AW G μ R Z X z0 pc lo (.int x :: st) E iv lv :=
  fun p e s m args below meth c H locs ls C q => lv_if_lt C.1 C.2.1 hd ht (fun h => kt h p e s m args below meth c H locs ls C q) (fun h => kf h p e s m args below meth c H locs ls C q)
theorem aw_icmp_lt {x y : Int32} {off : Int} {tgt : Nat} (hd : decode μ.2.1 pc = .ok (.if_icmp .lt off, 3)) (ht : (pc : Int) + off = (tgt : Int)) (kt : x < y → AW G μ R Z X z0 tgt lo st E iv lv) (kf : ¬ x < y → AW G μ R Z X z0 (pc + 3) lo st E iv lv) : AW G μ R Z X z0 pc lo (.int y :: .int x :: st) E iv lv :=
  fun p e s m args below meth c H locs ls C q => lv_icmp_lt C.1 C.2.1 hd ht (fun h => kt h p e s m args below meth c H locs ls C q) (fun h => kf h p e s m args below meth c H locs ls C q)
theorem aw_if_ge {x : Int32} {off : Int} {tgt : Nat} (hd : decode μ.2.1 pc = .ok (.ifCond .ge off, 3)) (ht : (pc : Int) + off = (tgt : Int)) (kt : 0 ≤ x → AW G μ R Z X z0 tgt lo st E iv lv) (kf : ¬ 0 ≤ x → AW G μ R Z X z0 (pc + 3) lo st E iv lv) : AW G μ R Z X z0 pc lo (.int x :: st) E iv lv :=
  fun p e s m args below meth c H locs ls C q => lv_if_ge C.1 C.2.1 hd ht (fun h => kt h p e s m args below meth c H locs ls C q) (fun h => kf h p e s m args below meth c H locs ls C q)
theorem aw_icmp_ge {x y : Int32} {off : Int} {tgt : Nat} (hd : decode μ.2.1 pc = .ok (.if_icmp .ge off, 3)) (ht : (pc : Int) + off = (tgt : Int)) (kt : y ≤ x → AW G μ R Z X z0 tgt lo st E iv lv) (kf : ¬ y ≤ x → AW G μ R Z X z0 (pc + 3) lo st E iv lv) : AW G μ R Z X z0 pc lo (.int y :: .int x :: st) E iv lv :=
  fun p e s m args below meth c H locs ls C q => lv_icmp_ge C.1 C.2.1 hd ht (fun h => kt h p e s m args below meth c H locs ls C q) (fun h => kf h p e s m args below meth c H locs ls C q)
theorem aw_if_gt {x : Int32} {off : Int} {tgt : Nat} (hd : decode μ.2.1 pc = .ok (.ifCond .gt off, 3)) (ht : (pc : Int) + off = (tgt : Int)) (kt : 0 < x → AW G μ R Z X z0 tgt lo st E iv lv) (kf : ¬ 0 < x → AW G μ R Z X z0 (pc + 3) lo st E iv lv) : AW G μ R Z X z0 pc lo (.int x :: st) E iv lv :=
  fun p e s m args below meth c H locs ls C q => lv_if_gt C.1 C.2.1 hd ht (fun h => kt h p e s m args below meth c H locs ls C q) (fun h => kf h p e s m args below meth c H locs ls C q)
theorem aw_icmp_gt {x y : Int32} {off : Int} {tgt : Nat} (hd : decode μ.2.1 pc = .ok (.if_icmp .gt off, 3)) (ht : (pc : Int) + off = (tgt : Int)) (kt : y < x → AW G μ R Z X z0 tgt lo st E iv lv) (kf : ¬ y < x → AW G μ R Z X z0 (pc + 3) lo st E iv lv) : AW G μ R Z X z0 pc lo (.int y :: .int x :: st) E iv lv :=
  fun p e s m args below meth c H locs ls C q => lv_icmp_gt C.1 C.2.1 hd ht (fun h => kt h p e s m args below meth c H locs ls C q) (fun h => kf h p e s m args below meth c H locs ls C q)
theorem aw_if_le {x : Int32} {off : Int} {tgt : Nat} (hd : decode μ.2.1 pc = .ok (.ifCond .le off, 3)) (ht : (pc : Int) + off = (tgt : Int)) (kt : x ≤ 0 → AW G μ R Z X z0 tgt lo st E iv lv) (kf : ¬ x ≤ 0 → AW G μ R Z X z0 (pc + 3) lo st E iv lv) : AW G μ R Z X z0 pc lo (.int x :: st) E iv lv :=
  fun p e s m args below meth c H locs ls C q => lv_if_le C.1 C.2.1 hd ht (fun h => kt h p e s m args below meth c H locs ls C q) (fun h => kf h p e s m args below meth c H locs ls C q)
theorem aw_icmp_le {x y : Int32} {off : Int} {tgt : Nat} (hd : decode μ.2.1 pc = .ok (.if_icmp .le off, 3)) (ht : (pc : Int) + off = (tgt : Int)) (kt : x ≤ y → AW G μ R Z X z0 tgt lo st E iv lv) (kf : ¬ x ≤ y → AW G μ R Z X z0 (pc + 3) lo st E iv lv) : AW G μ R Z X z0 pc lo (.int y :: .int x :: st) E iv lv :=
  fun p e s m args below meth c H locs ls C q => lv_icmp_le C.1 C.2.1 hd ht (fun h => kt h p e s m args below meth c H locs ls C q) (fun h => kf h p e s m args below meth c H locs ls C q)
theorem aw_lcmp {x y : Int64} (hd : decode μ.2.1 pc = .ok (.lcmp, 1)) (k : AW G μ R Z X z0 (pc + 1) lo (.int (lg_cmp x y) :: st) E iv lv) : AW G μ R Z X z0 pc lo (.long y :: .long x :: st) E iv lv :=
  fun p e s m args below meth c H locs ls C q => W.lcmp C.1 C.2.1 hd (k p e s m args below meth c H locs ls C q)
theorem aw_goto {off : Int} {tgt : Nat} (hd : decode μ.2.1 pc = .ok (.goto off, 3)) (ht : (pc : Int) + off = (tgt : Int)) (k : AW G μ R Z X z0 tgt lo st E iv lv) : AW G μ R Z X z0 pc lo st E iv lv :=
  fun p e s m args below meth c H locs ls C q => lv_goto C.1 C.2.1 hd ht (k p e s m args below meth c H locs ls C q)
theorem aw_tableOut {dflt lw hi : Int} {offs : Array Int} {len : Nat} {x : Int32} {tgt : Nat} (hd : decode μ.2.1 pc = .ok (.tableswitch dflt lw hi offs, len)) (h : x.toInt < lw ∨ hi < x.toInt) (ht : (pc : Int) + dflt = (tgt : Int)) (k : AW G μ R Z X z0 tgt lo st E iv lv) : AW G μ R Z X z0 pc lo (.int x :: st) E iv lv :=
  fun p e s m args below meth c H locs ls C q => lv_tableOut C.1 C.2.1 hd h ht (k p e s m args below meth c H locs ls C q)
theorem aw_tableIn {dflt lw hi : Int} {offs : Array Int} {len : Nat} {x : Int32} {off : Int} {tgt : Nat} (hd : decode μ.2.1 pc = .ok (.tableswitch dflt lw hi offs, len)) (h1 : ¬ x.toInt < lw) (h2 : ¬ hi < x.toInt) (ho : offs[(x.toInt - lw).toNat]? = some off) (ht : (pc : Int) + off = (tgt : Int)) (k : AW G μ R Z X z0 tgt lo st E iv lv) : AW G μ R Z X z0 pc lo (.int x :: st) E iv lv :=
  fun p e s m args below meth c H locs ls C q => lv_tableIn C.1 C.2.1 hd h1 h2 ho ht (k p e s m args below meth c H locs ls C q)
theorem aw_lookup {dflt : Int} {ps : Array (Int × Int)} {len : Nat} {x : Int32} {off : Int} {tgt : Nat} (hd : decode μ.2.1 pc = .ok (.lookupswitch dflt ps, len)) (hp : (ps.toList.zip (ps.toList.drop 1)).all (fun (a, next) => a.1 < next.1) = true) (ho : Op.lookupswitch.offset ps.toList dflt x.toInt = off) (ht : (pc : Int) + off = (tgt : Int)) (k : AW G μ R Z X z0 tgt lo st E iv lv) : AW G μ R Z X z0 pc lo (.int x :: st) E iv lv :=
  fun p e s m args below meth c H locs ls C q => lv_lookup C.1 C.2.1 hd hp ho ht (k p e s m args below meth c H locs ls C q)
end AWS
end
section
/-! Fields, arrays, returns, contracts and calls of the flat machine. -/
theorem one_P {D : va_G} {cl : List vw_C} {a : Nat} {e : va_E} {H : Heap} (h : va_at D cl (a, e) H) : va_P D cl [(a, e)] H := fun k q hk => by
  have hz : k < 1 := (List.getElem?_eq_some_iff.mp hk).1
  rw [show k = 0 by omega] at hk
  cases hk
  exact h
def CF (t : Nat) (C : String) (T : u_T) (N : Nat) : Prop := vwCl[t]? = some (C, T, N) ∧ N = nF t ∧ t < 20 ∧ (∀ w ∈ u_ws C T N, w ∈ tb) ∧ (∀ k, k < N → parseFieldDescriptor (T k).2.2.1 = some (tyT t k)) ∧ (∀ a, a < N → ∀ b, b < N → a ≠ b → (T a).2.1 ≠ (T b).2.1)
/-- a field: slot k of the class t, by the number idx of the class own's pool -/
def FG (own : String) (idx t k : Nat) : Prop := ∃ C T N, CF t C T N ∧ k < N ∧ Cond.fieldLink own idx (T k).1 (T k).2.1 (T k).2.2.1 ∈ tb
def FL (own : String) (idx t k : Nat) (fin : Bool) : Prop := ∃ C T N, CF t C T N ∧ k < N ∧ Cond.fieldLink own idx (T k).1 (T k).2.1 (T k).2.2.1 ∈ tb ∧ (T k).2.2.2 = fin ∧ (fin = true → (T k).1 = own)
theorem ce_o {dT : Nat → ClassId} {E : SH} {iv : IV} {lv : LV} {a t n : Nat} (h : E.2.1 a = (t, n)) (ht : t < 20) : ce dT E iv lv a = .inr (t, (List.range (nF t)).map (fv E.2.2 iv lv t a)) := by
  unfold ce
  rw [h, if_pos ht]
theorem ce_i {dT : Nat → ClassId} {E : SH} {iv : IV} {lv : LV} {a t n : Nat} (h : E.2.1 a = (t, n)) (h1 : 20 ≤ t) (h2 : t < 22) : ce dT E iv lv a = .inl (dT (t - 20), n, .inl (iv a)) := by
  unfold ce
  rw [h, if_neg (by simp; omega), if_pos h2]
theorem ce_r {dT : Nat → ClassId} {E : SH} {iv : IV} {lv : LV} {a t n : Nat} (h : E.2.1 a = (t, n)) (h1 : 22 ≤ t) : ce dT E iv lv a = .inl (dT (t - 20), n, .inr (.inr (.inr (.inr (E.2.2 a))))) := by
  unfold ce
  rw [h, if_neg (by simp; omega), if_neg (by simp; omega)]
theorem ce_eq {dT : Nat → ClassId} {E E' : SH} {iv iv' : IV} {lv lv' : LV} {b : Nat} (h : E'.2.1 b = E.2.1 b) (hr : E'.2.2 b = E.2.2 b) (hi : iv' b = iv b) (hl : lv' b = lv b) : ce dT E' iv' lv' b = ce dT E iv lv b := by
  have e : ∀ k, fv E'.2.2 iv' lv' (E.2.1 b).1 b k = fv E.2.2 iv lv (E.2.1 b).1 b k := fun k => by
    unfold fv
    rw [hr, hi, hl]
  unfold ce
  rw [h, hr, hi, List.map_congr_left (fun k _ => e k)]
def rm (d mc : Nat) : Room := { frames := d, cells := mc, slots := 2500 * mc, locals := 100 * d }
/-- the room that is left -/
def RB (R : Room) (z0 : Nat) (E : SH) (k mc : Nat) : Prop := k ≤ R.frames ∧ 100 * k ≤ R.locals ∧ E.1 - z0 + mc ≤ R.cells ∧ 2500 * (E.1 - z0) + 2500 * mc ≤ R.slots
theorem rb0 {D k : Nat} {E : SH} (h : k ≤ D) : RB (rm D 0) E.1 E k 0 := ⟨h, Nat.mul_le_mul_left 100 h, by simp [rm], by simp [rm]⟩
def QM (G : GC) (Q : Option Value → SH → IV → LV → Prop) : Array Value → State → Outcome → State → Prop := fun _ s o t => (∃ (r : Option Value) (E' : SH) (iv' : IV) (lv' : LV), o = .returned r ∧ Q r E' iv' lv' ∧ wd G E' iv' lv' t t.heap) ∧ va_F (fun q => gB G ≤ q) s t
def PM (G : GC) (E : SH) (iv : IV) (lv : LV) : State → Prop := fun U => U.heap.size = E.1 ∧ SF G U U.heap ∧ wd G E iv lv U U.heap
def Spec (G : GC) (μ : MI) (d mc : Nat) (av : List Value) (E : SH) (iv : IV) (lv : LV) (Q : Option Value → SH → IV → LV → Prop) : Prop :=
  Met (gL G) μ.1 (Cond.code μ.1 μ.2.1 μ.2.2.1 μ.2.2.2 :: tb) (rm d mc) (va_Pc av (PM G E iv lv)) (QM G Q) mc (2500 * mc) (fun q => gB G ≤ q)
/-- a contract that makes no cell -/
def Spec0 (G : GC) (μ : MI) (d : Nat) (av : List Value) (E : SH) (iv : IV) (lv : LV) (Q : Option Value → IV → LV → Prop) : Prop := Spec G μ d 0 av E iv lv (fun r E' iv' lv' => E' = E ∧ Q r iv' lv')
def ZM (G : GC) (R : Room) (Q : Option Value → SH → IV → LV → Prop) : List Frame → Array Value → State → State → Prop := fun below args s => MQ below (QM G Q) args s R.cells R.slots (fun q => gB G ≤ q)
def Z0 (G : GC) (d : Nat) (E : SH) (Q : Option Value → IV → LV → Prop) : List Frame → Array Value → State → State → Prop := ZM G (rm d 0) (fun r E' iv' lv' => E' = E ∧ Q r iv' lv')
def enL : List Value → List (Option Value)
  | [] => []
  | v :: vs => if v.category = 2 then some v :: none :: enL vs else some v :: enL vs
theorem enL_length : ∀ vs : List Value, (enL vs).length = (lg_sl vs).length
  | [] => rfl
  | v :: vs => by
    have ih := enL_length vs
    unfold lg_sl at ih ⊢
    rw [enL, List.flatMap_cons]
    split <;> simp [ih] <;> omega
theorem enL_at : ∀ (vs : List Value) (i0 i : Nat) (v : Value), (enL vs)[i]? = some (some v) → (i0 + i, v) ∈ lv_args i0 vs
  | [], _, _, _, h => by simp [enL] at h
  | w :: vs, i0, i, v, h => by
    rw [enL] at h
    rw [lv_args, List.mem_cons]
    split at h
    · rename_i hc
      rw [if_pos hc]
      match i, h with
      | 0, h =>
        simp at h
        left
        rw [h]; rfl
      | 1, h => simp at h
      | i + 2, h =>
        right
        have := enL_at vs (i0 + 2) i v (by simpa using h)
        rw [show i0 + (i + 2) = i0 + 2 + i by omega]
        exact this
    · rename_i hc
      rw [if_neg hc]
      match i, h with
      | 0, h =>
        simp at h
        left
        rw [h]; rfl
      | i + 1, h =>
        right
        have := enL_at vs (i0 + 1) i v (by simpa using h)
        rw [show i0 + (i + 1) = i0 + 1 + i by omega]
        exact this
theorem wd.moved {G : GC} {E : SH} {iv : IV} {lv : LV} {s t : State} {H : Heap} (hv : s.vm.Alike t.vm) (h : wd G E iv lv s H) : wd G E iv lv t H := ⟨va_K.moved hv h.1, h.2⟩
theorem SF.moved {G : GC} {s t : State} {H : Heap} (hv : s.vm.Alike t.vm) (h : SF G s H) : SF G t H := ⟨h.1.moved hv, h.2.1.moved hv, fun q hq => (h.2.2 q hq).moved hv⟩
theorem PM.blind {G : GC} {E : SH} {iv : IV} {lv : LV} {av : List Value} : FrameBlind (va_Pc av (PM G E iv lv)) := fun a U g mk q => by
  obtain ⟨q0, q1, q2, q3⟩ := q
  exact ⟨q0, q1, SF.moved (s := U) (t := U.calling g mk a) (Vm.Alike.refl U.vm) q2, wd.moved (s := U) (t := U.calling g mk a) (Vm.Alike.refl U.vm) q3⟩
theorem spec_of {G : GC} {μ : MI} {d mc : Nat} {av : List Value} {E : SH} {iv : IV} {lv : LV} {Q : Option Value → SH → IV → LV → Prop} {lo : List (Option Value)} (hy : plainName μ.1.cls = true) (hle : (enL av).length ≤ μ.2.2.1) (hl : enL av ++ List.replicate (μ.2.2.1 - (enL av).length) none = lo)
    (k : AW G μ (rm d mc) (ZM G (rm d mc) Q) (fun _ => True) E.1 0 lo [] E iv lv) : Spec G μ d mc av E iv lv Q := by
  refine Met.ofW (cc := μ.2.1) (maxL := μ.2.2.1) (ret := μ.2.2.2) hy rfl ?_
  intro p e s m args below meth c s₁ B hml hv
  obtain ⟨rfl, hz, hF, hw⟩ := hv
  have hts := atoms_spec (ws := Cond.code μ.1 μ.2.1 μ.2.2.1 μ.2.2.2 :: tb) B.pre
  have h0 := lv_entry av (n := μ.2.2.1) (by rw [← enL_length]; exact hle)
  rw [lg_entry_eq]
  generalize (lg_sl av ++ List.replicate (μ.2.2.1 - (lg_sl av).length) Slot.unset).toArray = ls at h0 ⊢
  have hlen : lo.length = μ.2.2.1 := by
    rw [← hl, List.length_append, List.length_replicate]
    omega
  have ha : aL ls lo := by
    refine ⟨by rw [h0.1, hlen], h0.2.1, fun i v hi => ?_⟩
    rw [← hl] at hi
    by_cases q : i < (enL av).length
    · rw [List.getElem?_append_left q] at hi
      have := h0.2.2 _ (enL_at av 0 i v hi)
      simpa using this
    · rw [List.getElem?_append_right (by omega)] at hi
      have := List.eq_of_mem_replicate (List.mem_of_getElem? hi)
      cases this
  have hk := k p e s m av.toArray below meth c s.heap [] ls ⟨B.exec, B.bytes, hml, B.returns, B.notSynchronized, findClass_of_methodNamed B.named, fun w h => hts w (List.mem_cons_of_mem _ h), (name_of_methodNamed B.named B.method).1⟩ ⟨trivial, hz, hw.2.2.2, hF, hw, va_S.rf, ha, hlen⟩
  rw [Nat.sub_self, Nat.mul_zero] at hk
  exact hk
theorem spec0_of {G : GC} {μ : MI} {d : Nat} {av : List Value} {E : SH} {iv : IV} {lv : LV} {Q : Option Value → IV → LV → Prop} {lo : List (Option Value)} (hy : plainName μ.1.cls = true) (hle : (enL av).length ≤ μ.2.2.1) (hl : enL av ++ List.replicate (μ.2.2.1 - (enL av).length) none = lo)
    (k : AW G μ (rm d 0) (Z0 G d E Q) (fun _ => True) E.1 0 lo [] E iv lv) : Spec0 G μ d av E iv lv Q := spec_of hy hle hl k
section AWH
variable {G : GC} {μ : MI} {R : Room} {Z : List Frame → Array Value → State → State → Prop} {X : State → Prop} {z0 pc : Nat} {lo : List (Option Value)} {st : List Value} {E : SH} {iv : IV} {lv : LV}
theorem aw_get0 {v : Value} {idx t k n a : Nat} (hd : decode μ.2.1 pc = .ok (.getfield idx, 3)) (hf : FG μ.1.cls idx t k) (hs : Sh G E a t n) (hv : fv E.2.2 iv lv t a k = v) (kk : AW G μ R Z X z0 (pc + 3) lo (v :: st) E iv lv) : AW G μ R Z X z0 pc lo (.ref a :: st) E iv lv :=
  fun p e s m args below meth c H locs ls C q => by
    obtain ⟨Cn, T, N, ⟨c1, c2, c3, c4, c5, c6⟩, f1, f2⟩ := hf
    obtain ⟨hK, hA, hz, hB⟩ := q.2.2.2.2.1
    have h0 := hA a hs.1 hs.2.1
    rw [ce_o hs.2.2 c3] at h0
    exact va_get (D := gD G) C.1 C.2.1 C.2.2.2.2.2.2.1 c4 C.2.2.2.2.2.1 hK (one_P h0) 0 rfl c1 k f1 (C.2.2.2.2.2.2.1 _ f2) (fun _ h => h) (by rw [List.getElem?_map, List.getElem?_range (by rw [← c2]; exact f1)]; exact congrArg some hv) hd (kk p e s m args below meth c H locs ls C q)
theorem aw_getI {idx t k n a : Nat} (hd : decode μ.2.1 pc = .ok (.getfield idx, 3)) (hf : FG μ.1.cls idx t k) (hty : tyT t k = .int) (hs : Sh G E a t n) (kk : AW G μ R Z X z0 (pc + 3) lo (.int (iv a k) :: st) E iv lv) : AW G μ R Z X z0 pc lo (.ref a :: st) E iv lv := aw_get0 hd hf hs (by unfold fv; rw [hty]) kk
theorem aw_getL {idx t k n a : Nat} (hd : decode μ.2.1 pc = .ok (.getfield idx, 3)) (hf : FG μ.1.cls idx t k) (hty : tyT t k = .long) (hs : Sh G E a t n) (kk : AW G μ R Z X z0 (pc + 3) lo (.long (lv a k) :: st) E iv lv) : AW G μ R Z X z0 pc lo (.ref a :: st) E iv lv := aw_get0 hd hf hs (by unfold fv; rw [hty]) kk
theorem aw_getR {idx t k n a b : Nat} (hd : decode μ.2.1 pc = .ok (.getfield idx, 3)) (hf : FG μ.1.cls idx t k) (hty : (tyT t k).isReference = true) (hs : Sh G E a t n) (hr : E.2.2 a k = some b) (kk : AW G μ R Z X z0 (pc + 3) lo (.ref b :: st) E iv lv) : AW G μ R Z X z0 pc lo (.ref a :: st) E iv lv := aw_get0 hd hf hs (by
  unfold fv
  rw [hr]
  generalize tyT t k = ty at hty
  cases ty <;> first | rfl | (cases hty)) kk
theorem wd.set {s : State} {H H1 : Heap} {E' : SH} {iv' : IV} {lv' : LV} {a : Nat} (h : wd G E iv lv s H) (hE : E'.1 = E.1) (ho : ∀ b, b ≠ a → ce (gA G) E' iv' lv' b = ce (gA G) E iv lv b) (z : H1.size = H.size) (oq : ∀ q : Nat, q ≠ a → H1[q]? = H[q]?) (ha : va_at (gD G) vwCl (a, ce (gA G) E' iv' lv' a) H1) : wd G E' iv' lv' s H1 := by
  obtain ⟨hK, hA, hz, hB⟩ := h
  refine ⟨hK, fun b h1 h2 => ?_, by rw [z, hE]; exact hz, by rw [hE]; exact hB⟩
  by_cases e : b = a
  · subst e
    exact ha
  · rw [ho b e]
    exact (hA b h1 (by rw [← hE]; exact h2)).kept (oq b e)
theorem aw_put0 {v : Value} {idx t k n a : Nat} {fin : Bool} {E' : SH} {iv' : IV} {lv' : LV} (hd : decode μ.2.1 pc = .ok (.putfield idx, 3)) (hf : FL μ.1.cls idx t k fin) (hin : fin = true → μ.1.name = "<init>") (hs : Sh G E a t n) (hn : narrow (tyT t k) v = v) (hfit : fits (tyT t k) v = true)
    (hE : E'.1 = E.1) (hE2 : E'.2.1 a = (t, n)) (ho : ∀ b, b ≠ a → ce (gA G) E' iv' lv' b = ce (gA G) E iv lv b) (ha : ∀ j, j < nF t → fv E'.2.2 iv' lv' t a j = if j = k then v else fv E.2.2 iv lv t a j)
    (kk : AW G μ R Z X z0 (pc + 3) lo st E' iv' lv') : AW G μ R Z X z0 pc lo (v :: .ref a :: st) E iv lv :=
  fun p e s m args below meth c H locs ls C q => by
    obtain ⟨Cn, T, N, ⟨c1, c2, c3, c4, c5, c6⟩, f1, f2, f3, f4⟩ := hf
    have hts := C.2.2.2.2.2.2.1
    have hw := q.2.2.2.2.1
    obtain ⟨hK, hA, hz, hB⟩ := q.2.2.2.2.1
    have h0 := hA a hs.1 hs.2.1
    rw [ce_o hs.2.2 c3] at h0
    have hap := va_apart (own := μ.1.cls) hts c4 (tyT t) c5 c6 hK c1
    obtain ⟨r, h1, cell, q1, q2, q3, q4⟩ := h0
    have hr : r = (Cn, T, N) := Option.some.inj (h1.symm.trans c1)
    subst hr
    obtain ⟨hS, hfc, kC, hkC, hkind⟩ := hK.1 t _ c1
    obtain ⟨cf, kf, fi, f, hi, hsl⟩ := hS k f1
    have hlay := hts _ (c4 _ (u_in_lay f1))
    unfold u_lay at hlay
    have hst := (u_facts hfc hkC (u_lays hts c4 f1) hi).1
    have key : ∀ H' : Heap, H'[a]? = some (cell.setSlot ((gD G).2 t k) v) → H'.size = H.size → (∀ q, q ≠ a → H'[q]? = H[q]?) → W p (gL G) e R s m args below meth c H' (locs ++ [⟨a, (gD G).2 t k⟩]) (E.1 - z0) (2500 * (E.1 - z0)) (Z below args s) (F0 m (pc + 3) ls st) := by
      intro H' e1 e2 e3
      have hk := kk p e s m args below meth c H' (locs ++ [⟨a, (gD G).2 t k⟩]) ls C ⟨q.1, q.2.1, q.2.2.1, q.2.2.2.1, wd.set (G := G) hw hE ho e2 e3 ?_, q.2.2.2.2.2.1.put e2 e3 hs.1, q.2.2.2.2.2.2⟩
      · rw [hE] at hk
        exact hk
      · rw [ce_o hE2 c3]
        refine ⟨_, c1, t_OB.to (V := updV (vp_V ((List.range (nF t)).map (fv E.2.2 iv lv t a))) k v) ⟨_, e1, q2, q3, t_set q4 hap f1 v⟩ (fun j hj => ?_)⟩
        have hj' : j < nF t := by rw [← c2]; exact hj
        have e9 : ∀ (g : Nat → Value), vp_V ((List.range (nF t)).map g) j = g j := fun g => by
          unfold vp_V
          rw [List.getD_eq_getElem?_getD, List.getElem?_map, List.getElem?_range hj']
          rfl
        rw [e9, ha j hj']
        unfold updV
        rw [e9]
    cases fin with
    | false =>
      rw [if_neg (by rw [f3]; decide)] at hlay
      have h6 := u_store hfc hkC hkind hlay hi (c5 k f1) hn hfit
      refine W.putK C.1 C.2.1 (f := f) ⟨C.2.2.2.2.2.1, hts _ f2, ⟨_, _, _, hi⟩, hst⟩ (by rw [q2]; exact h6) q1 q3 (by rw [hsl]; exact k2_hasslot (q4 k f1)) rfl rfl hd fun H' e1 e2 e3 => ?_
      rw [hsl] at e1 ⊢
      exact key H' e1 e2 e3
    | true =>
      rw [if_pos f3] at hlay
      have hcf : m.cls = cf := by
        obtain ⟨_, _, c', _, _, _, -, -, hf', -, -, -, hown2, -⟩ := Cond.laysFinal_spec hlay
        have e1 : c' = cf := by have := hi.symm.trans hf'; simp at this; exact this.1.symm
        rw [f4 rfl] at hown2
        rw [← e1]; exact Option.some.inj (C.2.2.2.2.2.1.symm.trans hown2)
      have h6 := u_fits hfc hkC hkind (Or.inr hlay) hi (c5 k f1) hn hfit
      refine W.putFinK C.1 C.2.1 C.2.2.2.2.2.1 (hts _ f2) hi hst hcf (C.2.2.2.2.2.2.2.trans (hin rfl)) (by rw [q2]; exact h6) q1 q3 (by rw [hsl]; exact k2_hasslot (q4 k f1)) rfl rfl hd fun H' e1 e2 e3 => ?_
      rw [hsl] at e1 ⊢
      exact key H' e1 e2 e3
theorem aw_putI {x : Int32} {idx t k n a : Nat} (hd : decode μ.2.1 pc = .ok (.putfield idx, 3)) (hf : FL μ.1.cls idx t k false) (hty : tyT t k = .int) (hs : Sh G E a t n) (kk : AW G μ R Z X z0 (pc + 3) lo st E (va_up iv a (upd (iv a) k x)) lv) : AW G μ R Z X z0 pc lo (.int x :: .ref a :: st) E iv lv := by
  refine aw_put0 hd hf (fun h => by cases h) hs (by rw [hty]; rfl) (by rw [hty]; rfl) rfl hs.2.2 (fun b hb => ce_eq rfl rfl (by simp [va_up, hb]) rfl) (fun j _ => ?_) kk
  unfold fv
  by_cases e : j = k
  · subst e
    simp [hty, va_up, upd]
  · simp [e, va_up, upd]
theorem aw_putL {x : Int64} {idx t k n a : Nat} (hd : decode μ.2.1 pc = .ok (.putfield idx, 3)) (hf : FL μ.1.cls idx t k false) (hty : tyT t k = .long) (hs : Sh G E a t n) (kk : AW G μ R Z X z0 (pc + 3) lo st E iv (va_up lv a (vp_updL (lv a) k x))) : AW G μ R Z X z0 pc lo (.long x :: .ref a :: st) E iv lv := by
  refine aw_put0 hd hf (fun h => by cases h) hs (by rw [hty]; rfl) (by rw [hty]; rfl) rfl hs.2.2 (fun b hb => ce_eq rfl rfl rfl (by simp [va_up, hb])) (fun j _ => ?_) kk
  unfold fv
  by_cases e : j = k
  · subst e
    simp [hty, va_up, vp_updL]
  · simp [e, va_up, vp_updL]
theorem nI_in' {i : Int32} {j n : Nat} (hi : i = nI j) (hj : j < n) (hn : n < 2 ^ 31) : vp_in i n ∧ i.toNatClampNeg = j := by
  subst hi
  exact ⟨vp_in_nI hj hn, nI_clamp (by omega)⟩
theorem aw_iaload {i : Int32} {j n a : Nat} (hd : decode μ.2.1 pc = .ok (.iaload, 1)) (hs : Sh G E a 20 n) (hi : i = nI j) (hj : j < n) (kk : AW G μ R Z X z0 (pc + 1) lo (.int (iv a j) :: st) E iv lv) (hn : n < 2 ^ 31 := by decide) : AW G μ R Z X z0 pc lo (.int i :: .ref a :: st) E iv lv :=
  fun p e s m args below meth c H locs ls C q => by
    obtain ⟨hK, hA, hz, hB⟩ := q.2.2.2.2.1
    have h0 := hA a hs.1 hs.2.1
    rw [ce_i hs.2.2 (by decide) (by decide)] at h0
    obtain ⟨g1, g2⟩ := nI_in' hi hj hn
    exact va_iald (D := gD G) C.1 C.2.1 hK (one_P h0) 0 0 rfl rfl g1 hd (by rw [g2]; exact kk p e s m args below meth c H locs ls C q)
theorem aw_baload {i : Int32} {j n a : Nat} (hd : decode μ.2.1 pc = .ok (.baload, 1)) (hs : Sh G E a 21 n) (hi : i = nI j) (hj : j < n) (kk : AW G μ R Z X z0 (pc + 1) lo (.int (iv a j) :: st) E iv lv) (hn : n < 2 ^ 31 := by decide) : AW G μ R Z X z0 pc lo (.int i :: .ref a :: st) E iv lv :=
  fun p e s m args below meth c H locs ls C q => by
    obtain ⟨hK, hA, hz, hB⟩ := q.2.2.2.2.1
    have h0 := hA a hs.1 hs.2.1
    rw [ce_i hs.2.2 (by decide) (by decide)] at h0
    obtain ⟨g1, g2⟩ := nI_in' hi hj hn
    exact va_bald (D := gD G) C.1 C.2.1 hK (one_P h0) 0 1 rfl rfl g1 hd (by rw [g2]; exact kk p e s m args below meth c H locs ls C q)
theorem aw_aaload {i : Int32} {j n a b t : Nat} (hd : decode μ.2.1 pc = .ok (.aaload, 1)) (hs : Sh G E a t n) (ht : 22 ≤ t ∧ t < 26) (hi : i = nI j) (hj : j < n) (hr : E.2.2 a j = some b) (kk : AW G μ R Z X z0 (pc + 1) lo (.ref b :: st) E iv lv) (hn : n < 2 ^ 31 := by decide) : AW G μ R Z X z0 pc lo (.int i :: .ref a :: st) E iv lv :=
  fun p e s m args below meth c H locs ls C q => by
    obtain ⟨hK, hA, hz, hB⟩ := q.2.2.2.2.1
    have h0 := hA a hs.1 hs.2.1
    rw [ce_r hs.2.2 ht.1] at h0
    obtain ⟨g1, g2⟩ := nI_in' hi hj hn
    have hlt : i.toNatClampNeg < n := by rw [g2]; exact hj
    have hty : ∃ ty : FieldType, (tysA (gA G))[t - 20]? = some (gA G (t - 20), ty) ∧ ty.isReference = true := by
      have : t = 22 ∨ t = 23 ∨ t = 24 ∨ t = 25 := by omega
      rcases this with e | e | e | e <;> subst e <;> exact ⟨_, rfl, rfl⟩
    obtain ⟨ty, t1, t2⟩ := hty
    refine W.aald (v := va_rf (E.2.2 a i.toNatClampNeg)) (ty := ty) C.1 C.2.1 h0 ((hK.2 _ _ t1).1 n (fun j => va_rf (E.2.2 a j))) t2 (fun q => by cases q) (by show ¬ (i < 0 ∨ (arrV _ _ _).slots.size ≤ _); rw [arrV_size]; exact g1) (by show (arrV _ _ _).slots[_]? = _; rw [arrV_read _ _ hlt]) rfl rfl hd ?_
    rw [g2, hr]
    exact kk p e s m args below meth c H locs ls C q
theorem aw_alen {n a t : Nat} (hd : decode μ.2.1 pc = .ok (.arraylength, 1)) (hs : Sh G E a t n) (ht : 20 ≤ t ∧ t < 26) (kk : AW G μ R Z X z0 (pc + 1) lo (.int (nI n) :: st) E iv lv) : AW G μ R Z X z0 pc lo (.ref a :: st) E iv lv :=
  fun p e s m args below meth c H locs ls C q => by
    obtain ⟨hK, hA, hz, hB⟩ := q.2.2.2.2.1
    have h0 := hA a hs.1 hs.2.1
    have hty : ∃ ty : FieldType, (tysA (gA G))[t - 20]? = some (gA G (t - 20), ty) := by
      have : t = 20 ∨ t = 21 ∨ t = 22 ∨ t = 23 ∨ t = 24 ∨ t = 25 := by omega
      rcases this with e | e | e | e | e | e <;> subst e <;> exact ⟨_, rfl⟩
    obtain ⟨ty, t1⟩ := hty
    by_cases h : t < 22
    · rw [ce_i hs.2.2 ht.1 h] at h0
      exact va_alen (D := gD G) C.1 C.2.1 hK (one_P h0) 0 _ rfl t1 rfl hd (kk p e s m args below meth c H locs ls C q)
    · rw [ce_r hs.2.2 (by omega)] at h0
      exact va_alen (D := gD G) C.1 C.2.1 hK (one_P h0) 0 _ rfl t1 rfl hd (kk p e s m args below meth c H locs ls C q)
theorem aw_iastore {i x : Int32} {j n a : Nat} (hd : decode μ.2.1 pc = .ok (.iastore, 1)) (hs : Sh G E a 20 n) (hi : i = nI j) (hj : j < n) (kk : AW G μ R Z X z0 (pc + 1) lo st E (va_up iv a (upd (iv a) j x)) lv) (hn : n < 2 ^ 31 := by decide) : AW G μ R Z X z0 pc lo (.int x :: .int i :: .ref a :: st) E iv lv :=
  fun p e s m args below meth c H locs ls C q => by
    have hw := q.2.2.2.2.1
    obtain ⟨hK, hA, hz, hB⟩ := q.2.2.2.2.1
    have h0 := hA a hs.1 hs.2.1
    rw [ce_i hs.2.2 (by decide) (by decide)] at h0
    obtain ⟨g1, g2⟩ := nI_in' hi hj hn
    refine W.iast C.1 C.2.1 h0 ((hK.2 0 _ rfl).1 n (fun j => .int (iv a j))) (fun q => by cases q) (by show ¬ (i < 0 ∨ (arrV _ _ _).slots.size ≤ _); rw [arrV_size]; exact g1) rfl rfl hd fun H1 e1 z oq => ?_
    refine kk p e s m args below meth c H1 _ ls C ⟨q.1, q.2.1, q.2.2.1, q.2.2.2.1, wd.set (G := G) (a := a) hw rfl (fun b hb => ce_eq rfl rfl (by simp [va_up, hb]) rfl) z oq ?_, q.2.2.2.2.2.1.put z oq hs.1, q.2.2.2.2.2.2⟩
    rw [ce_i hs.2.2 (by decide) (by decide)]
    show H1[a]? = some (vp_cell _ _)
    rw [e1, vp_cell_i, vp_cell_i, arrV_store, g2]
    congr 2
    funext k
    by_cases hk : k = j
    · subst hk
      simp [updV, upd, va_up]
    · simp [updV, upd, va_up, hk]
theorem aw_bastore {i x : Int32} {j n a : Nat} (hd : decode μ.2.1 pc = .ok (.bastore, 1)) (hs : Sh G E a 21 n) (hi : i = nI j) (hj : j < n) (kk : AW G μ R Z X z0 (pc + 1) lo st E (va_up iv a (upd (iv a) j x.toInt8.toInt32)) lv) (hn : n < 2 ^ 31 := by decide) : AW G μ R Z X z0 pc lo (.int x :: .int i :: .ref a :: st) E iv lv :=
  fun p e s m args below meth c H locs ls C q => by
    have hw := q.2.2.2.2.1
    obtain ⟨hK, hA, hz, hB⟩ := q.2.2.2.2.1
    have h0 := hA a hs.1 hs.2.1
    rw [ce_i hs.2.2 (by decide) (by decide)] at h0
    obtain ⟨g1, g2⟩ := nI_in' hi hj hn
    refine W.bast C.1 C.2.1 h0 ((hK.2 1 _ rfl).1 n (fun j => .int (iv a j))) (fun q => by cases q) (by show ¬ (i < 0 ∨ (arrV _ _ _).slots.size ≤ _); rw [arrV_size]; exact g1) rfl rfl hd fun H1 e1 z oq => ?_
    refine kk p e s m args below meth c H1 _ ls C ⟨q.1, q.2.1, q.2.2.1, q.2.2.2.1, wd.set (G := G) (a := a) hw rfl (fun b hb => ce_eq rfl rfl (by simp [va_up, hb]) rfl) z oq ?_, q.2.2.2.2.2.1.put z oq hs.1, q.2.2.2.2.2.2⟩
    rw [ce_i hs.2.2 (by decide) (by decide)]
    show H1[a]? = some (vp_cell _ _)
    rw [e1, vp_cell_i, vp_cell_i, arrV_store, g2]
    congr 2
    funext k
    by_cases hk : k = j
    · subst hk
      simp [updV, upd, va_up, narrow_byte]
    · simp [updV, upd, va_up, hk]
theorem wd.end {s t : State} {H : Heap} (hw : wd G E iv lv s H) (ht : t.heap = H) (hW : s.WarmedH t.vm) : wd G E iv lv t t.heap := by
  subst ht
  exact wd.moved hW.alike hw
theorem aw_iret {Q : Option Value → SH → IV → LV → Prop} {v : Int32} (hd : decode μ.2.1 pc = .ok (.ireturn, 1)) (hr : μ.2.2.2 = some .int) (hb : RB R z0 E 0 0) (hq : Q (some (.int v)) E iv lv) : AW G μ R (ZM G R Q) X z0 pc lo [.int v] E iv lv :=
  fun p e s m args below meth c H locs ls C q => W.widen (k := R.cells) (n := R.slots) hb.2.2.1 hb.2.2.2 (W.iret C.1 C.2.1 (C.2.2.2.1.trans hr) (fun t ht hW => ⟨⟨_, E, iv, lv, rfl, hq, q.2.2.2.2.1.end ht hW⟩, q.2.2.2.2.2.1.F ht⟩) q.2.2.2.2.2.1.2.2 hd C.2.2.2.2.1)
theorem aw_zret {Q : Option Value → SH → IV → LV → Prop} {v : Int32} (hd : decode μ.2.1 pc = .ok (.ireturn, 1)) (hr : μ.2.2.2 = some .boolean) (hn : narrow .boolean (.int v) = .int v) (hb : RB R z0 E 0 0) (hq : Q (some (.int v)) E iv lv) : AW G μ R (ZM G R Q) X z0 pc lo [.int v] E iv lv :=
  fun p e s m args below meth c H locs ls C q => W.widen (k := R.cells) (n := R.slots) hb.2.2.1 hb.2.2.2 (W.zret C.1 C.2.1 (C.2.2.2.1.trans hr) hn (fun t ht hW => ⟨⟨_, E, iv, lv, rfl, hq, q.2.2.2.2.1.end ht hW⟩, q.2.2.2.2.2.1.F ht⟩) q.2.2.2.2.2.1.2.2 hd C.2.2.2.2.1)
theorem aw_lret {Q : Option Value → SH → IV → LV → Prop} {v : Int64} (hd : decode μ.2.1 pc = .ok (.lreturn, 1)) (hr : μ.2.2.2 = some .long) (hb : RB R z0 E 0 0) (hq : Q (some (.long v)) E iv lv) : AW G μ R (ZM G R Q) X z0 pc lo [.long v] E iv lv :=
  fun p e s m args below meth c H locs ls C q => W.widen (k := R.cells) (n := R.slots) hb.2.2.1 hb.2.2.2 (W.lret C.1 C.2.1 (C.2.2.2.1.trans hr) (fun t ht hW => ⟨⟨_, E, iv, lv, rfl, hq, q.2.2.2.2.1.end ht hW⟩, q.2.2.2.2.2.1.F ht⟩) q.2.2.2.2.2.1.2.2 hd C.2.2.2.2.1)
theorem aw_vret {Q : Option Value → SH → IV → LV → Prop} (hd : decode μ.2.1 pc = .ok (.return_, 1)) (hr : μ.2.2.2 = none) (hb : RB R z0 E 0 0) (hq : Q none E iv lv) : AW G μ R (ZM G R Q) X z0 pc lo [] E iv lv :=
  fun p e s m args below meth c H locs ls C q => W.widen (k := R.cells) (n := R.slots) hb.2.2.1 hb.2.2.2 (W.vret C.1 C.2.1 (C.2.2.2.1.trans hr) (fun t ht hW => ⟨⟨_, E, iv, lv, rfl, hq, q.2.2.2.2.1.end ht hW⟩, q.2.2.2.2.2.1.F ht⟩) q.2.2.2.2.2.1.2.2 hd C.2.2.2.2.1)
theorem run_go {Q : Option Value → SH → IV → LV → Prop} {Qz : State → Prop} {p : Program} {l : Launch} {e : Jvm.Env} {s : State} {m : MethodId} {args a : Array Value} {below : List Frame} {meth : Method} {c : Code} {H : Heap} {locs : List Loc} {cells slots mc ms : Nat} {ls : Array Slot} {st0 rest : List Value}
    (hr : va_Run p l e R s m args below meth c H locs cells slots mc ms (F0 m pc ls st0) rest (QM G Q a) (fun q => gB G ≤ q)) (hS : va_S (fun q => gB G ≤ q) s.heap H locs)
    (kk : ∀ (r : Option Value) (E' : SH) (iv' : IV) (lv' : LV) (H1 : Heap) (locs1 : List Loc), Q r E' iv' lv' → wd G E' iv' lv' s H1 → va_S (fun q => gB G ≤ q) s.heap H1 locs1 → W p l e R s m args below meth c H1 locs1 (cells + mc) (slots + ms) Qz (F0 m (pc + 3) ls (r.toList ++ rest))) : W p l e R s m args below meth c H locs cells slots Qz (F0 m pc ls st0) := by
  intro T hT Xs
  obtain ⟨v, st₀, t, T', L, h0, X', hL, e1, e2, ⟨⟨r, E', iv', lv', hv, hp, hb⟩, hz, hk⟩, stp⟩ := hr T hT Xs
  cases hv
  rw [h0] at hz hk
  obtain ⟨t2, a1, b1⟩ := kk v E' iv' lv' T'.heap (locs ++ L) hp (by rw [e1]; exact wd.moved (by rw [← e2]; exact X'.warmed.alike.symm) hb)
    ⟨Nat.le_trans hS.1 (by rw [e1]; exact hz), fun q h1 h2 => by rw [e1, hk q (Nat.lt_of_lt_of_le h1 hS.1) h2]; exact hS.2.1 q h1 h2, fun q hq => by
      rcases List.mem_append.mp hq with h | h
      · exact hS.2.2 q h
      · exact hL q h⟩ T' rfl X'
  exact ⟨t2, stp t2 a1, b1⟩
theorem gi {ws : List Cond} (h : ∀ w ∈ ws, w ∈ tb) : GoodIn tb ws := fun w hw => ⟨h w hw, good_of_word (tb_good (h w hw))⟩
theorem SF.kept {s U : State} {H : Heap} {locs : List Loc} (h : SF G s s.heap) (hS : va_S (fun q => gB G ≤ q) s.heap H locs) (hU : U.heap = H) (hW : s.WarmedH U.vm) : SF G U U.heap := by
  subst hU
  exact SF.moved hW.alike ⟨h.1.kept hS.2.1, h.2.1.kept hS.2.1, h.2.2⟩
/-- what a call asks of the tables -/
def CB (own : String) (idx : Nat) (μ' : MI) (n : Nat) : Prop := Cond.methodLink own idx μ'.1 ∈ tb ∧ Cond.code μ'.1 μ'.2.1 μ'.2.2.1 μ'.2.2.2 ∈ tb ∧ Cond.initialized μ'.1.cls ∈ tb ∧ (μ'.1.cls ≠ "java/lang/invoke/MethodHandle" ∧ μ'.1.cls ≠ "java/lang/invoke/VarHandle" ∧ (parseMethodDescriptor μ'.1.desc).map (fun d => d.parameters.length) = some n) ∧ μ'.2.2.1 ≤ 81
theorem CB.to {own : String} {idx n d mc : Nat} {μ' : MI} {s : State} {args : Array Value} (h : CB own idx μ' n) (hts : ∀ w ∈ tb, w.before args s = true) (hR : RB R z0 E (d + 1) mc) : CallB R s args own idx μ'.1 μ'.2.1 μ'.2.2.1 μ'.2.2.2 (Cond.code μ'.1 μ'.2.1 μ'.2.2.1 μ'.2.2.2 :: tb) (rm d mc) mc (2500 * mc) n :=
  callB_of n hts (gi (fun w hw => (List.mem_cons.mp hw).elim (fun e => e ▸ h.2.1) id)) rfl rfl rfl (hts _ h.2.2.1) (hts _ h.1) h.2.2.2.1 ⟨hR.1, by
    have h1 := hR.2.1
    have h2 := h.2.2.2.2
    show 8 + (μ'.2.2.1 + 11) + 100 * d ≤ R.locals
    omega⟩
theorem aw_after {Q' : Option Value → SH → IV → LV → Prop} {mc : Nat} {rest : List Value} {p : Program} {e : Jvm.Env} {s : State} {m : MethodId} {args a : Array Value} {below : List Frame} {meth : Method} {c : Code} {H : Heap} {locs : List Loc} {ls : Array Slot} {st0 : List Value} (C : CX μ p s m args meth c) (q : WQ G μ X z0 lo E iv lv s H locs ls)
    (hr : va_Run p (gL G) e R s m args below meth c H locs (E.1 - z0) (2500 * (E.1 - z0)) mc (2500 * mc) (F0 m pc ls st0) rest (QM G Q' a) (fun q => gB G ≤ q)) (hz : z0 ≤ E.1) (hQ : ∀ r E' iv' lv', Q' r E' iv' lv' → E'.1 = E.1 + mc)
    (kk : ∀ r E' iv' lv', Q' r E' iv' lv' → AW G μ R Z X z0 (pc + 3) lo (r.toList ++ rest) E' iv' lv') : W p (gL G) e R s m args below meth c H locs (E.1 - z0) (2500 * (E.1 - z0)) (Z below args s) (F0 m pc ls st0) := by
  refine run_go hr q.2.2.2.2.2.1 (fun r E' iv' lv' H1 locs1 hq hw hS => ?_)
  have h := kk r E' iv' lv' hq p e s m args below meth c H1 locs1 ls C ⟨q.1, q.2.1, q.2.2.1, q.2.2.2.1, hw, hS, q.2.2.2.2.2.2⟩
  have e1 := hQ r E' iv' lv' hq
  have e2 : E'.1 - z0 = E.1 - z0 + mc := by omega
  rw [e2, Nat.mul_add] at h
  exact h
theorem WQ.le {s : State} {H : Heap} {locs : List Loc} {ls : Array Slot} (q : WQ G μ X z0 lo E iv lv s H locs ls) : z0 ≤ E.1 := by
  have h1 := q.2.2.2.2.2.1.1
  rw [q.2.1, q.2.2.2.2.1.2.2.1] at h1
  exact h1
theorem WQ.pre {s U : State} {H : Heap} {locs : List Loc} {ls : Array Slot} (q : WQ G μ X z0 lo E iv lv s H locs ls) (hU : U.heap = H) (hW : s.WarmedH U.vm) : PM G E iv lv U := by
  refine ⟨by rw [hU]; exact q.2.2.2.2.1.2.2.1, SF.kept q.2.2.2.1 q.2.2.2.2.2.1 hU hW, ?_⟩
  rw [hU]
  exact wd.moved hW.alike q.2.2.2.2.1
def CV (own : String) (idx : Nat) (t : Nat) (μ' : MI) (n : Nat) : Prop := CB own idx μ' n ∧ Cond.instanceMethod μ'.1 ∈ tb ∧ Cond.selects μ'.1.cls μ'.1 μ'.1 ∈ tb ∧ ∃ T N, CF t μ'.1.cls T N
theorem aw_callV {Q' : Option Value → SH → IV → LV → Prop} {idx t n d mc a nn : Nat} {μ' : MI} (As : List Value) {rest : List Value} (hd : decode μ.2.1 pc = .ok (.invokevirtual idx, 3)) (hc : CV μ.1.cls idx t μ' n) (hs : Sh G E a t nn) (sp : Spec G μ' d mc (.ref a :: As) E iv lv Q') (hn : As.length = n) (hst : st = As.reverse ++ .ref a :: rest) (hw : (rest.map fun v => v.category).sum ≤ 8) (hR : RB R z0 E (d + 1) mc)
    (hQ : ∀ r E' iv' lv', Q' r E' iv' lv' → E'.1 = E.1 + mc) (kk : ∀ r E' iv' lv', Q' r E' iv' lv' → AW G μ R Z X z0 (pc + 3) lo (r.toList ++ rest) E' iv' lv') : AW G μ R Z X z0 pc lo st E iv lv :=
  fun p e s m args below meth c H locs ls C q => by
    obtain ⟨cb, c1, c2, T, N, c3⟩ := hc
    have hts := C.2.2.2.2.2.2.1
    have h0 := q.2.2.2.2.1.2.1 a hs.1 hs.2.1
    rw [ce_o hs.2.2 c3.2.2.1] at h0
    subst hst
    exact aw_after C q (va_runV (C := μ'.1.cls) (As := As) (rest := rest) ⟨C.1, C.2.1, rfl, C.2.2.2.2.2.1, hts⟩ sp ⟨cb.to hts hR, hts _ c1, hts _ c2⟩ ⟨PM.blind, va_recv (D := gD G) q.2.2.2.2.1.1 (one_P h0) c3.1 (q0 := 0) rfl, fun U hU hW => ⟨rfl, q.pre hU hW⟩⟩ rfl hn (by rw [C.2.2.1, ← q.2.2.2.2.2.2.2]; exact q.2.2.2.2.2.2.1.1) rfl (lv_room hw) hd ⟨hR.2.2.1, hR.2.2.2⟩) q.le hQ kk
theorem aw_callS {Q' : Option Value → SH → IV → LV → Prop} {idx n d mc : Nat} {μ' : MI} (As : List Value) {rest : List Value} (hd : decode μ.2.1 pc = .ok (.invokestatic idx, 3)) (hc : CB μ.1.cls idx μ' n ∧ Cond.static μ'.1 ∈ tb) (sp : Spec G μ' d mc As E iv lv Q') (hn : As.length = n) (hst : st = As.reverse ++ rest) (hw : (rest.map fun v => v.category).sum ≤ 8) (hR : RB R z0 E (d + 1) mc)
    (hQ : ∀ r E' iv' lv', Q' r E' iv' lv' → E'.1 = E.1 + mc) (kk : ∀ r E' iv' lv', Q' r E' iv' lv' → AW G μ R Z X z0 (pc + 3) lo (r.toList ++ rest) E' iv' lv') : AW G μ R Z X z0 pc lo st E iv lv :=
  fun p e s m args below meth c H locs ls C q => by
    obtain ⟨cb, c1⟩ := hc
    have hts := C.2.2.2.2.2.2.1
    subst hst
    exact aw_after C q (va_runS (As := As) (rest := rest) ⟨C.1, C.2.1, rfl, C.2.2.2.2.2.1, hts⟩ sp ⟨cb.to hts hR, hts _ c1⟩ ⟨PM.blind, fun U hU hW => ⟨rfl, q.pre hU hW⟩⟩ rfl hn (by rw [C.2.2.1, ← q.2.2.2.2.2.2.2]; exact q.2.2.2.2.2.2.1.1) rfl (lv_room hw) hd ⟨hR.2.2.1, hR.2.2.2⟩) q.le hQ kk
theorem aw_callI {Q' : Option Value → SH → IV → LV → Prop} {idx n d mc a : Nat} {y : MethodName} {b : ByteArray} {mL : Nat} (As : List Value) {rest : List Value} (hd : decode μ.2.1 pc = .ok (.invokespecial idx, 3)) (hc : CB μ.1.cls idx (y, b, mL, none) n ∧ y.name = "<init>" ∧ Cond.instanceMethod y ∈ tb) (sp : Spec G (y, b, mL, none) d mc (.ref a :: As) E iv lv Q') (hn : As.length = n) (hst : st = As.reverse ++ .ref a :: rest) (hw : (rest.map fun v => v.category).sum ≤ 8) (hR : RB R z0 E (d + 1) mc)
    (hQ : ∀ r E' iv' lv', Q' r E' iv' lv' → E'.1 = E.1 + mc) (kk : ∀ r E' iv' lv', Q' r E' iv' lv' → AW G μ R Z X z0 (pc + 3) lo (r.toList ++ rest) E' iv' lv') : AW G μ R Z X z0 pc lo st E iv lv :=
  fun p e s m args below meth c H locs ls C q => by
    obtain ⟨cb, c1, c2⟩ := hc
    have hts := C.2.2.2.2.2.2.1
    subst hst
    exact aw_after C q (va_runI (As := As) (rest := rest) ⟨C.1, C.2.1, rfl, C.2.2.2.2.2.1, hts⟩ sp ⟨cb.to hts hR, c1, hts _ c2⟩ ⟨PM.blind, fun U hU hW => ⟨rfl, q.pre hU hW⟩⟩ rfl hn (by rw [C.2.2.1, ← q.2.2.2.2.2.2.2]; exact q.2.2.2.2.2.2.1.1) rfl (lv_room hw) hd ⟨hR.2.2.1, hR.2.2.2⟩) q.le hQ kk
/-- calls that make no cell -/
theorem aw_callV0 {Q' : Option Value → IV → LV → Prop} {idx t n d a nn : Nat} {μ' : MI} (As : List Value) {rest : List Value} (hd : decode μ.2.1 pc = .ok (.invokevirtual idx, 3)) (hc : CV μ.1.cls idx t μ' n) (hs : Sh G E a t nn) (sp : Spec0 G μ' d (.ref a :: As) E iv lv Q') (hn : As.length = n) (hst : st = As.reverse ++ .ref a :: rest) (hw : (rest.map fun v => v.category).sum ≤ 8) (hR : RB R z0 E (d + 1) 0)
    (kk : ∀ r iv' lv', Q' r iv' lv' → AW G μ R Z X z0 (pc + 3) lo (r.toList ++ rest) E iv' lv') : AW G μ R Z X z0 pc lo st E iv lv :=
  aw_callV As hd hc hs sp hn hst hw hR (fun _ E' _ _ h => by rw [h.1]; rfl) (fun r E' iv' lv' h => by rw [h.1]; exact kk r iv' lv' h.2)
theorem aw_callS0 {Q' : Option Value → IV → LV → Prop} {idx n d : Nat} {μ' : MI} (As : List Value) {rest : List Value} (hd : decode μ.2.1 pc = .ok (.invokestatic idx, 3)) (hc : CB μ.1.cls idx μ' n ∧ Cond.static μ'.1 ∈ tb) (sp : Spec0 G μ' d As E iv lv Q') (hn : As.length = n) (hst : st = As.reverse ++ rest) (hw : (rest.map fun v => v.category).sum ≤ 8) (hR : RB R z0 E (d + 1) 0)
    (kk : ∀ r iv' lv', Q' r iv' lv' → AW G μ R Z X z0 (pc + 3) lo (r.toList ++ rest) E iv' lv') : AW G μ R Z X z0 pc lo st E iv lv :=
  aw_callS As hd hc sp hn hst hw hR (fun _ E' _ _ h => by rw [h.1]; rfl) (fun r E' iv' lv' h => by rw [h.1]; exact kk r iv' lv' h.2)
/-- a method that a class inherits, or overrides -/
def CU (own : String) (idx t : Nat) (x : MethodName) (μ' : MI) (n : Nat) : Prop := Cond.methodLink own idx x ∈ tb ∧ Cond.sameMethod x.cls x.cls x.name x.desc ∈ tb ∧ Cond.selects ((vwCl[t]?).elim "" (fun r => r.1)) x μ'.1 ∈ tb ∧ Cond.instanceMethod μ'.1 ∈ tb ∧ Cond.initialized μ'.1.cls ∈ tb ∧ Cond.code μ'.1 μ'.2.1 μ'.2.2.1 μ'.2.2.2 ∈ tb ∧ (x.cls ≠ "java/lang/invoke/MethodHandle" ∧ x.cls ≠ "java/lang/invoke/VarHandle" ∧ (parseMethodDescriptor x.desc).map (fun d => d.parameters.length) = some n) ∧ μ'.2.2.1 ≤ 81 ∧
  (μ'.1 = x ∨ (Cond.instanceMethod x ∈ tb ∧ ∃ b0 m0 r0, Cond.code x b0 m0 r0 ∈ tb)) ∧ ∃ T N, CF t ((vwCl[t]?).elim "" (fun r => r.1)) T N
theorem aw_callU {Q' : Option Value → IV → LV → Prop} {idx t n d a nn : Nat} {x : MethodName} {μ' : MI} (As : List Value) {rest : List Value} (hd : decode μ.2.1 pc = .ok (.invokevirtual idx, 3)) (hc : CU μ.1.cls idx t x μ' n) (hs : Sh G E a t nn) (sp : Spec0 G μ' d (.ref a :: As) E iv lv Q') (hn : As.length = n) (hst : st = As.reverse ++ .ref a :: rest) (hw : (rest.map fun v => v.category).sum ≤ 8) (hR : RB R z0 E (d + 1) 0)
    (kk : ∀ r iv' lv', Q' r iv' lv' → AW G μ R Z X z0 (pc + 3) lo (r.toList ++ rest) E iv' lv') : AW G μ R Z X z0 pc lo st E iv lv :=
  fun p e s m args below meth c H locs ls C q => by
    obtain ⟨c1, c2, c3, c4, c5, c6, c7, c8, c9, T, N, cf⟩ := hc
    have hts := C.2.2.2.2.2.2.1
    have h0 := q.2.2.2.2.1.2.1 a hs.1 hs.2.1
    rw [ce_o hs.2.2 cf.2.2.1] at h0
    subst hst
    have hR' : (rm d 0).frames + 1 ≤ R.frames ∧ 8 + (μ'.2.2.1 + 11) + (rm d 0).locals ≤ R.locals := ⟨hR.1, by
      have h1 := hR.2.1
      show 8 + (μ'.2.2.1 + 11) + 100 * d ≤ R.locals
      omega⟩
    have hws : ∀ w ∈ (Cond.code μ'.1 μ'.2.1 μ'.2.2.1 μ'.2.2.2 :: tb), w ∈ tb := fun w hw => (List.mem_cons.mp hw).elim (fun e => e ▸ c6) id
    have hcu : va_CU R s args μ.1.cls ((vwCl[t]?).elim "" (fun r => r.1)) x.cls idx x μ'.1 μ'.2.1 μ'.2.2.1 μ'.2.2.2 (Cond.code μ'.1 μ'.2.1 μ'.2.2.1 μ'.2.2.2 :: tb) (rm d 0) 0 (2500 * 0) n := by
      rcases c9 with e1 | ⟨e1, b0, m0, r0, e2⟩
      · refine va_cwU n hts (gi (fun w hw => ?_)) rfl rfl rfl e1 c7 hR'
        rcases List.mem_append.mp hw with h | h
        · simp only [List.mem_cons, List.not_mem_nil, or_false] at h
          rcases h with h | h | h | h | h <;> rw [h] <;> assumption
        · exact hws w h
      · refine va_cwO n hts (gi (fun w hw => ?_)) rfl rfl rfl e2 c7 hR'
        rcases List.mem_append.mp hw with h | h
        · simp only [List.mem_cons, List.not_mem_nil, or_false] at h
          rcases h with h | h | h | h | h | h <;> rw [h] <;> assumption
        · exact hws w h
    exact aw_after C q (va_runU (As := As) (rest := rest) ⟨C.1, C.2.1, rfl, C.2.2.2.2.2.1, hts⟩ sp hcu ⟨PM.blind, va_recv (D := gD G) q.2.2.2.2.1.1 (one_P h0) cf.1 (q0 := 0) rfl, fun U hU hW => ⟨rfl, q.pre hU hW⟩⟩ rfl hn (by rw [C.2.2.1, ← q.2.2.2.2.2.2.2]; exact q.2.2.2.2.2.2.1.1) rfl (lv_room hw) hd ⟨hR.2.2.1, hR.2.2.2⟩) q.le (fun _ E' _ _ h => by rw [h.1]; rfl) (fun r E' iv' lv' h => by rw [h.1]; exact kk r iv' lv' h.2)
theorem aw_mmax {x y : Int32} {idx : Nat} (hd : decode μ.2.1 pc = .ok (.invokestatic idx, 3)) (hm : Cond.methodLink μ.1.cls idx Lib.Math.max.name ∈ tb) (hst : Cond.static Lib.Math.max.name ∈ tb) (hin : Cond.initialized "java/lang/Math" ∈ tb) (hc : Cond.code Lib.Math.max.name Lib.Math.max.code 2 (some .int) ∈ tb) (hw : (st.map fun v => v.category).sum ≤ 60) (hR : RB R z0 E 1 0) (kk : AW G μ R Z X z0 (pc + 3) lo (.int (if x < y then y else x) :: st) E iv lv) : AW G μ R Z X z0 pc lo (.int y :: .int x :: st) E iv lv :=
  fun p e s m args below meth c H locs ls C q => by
    have hts := C.2.2.2.2.2.2.1
    exact va_mmax C.1 C.2.1 (by rw [C.2.2.1, ← q.2.2.2.2.2.2.2]; exact q.2.2.2.2.2.2.1.1.symm) C.2.2.2.2.2.1 (hts _ hm) (hts _ hst) (hts _ hin) (hts _ hc) hR.1 (by have := hR.2.1; omega) hR.2.2.1 hR.2.2.2 hd (kk p e s m args below meth c H locs ls C q)
theorem aw_mmin {x y : Int32} {idx : Nat} (hd : decode μ.2.1 pc = .ok (.invokestatic idx, 3)) (hm : Cond.methodLink μ.1.cls idx Lib.Math.min.name ∈ tb) (hst : Cond.static Lib.Math.min.name ∈ tb) (hin : Cond.initialized "java/lang/Math" ∈ tb) (hc : Cond.code Lib.Math.min.name Lib.Math.min.code 2 (some .int) ∈ tb) (hw : (st.map fun v => v.category).sum ≤ 60) (hR : RB R z0 E 1 0) (kk : AW G μ R Z X z0 (pc + 3) lo (.int (if y < x then y else x) :: st) E iv lv) : AW G μ R Z X z0 pc lo (.int y :: .int x :: st) E iv lv :=
  fun p e s m args below meth c H locs ls C q => by
    have hts := C.2.2.2.2.2.2.1
    exact va_mmin C.1 C.2.1 (by rw [C.2.2.1, ← q.2.2.2.2.2.2.2]; exact q.2.2.2.2.2.2.1.1.symm) C.2.2.2.2.2.1 (hts _ hm) (hts _ hst) (hts _ hin) (hts _ hc) hR.1 (by have := hR.2.1; omega) hR.2.2.1 hR.2.2.2 hd (kk p e s m args below meth c H locs ls C q)
theorem aw_copy {idx a0 a n0 n1 jn jd js : Nat} {sp dp n : Int32} (hd : decode μ.2.1 pc = .ok (.invokestatic idx, 3)) (hm : Cond.methodLink μ.1.cls idx arraycopyName ∈ tb) (hst : Cond.static arraycopyName ∈ tb) (hna : Cond.native arraycopyName ∈ tb) (hin : Cond.initialized "java/lang/System" ∈ tb) (h0 : Sh G E a0 20 n0) (h1 : Sh G E a 20 n1) (es : sp = nI js) (ed : dp = nI jd) (en : n = nI jn) (hs : js + jn ≤ n0) (hdd : jd + jn ≤ n1) (hw : (st.map fun v => v.category).sum ≤ 60) (hR : RB R z0 E 1 0) (kk : AW G μ R Z X z0 (pc + 3) lo st E (va_up iv a (va_cpy (iv a0) (iv a) js jd jn)) lv) (hn0 : n0 < 2 ^ 31 := by decide) (hn1 : n1 < 2 ^ 31 := by decide) : AW G μ R Z X z0 pc lo (.int n :: .int dp :: .ref a :: .int sp :: .ref a0 :: st) E iv lv :=
  fun p e s m args below meth c H locs ls C q => by
    have hts := C.2.2.2.2.2.2.1
    subst es ed en
    have es : (nI js).toNatClampNeg = js := nI_clamp (by omega)
    have ed : (nI jd).toNatClampNeg = jd := nI_clamp (by omega)
    have en : (nI jn).toNatClampNeg = jn := nI_clamp (by omega)
    have hwd := q.2.2.2.2.1
    obtain ⟨hK, hA, hz, hB⟩ := q.2.2.2.2.1
    have g0 := hA a0 h0.1 h0.2.1
    rw [ce_i h0.2.2 (by decide) (by decide)] at g0
    have g1 := hA a h1.1 h1.2.1
    rw [ce_i h1.2.2 (by decide) (by decide)] at g1
    have hc0 : H[a0]? = some (vp_cell (gA G 0) (n0, .inl (iv a0))) := g0
    have hc1 : H[a]? = some (vp_cell (gA G 0) (n1, .inl (iv a))) := g1
    obtain ⟨-, k0, hk0, cm0, hkk0⟩ := (hK.2 0 _ rfl).1 n0 (fun j => .int (iv a0 j))
    obtain ⟨-, k1, hk1, cm1, hkk1⟩ := (hK.2 0 _ rfl).1 n1 (fun j => .int (iv a j))
    have nn : ∀ z : Nat, z < 2 ^ 31 → (nI z).toInt = (z : Int) := fun z h => nI_toInt h
    intro T hT Xs
    obtain ⟨vm', X', step⟩ := Xs.arraycopy C.1 C.2.2.2.2.2.1 (hts _ hm) (hts _ hna) (hts _ hst) (hts _ hin) (src := a0) (dst := a) (cs := vp_cell (gA G 0) (n0, .inl (iv a0))) (cd := vp_cell (gA G 0) (n1, .inl (iv a))) (srcPos := nI js) (destPos := nI jd) (n := nI jn) (by rw [hT]; exact hc0) (by rw [hT]; exact hc1)
      (fun _ h => by cases h) (fun _ h => by cases h) (fun h => by cases h) (fun h => by cases h) hk0 hk1 hkk0 hkk1 rfl (nI_pos (by omega)) (nI_pos (by omega)) (nI_pos (by omega))
      (by rw [nn js (by omega), nn jn (by omega)]; show ¬ _ > ((arrV (gA G 0) n0 (fun j => .int (iv a0 j))).slots.size : Int); rw [arrV_size]; omega)
      (by rw [nn jd (by omega), nn jn (by omega)]; show ¬ _ > ((arrV (gA G 0) n1 (fun j => .int (iv a j))).slots.size : Int); rw [arrV_size]; omega)
      (fun vm₁ _ i hi => by
        rw [en] at hi
        have e : (vp_cell (gA G 0) (n0, .inl (iv a0))).slots.getD ((nI js).toNatClampNeg + i) .null = .int (iv a0 ((nI js).toNatClampNeg + i)) := by
          show (arrV (gA G 0) n0 (fun j => .int (iv a0 j))).slots.getD _ _ = _
          rw [Array.getD_eq_getD_getElem?, arrV_read _ _ (by rw [es]; omega)]
          rfl
        exact ⟨by rw [e]; rfl, by rw [e]; exact trivial⟩)
      (g := F0 m pc ls (.int (nI jn) :: .int (nI jd) :: .ref a :: .int (nI js) :: .ref a0 :: st)) rfl (by rw [C.2.2.1, ← q.2.2.2.2.2.2.2]; exact q.2.2.2.2.2.2.1.1) (rest := st) rfl (by rw [C.2.1]; exact hd) hR.1 (by
        have h9 := hR.2.1
        have h8 : nativeFrameWords "java/lang/System" "arraycopy" 5 ≤ 20 := by decide
        show 2 * 0 + _ + _ ≤ _
        omega)
    have e1 : copied (vp_cell (gA G 0) (n0, .inl (iv a0))) (vp_cell (gA G 0) (n1, .inl (iv a))) (nI js) (nI jd) (nI jn) = vp_cell (gA G 0) (n1, .inl (va_cpy (iv a0) (iv a) (nI js).toNatClampNeg (nI jd).toNatClampNeg (nI jn).toNatClampNeg)) := va_copied (fun z => .int z) (gA G 0) (gA G 0) (iv a0) (iv a) (by rw [es, en]; exact hs)
    rw [e1] at X' step
    rw [es, ed, en] at X' step
    have hl : a < H.size := (Array.getElem?_eq_some_iff.mp hc1).1
    have hheap : ((T.setVm vm').setCell a (vp_cell (gA G 0) (n1, .inl (va_cpy (iv a0) (iv a) js jd jn)))).heap = H.setIfInBounds a (vp_cell (gA G 0) (n1, .inl (va_cpy (iv a0) (iv a) js jd jn))) := by rw [← hT]; rfl
    have oq : ∀ q : Nat, q ≠ a → (H.setIfInBounds a (vp_cell (gA G 0) (n1, .inl (va_cpy (iv a0) (iv a) js jd jn))))[q]? = H[q]? := fun q hq => by simp [Array.getElem?_setIfInBounds, Ne.symm hq]
    obtain ⟨t, a1, b1⟩ := kk p e s m args below meth c _ _ ls C ⟨q.1, q.2.1, q.2.2.1, q.2.2.2.1, wd.set (G := G) (a := a) hwd rfl (fun b hb => ce_eq rfl rfl (by simp [va_up, hb]) rfl) (by simp) oq (by
      rw [ce_i h1.2.2 (by decide) (by decide)]
      show (H.setIfInBounds a _)[a]? = some _
      simp [Array.getElem?_setIfInBounds, hl, va_up]), ⟨by simp; exact q.2.2.2.2.2.1.1, fun x g1 g2 => by
        rw [oq x (fun e => g2 (by rw [e]; exact h1.1))]
        exact q.2.2.2.2.2.1.2.1 x g1 g2, fun x hx => by
        rcases List.mem_append.mp hx with h | h
        · exact q.2.2.2.2.2.1.2.2 x h
        · obtain ⟨z, -, hz⟩ := List.mem_map.mp h
          rw [← hz]
          exact h1.1⟩, q.2.2.2.2.2.2⟩ _ hheap X'
    exact ⟨t, step t a1, b1⟩
end AWH
end
section
theorem cfX0 : CF 0 RX0 TX0 0 := ⟨rfl, rfl, by decide, tb_in [] (by decide +kernel) (by decide +kernel), fun k hk => tyX0_ok k hk, nmX0⟩
theorem cfX1 : CF 1 RX1 TX1 0 := ⟨rfl, rfl, by decide, tb_in [] (by decide +kernel) (by decide +kernel), fun k hk => tyX1_ok k hk, nmX1⟩
theorem cfX2 : CF 2 RX2 TX2 0 := ⟨rfl, rfl, by decide, tb_in [] (by decide +kernel) (by decide +kernel), fun k hk => tyX2_ok k hk, nmX2⟩
theorem cfX3 : CF 3 RX3 TX3 10 := ⟨rfl, rfl, by decide, tb_in [242, 244, 246, 248, 250, 252, 254, 256, 258, 260] (by decide +kernel) (by decide +kernel), fun k hk => tyX3_ok k hk, nmX3⟩
theorem cfX4 : CF 4 RX4 TX4 0 := ⟨rfl, rfl, by decide, tb_in [] (by decide +kernel) (by decide +kernel), fun k hk => tyX4_ok k hk, nmX4⟩
theorem cfX5 : CF 5 RX5 TX5 2 := ⟨rfl, rfl, by decide, tb_in [98, 100] (by decide +kernel) (by decide +kernel), fun k hk => tyX5_ok k hk, nmX5⟩
theorem cfX6 : CF 6 RX6 TX6 0 := ⟨rfl, rfl, by decide, tb_in [] (by decide +kernel) (by decide +kernel), fun k hk => tyX6_ok k hk, nmX6⟩
theorem cfX7 : CF 7 RX7 TX7 2 := ⟨rfl, rfl, by decide, tb_in [279, 281] (by decide +kernel) (by decide +kernel), fun k hk => tyX7_ok k hk, nmX7⟩
theorem cfX8 : CF 8 RX8 TX8 0 := ⟨rfl, rfl, by decide, tb_in [] (by decide +kernel) (by decide +kernel), fun k hk => tyX8_ok k hk, nmX8⟩
theorem cfX9 : CF 9 RX9 TX9 16 := ⟨rfl, rfl, by decide, tb_in [183, 185, 187, 189, 191, 193, 195, 197, 199, 201, 203, 205, 207, 209, 211, 213] (by decide +kernel) (by decide +kernel), fun k hk => tyX9_ok k hk, nmX9⟩
theorem cfX10 : CF 10 RX10 TX10 11 := ⟨rfl, rfl, by decide, tb_in [295, 297, 299, 301, 303, 305, 307, 309, 311, 313, 315] (by decide +kernel) (by decide +kernel), fun k hk => tyX10_ok k hk, nmX10⟩
theorem cfX11 : CF 11 RX11 TX11 29 := ⟨rfl, rfl, by decide, tb_in [886, 888, 890, 892, 894, 896, 898, 900, 902, 904, 906, 908, 910, 912, 914, 916, 918, 920, 922, 924, 926, 928, 930, 932, 934, 936, 938, 940, 942] (by decide +kernel) (by decide +kernel), fun k hk => tyX11_ok k hk, nmX11⟩
theorem fgX10_11 : FG RX10 11 10 0 := ⟨_, _, _, cfX10, by decide, tb_at (i := 284) (by decide +kernel) rfl⟩
theorem fpX10_11 : FL RX10 11 10 0 true := ⟨_, _, _, cfX10, by decide, tb_at (i := 284) (by decide +kernel) rfl, rfl, fun _ => rfl⟩
theorem fgX10_15 : FG RX10 15 10 1 := ⟨_, _, _, cfX10, by decide, tb_at (i := 285) (by decide +kernel) rfl⟩
theorem fpX10_15 : FL RX10 15 10 1 true := ⟨_, _, _, cfX10, by decide, tb_at (i := 285) (by decide +kernel) rfl, rfl, fun _ => rfl⟩
theorem fgX10_21 : FG RX10 21 10 2 := ⟨_, _, _, cfX10, by decide, tb_at (i := 286) (by decide +kernel) rfl⟩
theorem fpX10_21 : FL RX10 21 10 2 true := ⟨_, _, _, cfX10, by decide, tb_at (i := 286) (by decide +kernel) rfl, rfl, fun _ => rfl⟩
theorem fgX10_28 : FG RX10 28 10 3 := ⟨_, _, _, cfX10, by decide, tb_at (i := 287) (by decide +kernel) rfl⟩
theorem fpX10_28 : FL RX10 28 10 3 true := ⟨_, _, _, cfX10, by decide, tb_at (i := 287) (by decide +kernel) rfl, rfl, fun _ => rfl⟩
theorem fgX10_32 : FG RX10 32 10 4 := ⟨_, _, _, cfX10, by decide, tb_at (i := 288) (by decide +kernel) rfl⟩
theorem fpX10_32 : FL RX10 32 10 4 true := ⟨_, _, _, cfX10, by decide, tb_at (i := 288) (by decide +kernel) rfl, rfl, fun _ => rfl⟩
theorem fgX10_39 : FG RX10 39 10 5 := ⟨_, _, _, cfX10, by decide, tb_at (i := 289) (by decide +kernel) rfl⟩
theorem fpX10_39 : FL RX10 39 10 5 true := ⟨_, _, _, cfX10, by decide, tb_at (i := 289) (by decide +kernel) rfl, rfl, fun _ => rfl⟩
theorem fgX10_43 : FG RX10 43 10 6 := ⟨_, _, _, cfX10, by decide, tb_at (i := 290) (by decide +kernel) rfl⟩
theorem fpX10_43 : FL RX10 43 10 6 true := ⟨_, _, _, cfX10, by decide, tb_at (i := 290) (by decide +kernel) rfl, rfl, fun _ => rfl⟩
theorem fgX10_47 : FG RX10 47 10 7 := ⟨_, _, _, cfX10, by decide, tb_at (i := 291) (by decide +kernel) rfl⟩
theorem fpX10_47 : FL RX10 47 10 7 false := ⟨_, _, _, cfX10, by decide, tb_at (i := 291) (by decide +kernel) rfl, rfl, fun _ => rfl⟩
theorem fgX10_51 : FG RX10 51 10 8 := ⟨_, _, _, cfX10, by decide, tb_at (i := 292) (by decide +kernel) rfl⟩
theorem fpX10_51 : FL RX10 51 10 8 false := ⟨_, _, _, cfX10, by decide, tb_at (i := 292) (by decide +kernel) rfl, rfl, fun _ => rfl⟩
theorem fgX10_54 : FG RX10 54 10 9 := ⟨_, _, _, cfX10, by decide, tb_at (i := 293) (by decide +kernel) rfl⟩
theorem fpX10_54 : FL RX10 54 10 9 false := ⟨_, _, _, cfX10, by decide, tb_at (i := 293) (by decide +kernel) rfl, rfl, fun _ => rfl⟩
theorem fgX10_58 : FG RX10 58 10 10 := ⟨_, _, _, cfX10, by decide, tb_at (i := 294) (by decide +kernel) rfl⟩
theorem fpX10_58 : FL RX10 58 10 10 false := ⟨_, _, _, cfX10, by decide, tb_at (i := 294) (by decide +kernel) rfl, rfl, fun _ => rfl⟩
theorem fgX10_80 : FG RX10 80 7 0 := ⟨_, _, _, cfX7, by decide, tb_at (i := 273) (by decide +kernel) rfl⟩
theorem fgX10_100 : FG RX10 100 7 1 := ⟨_, _, _, cfX7, by decide, tb_at (i := 277) (by decide +kernel) rfl⟩
theorem fgX10_118 : FG RX10 118 9 0 := ⟨_, _, _, cfX9, by decide, tb_at (i := 155) (by decide +kernel) rfl⟩
theorem fpX10_118 : FL RX10 118 9 0 false := ⟨_, _, _, cfX9, by decide, tb_at (i := 155) (by decide +kernel) rfl, rfl, fun _ => rfl⟩
theorem fgX10_137 : FG RX10 137 9 9 := ⟨_, _, _, cfX9, by decide, tb_at (i := 176) (by decide +kernel) rfl⟩
theorem fgX10_148 : FG RX10 148 9 7 := ⟨_, _, _, cfX9, by decide, tb_at (i := 170) (by decide +kernel) rfl⟩
theorem fgX10_151 : FG RX10 151 9 1 := ⟨_, _, _, cfX9, by decide, tb_at (i := 158) (by decide +kernel) rfl⟩
theorem fgX10_159 : FG RX10 159 9 5 := ⟨_, _, _, cfX9, by decide, tb_at (i := 166) (by decide +kernel) rfl⟩
theorem fgX10_168 : FG RX10 168 9 2 := ⟨_, _, _, cfX9, by decide, tb_at (i := 160) (by decide +kernel) rfl⟩
theorem fgX10_179 : FG RX10 179 9 8 := ⟨_, _, _, cfX9, by decide, tb_at (i := 173) (by decide +kernel) rfl⟩
theorem fgX10_201 : FG RX10 201 3 4 := ⟨_, _, _, cfX3, by decide, tb_at (i := 232) (by decide +kernel) rfl⟩
theorem fgX10_239 : FG RX10 239 3 7 := ⟨_, _, _, cfX3, by decide, tb_at (i := 237) (by decide +kernel) rfl⟩
theorem fgX10_242 : FG RX10 242 3 9 := ⟨_, _, _, cfX3, by decide, tb_at (i := 241) (by decide +kernel) rfl⟩
theorem fgX10_249 : FG RX10 249 3 8 := ⟨_, _, _, cfX3, by decide, tb_at (i := 239) (by decide +kernel) rfl⟩
theorem fgX10_303 : FG RX10 303 3 6 := ⟨_, _, _, cfX3, by decide, tb_at (i := 235) (by decide +kernel) rfl⟩
theorem fgX11_7 : FG RX11 7 11 2 := ⟨_, _, _, cfX11, by decide, tb_at (i := 859) (by decide +kernel) rfl⟩
theorem fpX11_7 : FL RX11 7 11 2 false := ⟨_, _, _, cfX11, by decide, tb_at (i := 859) (by decide +kernel) rfl, rfl, fun _ => rfl⟩
theorem fgX11_13 : FG RX11 13 11 4 := ⟨_, _, _, cfX11, by decide, tb_at (i := 861) (by decide +kernel) rfl⟩
theorem fpX11_13 : FL RX11 13 11 4 true := ⟨_, _, _, cfX11, by decide, tb_at (i := 861) (by decide +kernel) rfl, rfl, fun _ => rfl⟩
theorem fgX11_17 : FG RX11 17 11 5 := ⟨_, _, _, cfX11, by decide, tb_at (i := 862) (by decide +kernel) rfl⟩
theorem fpX11_17 : FL RX11 17 11 5 true := ⟨_, _, _, cfX11, by decide, tb_at (i := 862) (by decide +kernel) rfl, rfl, fun _ => rfl⟩
theorem fgX11_20 : FG RX11 20 11 6 := ⟨_, _, _, cfX11, by decide, tb_at (i := 863) (by decide +kernel) rfl⟩
theorem fpX11_20 : FL RX11 20 11 6 true := ⟨_, _, _, cfX11, by decide, tb_at (i := 863) (by decide +kernel) rfl, rfl, fun _ => rfl⟩
theorem fgX11_23 : FG RX11 23 11 7 := ⟨_, _, _, cfX11, by decide, tb_at (i := 864) (by decide +kernel) rfl⟩
theorem fpX11_23 : FL RX11 23 11 7 true := ⟨_, _, _, cfX11, by decide, tb_at (i := 864) (by decide +kernel) rfl, rfl, fun _ => rfl⟩
theorem fgX11_26 : FG RX11 26 11 8 := ⟨_, _, _, cfX11, by decide, tb_at (i := 865) (by decide +kernel) rfl⟩
theorem fpX11_26 : FL RX11 26 11 8 true := ⟨_, _, _, cfX11, by decide, tb_at (i := 865) (by decide +kernel) rfl, rfl, fun _ => rfl⟩
theorem fgX11_29 : FG RX11 29 11 9 := ⟨_, _, _, cfX11, by decide, tb_at (i := 866) (by decide +kernel) rfl⟩
theorem fpX11_29 : FL RX11 29 11 9 true := ⟨_, _, _, cfX11, by decide, tb_at (i := 866) (by decide +kernel) rfl, rfl, fun _ => rfl⟩
theorem fgX11_33 : FG RX11 33 11 12 := ⟨_, _, _, cfX11, by decide, tb_at (i := 869) (by decide +kernel) rfl⟩
theorem fpX11_33 : FL RX11 33 11 12 true := ⟨_, _, _, cfX11, by decide, tb_at (i := 869) (by decide +kernel) rfl, rfl, fun _ => rfl⟩
theorem fgX11_36 : FG RX11 36 11 13 := ⟨_, _, _, cfX11, by decide, tb_at (i := 870) (by decide +kernel) rfl⟩
theorem fpX11_36 : FL RX11 36 11 13 true := ⟨_, _, _, cfX11, by decide, tb_at (i := 870) (by decide +kernel) rfl, rfl, fun _ => rfl⟩
theorem fgX11_39 : FG RX11 39 11 15 := ⟨_, _, _, cfX11, by decide, tb_at (i := 872) (by decide +kernel) rfl⟩
theorem fpX11_39 : FL RX11 39 11 15 true := ⟨_, _, _, cfX11, by decide, tb_at (i := 872) (by decide +kernel) rfl, rfl, fun _ => rfl⟩
theorem fgX11_42 : FG RX11 42 11 16 := ⟨_, _, _, cfX11, by decide, tb_at (i := 873) (by decide +kernel) rfl⟩
theorem fpX11_42 : FL RX11 42 11 16 true := ⟨_, _, _, cfX11, by decide, tb_at (i := 873) (by decide +kernel) rfl, rfl, fun _ => rfl⟩
theorem fgX11_45 : FG RX11 45 11 17 := ⟨_, _, _, cfX11, by decide, tb_at (i := 874) (by decide +kernel) rfl⟩
theorem fpX11_45 : FL RX11 45 11 17 true := ⟨_, _, _, cfX11, by decide, tb_at (i := 874) (by decide +kernel) rfl, rfl, fun _ => rfl⟩
theorem fgX11_48 : FG RX11 48 11 18 := ⟨_, _, _, cfX11, by decide, tb_at (i := 875) (by decide +kernel) rfl⟩
theorem fpX11_48 : FL RX11 48 11 18 true := ⟨_, _, _, cfX11, by decide, tb_at (i := 875) (by decide +kernel) rfl, rfl, fun _ => rfl⟩
theorem fgX11_51 : FG RX11 51 11 19 := ⟨_, _, _, cfX11, by decide, tb_at (i := 876) (by decide +kernel) rfl⟩
theorem fpX11_51 : FL RX11 51 11 19 true := ⟨_, _, _, cfX11, by decide, tb_at (i := 876) (by decide +kernel) rfl, rfl, fun _ => rfl⟩
theorem fgX11_54 : FG RX11 54 11 21 := ⟨_, _, _, cfX11, by decide, tb_at (i := 878) (by decide +kernel) rfl⟩
theorem fpX11_54 : FL RX11 54 11 21 true := ⟨_, _, _, cfX11, by decide, tb_at (i := 878) (by decide +kernel) rfl, rfl, fun _ => rfl⟩
theorem fgX11_57 : FG RX11 57 11 22 := ⟨_, _, _, cfX11, by decide, tb_at (i := 879) (by decide +kernel) rfl⟩
theorem fpX11_57 : FL RX11 57 11 22 true := ⟨_, _, _, cfX11, by decide, tb_at (i := 879) (by decide +kernel) rfl, rfl, fun _ => rfl⟩
theorem fgX11_60 : FG RX11 60 11 23 := ⟨_, _, _, cfX11, by decide, tb_at (i := 880) (by decide +kernel) rfl⟩
theorem fpX11_60 : FL RX11 60 11 23 true := ⟨_, _, _, cfX11, by decide, tb_at (i := 880) (by decide +kernel) rfl, rfl, fun _ => rfl⟩
theorem fgX11_63 : FG RX11 63 11 24 := ⟨_, _, _, cfX11, by decide, tb_at (i := 881) (by decide +kernel) rfl⟩
theorem fpX11_63 : FL RX11 63 11 24 true := ⟨_, _, _, cfX11, by decide, tb_at (i := 881) (by decide +kernel) rfl, rfl, fun _ => rfl⟩
theorem fgX11_66 : FG RX11 66 11 3 := ⟨_, _, _, cfX11, by decide, tb_at (i := 860) (by decide +kernel) rfl⟩
theorem fpX11_66 : FL RX11 66 11 3 false := ⟨_, _, _, cfX11, by decide, tb_at (i := 860) (by decide +kernel) rfl, rfl, fun _ => rfl⟩
theorem fgX11_70 : FG RX11 70 11 0 := ⟨_, _, _, cfX11, by decide, tb_at (i := 857) (by decide +kernel) rfl⟩
theorem fpX11_70 : FL RX11 70 11 0 false := ⟨_, _, _, cfX11, by decide, tb_at (i := 857) (by decide +kernel) rfl, rfl, fun _ => rfl⟩
theorem fgX11_73 : FG RX11 73 11 1 := ⟨_, _, _, cfX11, by decide, tb_at (i := 858) (by decide +kernel) rfl⟩
theorem fpX11_73 : FL RX11 73 11 1 false := ⟨_, _, _, cfX11, by decide, tb_at (i := 858) (by decide +kernel) rfl, rfl, fun _ => rfl⟩
theorem fgX11_98 : FG RX11 98 11 10 := ⟨_, _, _, cfX11, by decide, tb_at (i := 867) (by decide +kernel) rfl⟩
theorem fpX11_98 : FL RX11 98 11 10 false := ⟨_, _, _, cfX11, by decide, tb_at (i := 867) (by decide +kernel) rfl, rfl, fun _ => rfl⟩
theorem fgX11_110 : FG RX11 110 11 11 := ⟨_, _, _, cfX11, by decide, tb_at (i := 868) (by decide +kernel) rfl⟩
theorem fpX11_110 : FL RX11 110 11 11 false := ⟨_, _, _, cfX11, by decide, tb_at (i := 868) (by decide +kernel) rfl, rfl, fun _ => rfl⟩
theorem fgX11_126 : FG RX11 126 11 14 := ⟨_, _, _, cfX11, by decide, tb_at (i := 871) (by decide +kernel) rfl⟩
theorem fpX11_126 : FL RX11 126 11 14 false := ⟨_, _, _, cfX11, by decide, tb_at (i := 871) (by decide +kernel) rfl, rfl, fun _ => rfl⟩
theorem fgX11_129 : FG RX11 129 11 20 := ⟨_, _, _, cfX11, by decide, tb_at (i := 877) (by decide +kernel) rfl⟩
theorem fpX11_129 : FL RX11 129 11 20 false := ⟨_, _, _, cfX11, by decide, tb_at (i := 877) (by decide +kernel) rfl, rfl, fun _ => rfl⟩
theorem fgX11_228 : FG RX11 228 11 25 := ⟨_, _, _, cfX11, by decide, tb_at (i := 882) (by decide +kernel) rfl⟩
theorem fpX11_228 : FL RX11 228 11 25 false := ⟨_, _, _, cfX11, by decide, tb_at (i := 882) (by decide +kernel) rfl, rfl, fun _ => rfl⟩
theorem fgX11_233 : FG RX11 233 11 26 := ⟨_, _, _, cfX11, by decide, tb_at (i := 883) (by decide +kernel) rfl⟩
theorem fpX11_233 : FL RX11 233 11 26 false := ⟨_, _, _, cfX11, by decide, tb_at (i := 883) (by decide +kernel) rfl, rfl, fun _ => rfl⟩
theorem fgX11_236 : FG RX11 236 11 27 := ⟨_, _, _, cfX11, by decide, tb_at (i := 884) (by decide +kernel) rfl⟩
theorem fpX11_236 : FL RX11 236 11 27 false := ⟨_, _, _, cfX11, by decide, tb_at (i := 884) (by decide +kernel) rfl, rfl, fun _ => rfl⟩
theorem fgX11_263 : FG RX11 263 11 28 := ⟨_, _, _, cfX11, by decide, tb_at (i := 885) (by decide +kernel) rfl⟩
theorem fpX11_263 : FL RX11 263 11 28 false := ⟨_, _, _, cfX11, by decide, tb_at (i := 885) (by decide +kernel) rfl, rfl, fun _ => rfl⟩
theorem fgX3_12 : FG RX3 12 3 0 := ⟨_, _, _, cfX3, by decide, tb_at (i := 227) (by decide +kernel) rfl⟩
theorem fpX3_12 : FL RX3 12 3 0 true := ⟨_, _, _, cfX3, by decide, tb_at (i := 227) (by decide +kernel) rfl, rfl, fun _ => rfl⟩
theorem fgX3_18 : FG RX3 18 3 1 := ⟨_, _, _, cfX3, by decide, tb_at (i := 228) (by decide +kernel) rfl⟩
theorem fpX3_18 : FL RX3 18 3 1 true := ⟨_, _, _, cfX3, by decide, tb_at (i := 228) (by decide +kernel) rfl, rfl, fun _ => rfl⟩
theorem fgX3_22 : FG RX3 22 3 2 := ⟨_, _, _, cfX3, by decide, tb_at (i := 229) (by decide +kernel) rfl⟩
theorem fpX3_22 : FL RX3 22 3 2 true := ⟨_, _, _, cfX3, by decide, tb_at (i := 229) (by decide +kernel) rfl, rfl, fun _ => rfl⟩
theorem fgX3_27 : FG RX3 27 3 3 := ⟨_, _, _, cfX3, by decide, tb_at (i := 230) (by decide +kernel) rfl⟩
theorem fpX3_27 : FL RX3 27 3 3 true := ⟨_, _, _, cfX3, by decide, tb_at (i := 230) (by decide +kernel) rfl, rfl, fun _ => rfl⟩
theorem fgX3_30 : FG RX3 30 3 4 := ⟨_, _, _, cfX3, by decide, tb_at (i := 231) (by decide +kernel) rfl⟩
theorem fpX3_30 : FL RX3 30 3 4 true := ⟨_, _, _, cfX3, by decide, tb_at (i := 231) (by decide +kernel) rfl, rfl, fun _ => rfl⟩
theorem fgX3_33 : FG RX3 33 3 5 := ⟨_, _, _, cfX3, by decide, tb_at (i := 233) (by decide +kernel) rfl⟩
theorem fpX3_33 : FL RX3 33 3 5 false := ⟨_, _, _, cfX3, by decide, tb_at (i := 233) (by decide +kernel) rfl, rfl, fun _ => rfl⟩
theorem fgX3_37 : FG RX3 37 3 6 := ⟨_, _, _, cfX3, by decide, tb_at (i := 234) (by decide +kernel) rfl⟩
theorem fpX3_37 : FL RX3 37 3 6 false := ⟨_, _, _, cfX3, by decide, tb_at (i := 234) (by decide +kernel) rfl, rfl, fun _ => rfl⟩
theorem fgX3_40 : FG RX3 40 3 7 := ⟨_, _, _, cfX3, by decide, tb_at (i := 236) (by decide +kernel) rfl⟩
theorem fpX3_40 : FL RX3 40 3 7 false := ⟨_, _, _, cfX3, by decide, tb_at (i := 236) (by decide +kernel) rfl, rfl, fun _ => rfl⟩
theorem fgX3_44 : FG RX3 44 3 8 := ⟨_, _, _, cfX3, by decide, tb_at (i := 238) (by decide +kernel) rfl⟩
theorem fpX3_44 : FL RX3 44 3 8 false := ⟨_, _, _, cfX3, by decide, tb_at (i := 238) (by decide +kernel) rfl, rfl, fun _ => rfl⟩
theorem fgX3_47 : FG RX3 47 3 9 := ⟨_, _, _, cfX3, by decide, tb_at (i := 240) (by decide +kernel) rfl⟩
theorem fpX3_47 : FL RX3 47 3 9 false := ⟨_, _, _, cfX3, by decide, tb_at (i := 240) (by decide +kernel) rfl, rfl, fun _ => rfl⟩
theorem fgX3_54 : FG RX3 54 9 1 := ⟨_, _, _, cfX9, by decide, tb_at (i := 157) (by decide +kernel) rfl⟩
theorem fgX3_55 : FG RX3 55 9 0 := ⟨_, _, _, cfX9, by decide, tb_at (i := 154) (by decide +kernel) rfl⟩
theorem fgX3_62 : FG RX3 62 9 7 := ⟨_, _, _, cfX9, by decide, tb_at (i := 169) (by decide +kernel) rfl⟩
theorem fgX3_89 : FG RX3 89 9 9 := ⟨_, _, _, cfX9, by decide, tb_at (i := 175) (by decide +kernel) rfl⟩
theorem fgX3_101 : FG RX3 101 9 8 := ⟨_, _, _, cfX9, by decide, tb_at (i := 172) (by decide +kernel) rfl⟩
theorem fgX3_104 : FG RX3 104 9 4 := ⟨_, _, _, cfX9, by decide, tb_at (i := 163) (by decide +kernel) rfl⟩
theorem fgX3_111 : FG RX3 111 9 5 := ⟨_, _, _, cfX9, by decide, tb_at (i := 165) (by decide +kernel) rfl⟩
theorem fgX3_114 : FG RX3 114 7 1 := ⟨_, _, _, cfX7, by decide, tb_at (i := 278) (by decide +kernel) rfl⟩
theorem fgX3_119 : FG RX3 119 7 0 := ⟨_, _, _, cfX7, by decide, tb_at (i := 274) (by decide +kernel) rfl⟩
theorem fgX5_9 : FG RX5 9 5 0 := ⟨_, _, _, cfX5, by decide, tb_at (i := 95) (by decide +kernel) rfl⟩
theorem fpX5_9 : FL RX5 9 5 0 true := ⟨_, _, _, cfX5, by decide, tb_at (i := 95) (by decide +kernel) rfl, rfl, fun _ => rfl⟩
theorem fgX5_15 : FG RX5 15 5 1 := ⟨_, _, _, cfX5, by decide, tb_at (i := 97) (by decide +kernel) rfl⟩
theorem fpX5_15 : FL RX5 15 5 1 false := ⟨_, _, _, cfX5, by decide, tb_at (i := 97) (by decide +kernel) rfl, rfl, fun _ => rfl⟩
theorem fgX5_19 : FG RX5 19 7 1 := ⟨_, _, _, cfX7, by decide, tb_at (i := 276) (by decide +kernel) rfl⟩
theorem fgX5_24 : FG RX5 24 7 0 := ⟨_, _, _, cfX7, by decide, tb_at (i := 272) (by decide +kernel) rfl⟩
theorem fgX7_7 : FG RX7 7 7 1 := ⟨_, _, _, cfX7, by decide, tb_at (i := 275) (by decide +kernel) rfl⟩
theorem fpX7_7 : FL RX7 7 7 1 false := ⟨_, _, _, cfX7, by decide, tb_at (i := 275) (by decide +kernel) rfl, rfl, fun _ => rfl⟩
theorem fgX7_19 : FG RX7 19 7 0 := ⟨_, _, _, cfX7, by decide, tb_at (i := 271) (by decide +kernel) rfl⟩
theorem fpX7_19 : FL RX7 19 7 0 true := ⟨_, _, _, cfX7, by decide, tb_at (i := 271) (by decide +kernel) rfl, rfl, fun _ => rfl⟩
theorem fgX9_9 : FG RX9 9 9 0 := ⟨_, _, _, cfX9, by decide, tb_at (i := 153) (by decide +kernel) rfl⟩
theorem fpX9_9 : FL RX9 9 9 0 false := ⟨_, _, _, cfX9, by decide, tb_at (i := 153) (by decide +kernel) rfl, rfl, fun _ => rfl⟩
theorem fgX9_15 : FG RX9 15 9 1 := ⟨_, _, _, cfX9, by decide, tb_at (i := 156) (by decide +kernel) rfl⟩
theorem fpX9_15 : FL RX9 15 9 1 false := ⟨_, _, _, cfX9, by decide, tb_at (i := 156) (by decide +kernel) rfl, rfl, fun _ => rfl⟩
theorem fgX9_18 : FG RX9 18 9 2 := ⟨_, _, _, cfX9, by decide, tb_at (i := 159) (by decide +kernel) rfl⟩
theorem fpX9_18 : FL RX9 18 9 2 false := ⟨_, _, _, cfX9, by decide, tb_at (i := 159) (by decide +kernel) rfl, rfl, fun _ => rfl⟩
theorem fgX9_39 : FG RX9 39 9 3 := ⟨_, _, _, cfX9, by decide, tb_at (i := 161) (by decide +kernel) rfl⟩
theorem fpX9_39 : FL RX9 39 9 3 true := ⟨_, _, _, cfX9, by decide, tb_at (i := 161) (by decide +kernel) rfl, rfl, fun _ => rfl⟩
theorem fgX9_43 : FG RX9 43 9 4 := ⟨_, _, _, cfX9, by decide, tb_at (i := 162) (by decide +kernel) rfl⟩
theorem fpX9_43 : FL RX9 43 9 4 true := ⟨_, _, _, cfX9, by decide, tb_at (i := 162) (by decide +kernel) rfl, rfl, fun _ => rfl⟩
theorem fgX9_47 : FG RX9 47 9 5 := ⟨_, _, _, cfX9, by decide, tb_at (i := 164) (by decide +kernel) rfl⟩
theorem fpX9_47 : FL RX9 47 9 5 true := ⟨_, _, _, cfX9, by decide, tb_at (i := 164) (by decide +kernel) rfl, rfl, fun _ => rfl⟩
theorem fgX9_50 : FG RX9 50 9 6 := ⟨_, _, _, cfX9, by decide, tb_at (i := 167) (by decide +kernel) rfl⟩
theorem fpX9_50 : FL RX9 50 9 6 true := ⟨_, _, _, cfX9, by decide, tb_at (i := 167) (by decide +kernel) rfl, rfl, fun _ => rfl⟩
theorem fgX9_53 : FG RX9 53 9 7 := ⟨_, _, _, cfX9, by decide, tb_at (i := 168) (by decide +kernel) rfl⟩
theorem fpX9_53 : FL RX9 53 9 7 true := ⟨_, _, _, cfX9, by decide, tb_at (i := 168) (by decide +kernel) rfl, rfl, fun _ => rfl⟩
theorem fgX9_56 : FG RX9 56 9 8 := ⟨_, _, _, cfX9, by decide, tb_at (i := 171) (by decide +kernel) rfl⟩
theorem fpX9_56 : FL RX9 56 9 8 true := ⟨_, _, _, cfX9, by decide, tb_at (i := 171) (by decide +kernel) rfl, rfl, fun _ => rfl⟩
theorem fgX9_59 : FG RX9 59 9 9 := ⟨_, _, _, cfX9, by decide, tb_at (i := 174) (by decide +kernel) rfl⟩
theorem fpX9_59 : FL RX9 59 9 9 true := ⟨_, _, _, cfX9, by decide, tb_at (i := 174) (by decide +kernel) rfl, rfl, fun _ => rfl⟩
theorem fgX9_62 : FG RX9 62 9 10 := ⟨_, _, _, cfX9, by decide, tb_at (i := 177) (by decide +kernel) rfl⟩
theorem fpX9_62 : FL RX9 62 9 10 true := ⟨_, _, _, cfX9, by decide, tb_at (i := 177) (by decide +kernel) rfl, rfl, fun _ => rfl⟩
theorem fgX9_65 : FG RX9 65 9 11 := ⟨_, _, _, cfX9, by decide, tb_at (i := 178) (by decide +kernel) rfl⟩
theorem fpX9_65 : FL RX9 65 9 11 true := ⟨_, _, _, cfX9, by decide, tb_at (i := 178) (by decide +kernel) rfl, rfl, fun _ => rfl⟩
theorem fgX9_68 : FG RX9 68 9 12 := ⟨_, _, _, cfX9, by decide, tb_at (i := 179) (by decide +kernel) rfl⟩
theorem fpX9_68 : FL RX9 68 9 12 true := ⟨_, _, _, cfX9, by decide, tb_at (i := 179) (by decide +kernel) rfl, rfl, fun _ => rfl⟩
theorem fgX9_71 : FG RX9 71 9 13 := ⟨_, _, _, cfX9, by decide, tb_at (i := 180) (by decide +kernel) rfl⟩
theorem fpX9_71 : FL RX9 71 9 13 true := ⟨_, _, _, cfX9, by decide, tb_at (i := 180) (by decide +kernel) rfl, rfl, fun _ => rfl⟩
theorem fgX9_74 : FG RX9 74 9 14 := ⟨_, _, _, cfX9, by decide, tb_at (i := 181) (by decide +kernel) rfl⟩
theorem fpX9_74 : FL RX9 74 9 14 true := ⟨_, _, _, cfX9, by decide, tb_at (i := 181) (by decide +kernel) rfl, rfl, fun _ => rfl⟩
theorem fgX9_77 : FG RX9 77 9 15 := ⟨_, _, _, cfX9, by decide, tb_at (i := 182) (by decide +kernel) rfl⟩
theorem fpX9_77 : FL RX9 77 9 15 true := ⟨_, _, _, cfX9, by decide, tb_at (i := 182) (by decide +kernel) rfl, rfl, fun _ => rfl⟩
theorem fgX9_95 : FG RX9 95 5 0 := ⟨_, _, _, cfX5, by decide, tb_at (i := 96) (by decide +kernel) rfl⟩
theorem klX10_252 : Cond.constantLong RX10 252 (2147483647) ∈ tb := tb_at (i := 783) (by decide +kernel) rfl
theorem klX10_254 : Cond.constantLong RX10 254 (48271) ∈ tb := tb_at (i := 784) (by decide +kernel) rfl
theorem klX10_279 : Cond.constantLong RX10 279 (17) ∈ tb := tb_at (i := 843) (by decide +kernel) rfl
theorem klX10_281 : Cond.constantLong RX10 281 (31) ∈ tb := tb_at (i := 844) (by decide +kernel) rfl
theorem klX10_308 : Cond.constantLong RX10 308 (8) ∈ tb := tb_at (i := 789) (by decide +kernel) rfl
theorem klX10_310 : Cond.constantLong RX10 310 (5) ∈ tb := tb_at (i := 790) (by decide +kernel) rfl
theorem klX10_312 : Cond.constantLong RX10 312 (64) ∈ tb := tb_at (i := 791) (by decide +kernel) rfl
theorem klX11_231 : Cond.constantLong RX11 231 (12) ∈ tb := tb_at (i := 1253) (by decide +kernel) rfl
theorem klX11_248 : Cond.constantLong RX11 248 (48271) ∈ tb := tb_at (i := 1267) (by decide +kernel) rfl
theorem klX11_250 : Cond.constantLong RX11 250 (2147483647) ∈ tb := tb_at (i := 1268) (by decide +kernel) rfl
theorem klX11_252 : Cond.constantLong RX11 252 (8) ∈ tb := tb_at (i := 1269) (by decide +kernel) rfl
theorem klX11_254 : Cond.constantLong RX11 254 (5) ∈ tb := tb_at (i := 1270) (by decide +kernel) rfl
theorem klX11_256 : Cond.constantLong RX11 256 (64) ∈ tb := tb_at (i := 1271) (by decide +kernel) rfl
theorem klX11_261 : Cond.constantLong RX11 261 (31) ∈ tb := tb_at (i := 1289) (by decide +kernel) rfl
theorem klX11_266 : Cond.constantLong RX11 266 (17) ∈ tb := tb_at (i := 1284) (by decide +kernel) rfl
theorem klX7_32 : Cond.constantLong RX7 32 (31) ∈ tb := tb_at (i := 850) (by decide +kernel) rfl
theorem kiX11_205 : Cond.constant RX11 205 (1000000) ∈ tb := tb_at (i := 1197) (by decide +kernel) rfl
theorem kiX11_247 : Cond.constant RX11 247 (2147483646) ∈ tb := tb_at (i := 1266) (by decide +kernel) rfl
theorem ckL_7 : Cond.classLink RL 7 "AshGreetings" ∈ tb := tb_at (i := 79) (by decide +kernel) rfl
theorem ckL_10 : Cond.classLink RL 10 "AshGreetingsModel" ∈ tb := tb_at (i := 851) (by decide +kernel) rfl
theorem ckX10_9 : Cond.classLink RX10 9 "AshGreetings$Strip" ∈ tb := tb_at (i := 87) (by decide +kernel) rfl
theorem ckX10_18 : Cond.classLink RX10 18 "AshGreetings$Reading" ∈ tb := tb_at (i := 89) (by decide +kernel) rfl
theorem ckX10_25 : Cond.classLink RX10 25 "AshGreetings$Town" ∈ tb := tb_at (i := 104) (by decide +kernel) rfl
theorem ckX10_36 : Cond.classLink RX10 36 "AshGreetings$Outlook" ∈ tb := tb_at (i := 217) (by decide +kernel) rfl
theorem ckX10_290 : Cond.classLink RX10 290 "AshGreetings$Devout" ∈ tb := tb_at (i := 504) (by decide +kernel) rfl
theorem ckX10_292 : Cond.classLink RX10 292 "AshGreetings$Stubborn" ∈ tb := tb_at (i := 505) (by decide +kernel) rfl
theorem ckX10_294 : Cond.classLink RX10 294 "AshGreetings$ShortOne" ∈ tb := tb_at (i := 506) (by decide +kernel) rfl
theorem ckX10_296 : Cond.classLink RX10 296 "AshGreetings$Priest" ∈ tb := tb_at (i := 507) (by decide +kernel) rfl
theorem ckX10_298 : Cond.classLink RX10 298 "AshGreetings$Brother" ∈ tb := tb_at (i := 508) (by decide +kernel) rfl
theorem ckX3_9 : Cond.classLink RX3 9 "AshGreetings$Town" ∈ tb := tb_at (i := 223) (by decide +kernel) rfl
theorem ckX3_25 : Cond.classLink RX3 25 "[[I" ∈ tb := tb_at (i := 225) (by decide +kernel) rfl
theorem ckX9_21 : Cond.classLink RX9 21 "AshGreetings$Neighbour" ∈ tb := tb_at (i := 110) (by decide +kernel) rfl
theorem ckX9_24 : Cond.classLink RX9 24 "AshGreetings$Devout" ∈ tb := tb_at (i := 118) (by decide +kernel) rfl
theorem ckX9_27 : Cond.classLink RX9 27 "AshGreetings$Stubborn" ∈ tb := tb_at (i := 125) (by decide +kernel) rfl
theorem ckX9_30 : Cond.classLink RX9 30 "AshGreetings$ShortOne" ∈ tb := tb_at (i := 132) (by decide +kernel) rfl
theorem ckX9_33 : Cond.classLink RX9 33 "AshGreetings$Priest" ∈ tb := tb_at (i := 139) (by decide +kernel) rfl
theorem ckX9_36 : Cond.classLink RX9 36 "AshGreetings$Brother" ∈ tb := tb_at (i := 146) (by decide +kernel) rfl
theorem cdX10_init : Cond.code yX10_init cX10_init 2 none ∈ tb := tb_at (i := 83) (by decide +kernel) rfl
theorem in_AshGreetings : Cond.initialized "AshGreetings" ∈ tb := tb_at (i := 64) (by decide +kernel) rfl
theorem cbL_9 : CB RL 9 mX10_init 0 := ⟨tb_at (i := 81) (by decide +kernel) rfl, cdX10_init, in_AshGreetings, ⟨by decide, by decide, by decide +kernel⟩, by decide⟩
theorem ciL_9 : CB RL 9 mX10_init 0 ∧ yX10_init.name = "<init>" ∧ Cond.instanceMethod yX10_init ∈ tb := ⟨cbL_9, rfl, tb_at (i := 82) (by decide +kernel) rfl⟩
theorem cdX11_init : Cond.code yX11_init cX11_init 2 none ∈ tb := tb_at (i := 855) (by decide +kernel) rfl
theorem in_AshGreetingsModel : Cond.initialized "AshGreetingsModel" ∈ tb := tb_at (i := 76) (by decide +kernel) rfl
theorem cbL_12 : CB RL 12 mX11_init 0 := ⟨tb_at (i := 853) (by decide +kernel) rfl, cdX11_init, in_AshGreetingsModel, ⟨by decide, by decide, by decide +kernel⟩, by decide⟩
theorem ciL_12 : CB RL 12 mX11_init 0 ∧ yX11_init.name = "<init>" ∧ Cond.instanceMethod yX11_init ∈ tb := ⟨cbL_12, rfl, tb_at (i := 854) (by decide +kernel) rfl⟩
theorem cdX10_row : Cond.code yX10_row cX10_row 3 (some .int) ∈ tb := tb_at (i := 321) (by decide +kernel) rfl
theorem cbL_13 : CB RL 13 mX10_row 2 := ⟨tb_at (i := 318) (by decide +kernel) rfl, cdX10_row, in_AshGreetings, ⟨by decide, by decide, by decide +kernel⟩, by decide⟩
theorem cvL_13 : CV RL 13 10 mX10_row 2 := ⟨cbL_13, tb_at (i := 319) (by decide +kernel) rfl, tb_at (i := 320) (by decide +kernel) rfl, _, _, cfX10⟩
theorem cdX11_row : Cond.code yX11_row cX11_row 4 (some .int) ∈ tb := tb_at (i := 972) (by decide +kernel) rfl
theorem cbL_17 : CB RL 17 mX11_row 2 := ⟨tb_at (i := 969) (by decide +kernel) rfl, cdX11_row, in_AshGreetingsModel, ⟨by decide, by decide, by decide +kernel⟩, by decide⟩
theorem cvL_17 : CV RL 17 11 mX11_row 2 := ⟨cbL_17, tb_at (i := 970) (by decide +kernel) rfl, tb_at (i := 971) (by decide +kernel) rfl, _, _, cfX11⟩
theorem cdX10_lay : Cond.code yX10_lay cX10_lay 5 (some .int) ∈ tb := tb_at (i := 343) (by decide +kernel) rfl
theorem cbL_18 : CB RL 18 mX10_lay 3 := ⟨tb_at (i := 340) (by decide +kernel) rfl, cdX10_lay, in_AshGreetings, ⟨by decide, by decide, by decide +kernel⟩, by decide⟩
theorem cvL_18 : CV RL 18 10 mX10_lay 3 := ⟨cbL_18, tb_at (i := 341) (by decide +kernel) rfl, tb_at (i := 342) (by decide +kernel) rfl, _, _, cfX10⟩
theorem cdX11_lay : Cond.code yX11_lay cX11_lay 5 (some .int) ∈ tb := tb_at (i := 983) (by decide +kernel) rfl
theorem cbL_22 : CB RL 22 mX11_lay 3 := ⟨tb_at (i := 980) (by decide +kernel) rfl, cdX11_lay, in_AshGreetingsModel, ⟨by decide, by decide, by decide +kernel⟩, by decide⟩
theorem cvL_22 : CV RL 22 11 mX11_lay 3 := ⟨cbL_22, tb_at (i := 981) (by decide +kernel) rfl, tb_at (i := 982) (by decide +kernel) rfl, _, _, cfX11⟩
theorem cdX10_at : Cond.code yX10_at cX10_at 4 (some .int) ∈ tb := tb_at (i := 359) (by decide +kernel) rfl
theorem cbL_23 : CB RL 23 mX10_at 2 := ⟨tb_at (i := 356) (by decide +kernel) rfl, cdX10_at, in_AshGreetings, ⟨by decide, by decide, by decide +kernel⟩, by decide⟩
theorem cvL_23 : CV RL 23 10 mX10_at 2 := ⟨cbL_23, tb_at (i := 357) (by decide +kernel) rfl, tb_at (i := 358) (by decide +kernel) rfl, _, _, cfX10⟩
theorem cdX11_at : Cond.code yX11_at cX11_at 3 (some .int) ∈ tb := tb_at (i := 995) (by decide +kernel) rfl
theorem cbL_26 : CB RL 26 mX11_at 2 := ⟨tb_at (i := 992) (by decide +kernel) rfl, cdX11_at, in_AshGreetingsModel, ⟨by decide, by decide, by decide +kernel⟩, by decide⟩
theorem cvL_26 : CV RL 26 11 mX11_at 2 := ⟨cbL_26, tb_at (i := 993) (by decide +kernel) rfl, tb_at (i := 994) (by decide +kernel) rfl, _, _, cfX11⟩
theorem cdX10_tear : Cond.code yX10_tear cX10_tear 2 (some .int) ∈ tb := tb_at (i := 363) (by decide +kernel) rfl
theorem cbL_27 : CB RL 27 mX10_tear 1 := ⟨tb_at (i := 360) (by decide +kernel) rfl, cdX10_tear, in_AshGreetings, ⟨by decide, by decide, by decide +kernel⟩, by decide⟩
theorem cvL_27 : CV RL 27 10 mX10_tear 1 := ⟨cbL_27, tb_at (i := 361) (by decide +kernel) rfl, tb_at (i := 362) (by decide +kernel) rfl, _, _, cfX10⟩
theorem cdX11_tear : Cond.code yX11_tear cX11_tear 2 (some .int) ∈ tb := tb_at (i := 999) (by decide +kernel) rfl
theorem cbL_31 : CB RL 31 mX11_tear 1 := ⟨tb_at (i := 996) (by decide +kernel) rfl, cdX11_tear, in_AshGreetingsModel, ⟨by decide, by decide, by decide +kernel⟩, by decide⟩
theorem cvL_31 : CV RL 31 11 mX11_tear 1 := ⟨cbL_31, tb_at (i := 997) (by decide +kernel) rfl, tb_at (i := 998) (by decide +kernel) rfl, _, _, cfX11⟩
theorem cdX10_copy : Cond.code yX10_copy cX10_copy 6 (some .int) ∈ tb := tb_at (i := 371) (by decide +kernel) rfl
theorem cbL_32 : CB RL 32 mX10_copy 5 := ⟨tb_at (i := 368) (by decide +kernel) rfl, cdX10_copy, in_AshGreetings, ⟨by decide, by decide, by decide +kernel⟩, by decide⟩
theorem cvL_32 : CV RL 32 10 mX10_copy 5 := ⟨cbL_32, tb_at (i := 369) (by decide +kernel) rfl, tb_at (i := 370) (by decide +kernel) rfl, _, _, cfX10⟩
theorem cdX11_copy : Cond.code yX11_copy cX11_copy 7 (some .int) ∈ tb := tb_at (i := 1003) (by decide +kernel) rfl
theorem cbL_36 : CB RL 36 mX11_copy 5 := ⟨tb_at (i := 1000) (by decide +kernel) rfl, cdX11_copy, in_AshGreetingsModel, ⟨by decide, by decide, by decide +kernel⟩, by decide⟩
theorem cvL_36 : CV RL 36 11 mX11_copy 5 := ⟨cbL_36, tb_at (i := 1001) (by decide +kernel) rfl, tb_at (i := 1002) (by decide +kernel) rfl, _, _, cfX11⟩
theorem cdX10_mean : Cond.code yX10_mean cX10_mean 3 (some .int) ∈ tb := tb_at (i := 382) (by decide +kernel) rfl
theorem cbL_37 : CB RL 37 mX10_mean 1 := ⟨tb_at (i := 379) (by decide +kernel) rfl, cdX10_mean, in_AshGreetings, ⟨by decide, by decide, by decide +kernel⟩, by decide⟩
theorem cvL_37 : CV RL 37 10 mX10_mean 1 := ⟨cbL_37, tb_at (i := 380) (by decide +kernel) rfl, tb_at (i := 381) (by decide +kernel) rfl, _, _, cfX10⟩
theorem cdX11_mean : Cond.code yX11_mean cX11_mean 5 (some .int) ∈ tb := tb_at (i := 1007) (by decide +kernel) rfl
theorem cbL_40 : CB RL 40 mX11_mean 1 := ⟨tb_at (i := 1004) (by decide +kernel) rfl, cdX11_mean, in_AshGreetingsModel, ⟨by decide, by decide, by decide +kernel⟩, by decide⟩
theorem cvL_40 : CV RL 40 11 mX11_mean 1 := ⟨cbL_40, tb_at (i := 1005) (by decide +kernel) rfl, tb_at (i := 1006) (by decide +kernel) rfl, _, _, cfX11⟩
theorem cdX10_text : Cond.code yX10_text cX10_text 3 (some .int) ∈ tb := tb_at (i := 390) (by decide +kernel) rfl
theorem cbL_41 : CB RL 41 mX10_text 2 := ⟨tb_at (i := 387) (by decide +kernel) rfl, cdX10_text, in_AshGreetings, ⟨by decide, by decide, by decide +kernel⟩, by decide⟩
theorem cvL_41 : CV RL 41 10 mX10_text 2 := ⟨cbL_41, tb_at (i := 388) (by decide +kernel) rfl, tb_at (i := 389) (by decide +kernel) rfl, _, _, cfX10⟩
theorem cdX11_text : Cond.code yX11_text cX11_text 4 (some .int) ∈ tb := tb_at (i := 1011) (by decide +kernel) rfl
theorem cbL_44 : CB RL 44 mX11_text 2 := ⟨tb_at (i := 1008) (by decide +kernel) rfl, cdX11_text, in_AshGreetingsModel, ⟨by decide, by decide, by decide +kernel⟩, by decide⟩
theorem cvL_44 : CV RL 44 11 mX11_text 2 := ⟨cbL_44, tb_at (i := 1009) (by decide +kernel) rfl, tb_at (i := 1010) (by decide +kernel) rfl, _, _, cfX11⟩
theorem cdX10_put : Cond.code yX10_put cX10_put 6 (some .int) ∈ tb := tb_at (i := 398) (by decide +kernel) rfl
theorem cbL_45 : CB RL 45 mX10_put 3 := ⟨tb_at (i := 395) (by decide +kernel) rfl, cdX10_put, in_AshGreetings, ⟨by decide, by decide, by decide +kernel⟩, by decide⟩
theorem cvL_45 : CV RL 45 10 mX10_put 3 := ⟨cbL_45, tb_at (i := 396) (by decide +kernel) rfl, tb_at (i := 397) (by decide +kernel) rfl, _, _, cfX10⟩
theorem cdX11_put : Cond.code yX11_put cX11_put 5 (some .int) ∈ tb := tb_at (i := 1018) (by decide +kernel) rfl
theorem cbL_48 : CB RL 48 mX11_put 3 := ⟨tb_at (i := 1015) (by decide +kernel) rfl, cdX11_put, in_AshGreetingsModel, ⟨by decide, by decide, by decide +kernel⟩, by decide⟩
theorem cvL_48 : CV RL 48 11 mX11_put 3 := ⟨cbL_48, tb_at (i := 1016) (by decide +kernel) rfl, tb_at (i := 1017) (by decide +kernel) rfl, _, _, cfX11⟩
theorem cdX10_fault : Cond.code yX10_fault cX10_fault 2 (some .int) ∈ tb := tb_at (i := 402) (by decide +kernel) rfl
theorem cbL_49 : CB RL 49 mX10_fault 1 := ⟨tb_at (i := 399) (by decide +kernel) rfl, cdX10_fault, in_AshGreetings, ⟨by decide, by decide, by decide +kernel⟩, by decide⟩
theorem cvL_49 : CV RL 49 10 mX10_fault 1 := ⟨cbL_49, tb_at (i := 400) (by decide +kernel) rfl, tb_at (i := 401) (by decide +kernel) rfl, _, _, cfX10⟩
theorem cdX11_fault : Cond.code yX11_fault cX11_fault 2 (some .int) ∈ tb := tb_at (i := 1022) (by decide +kernel) rfl
theorem cbL_52 : CB RL 52 mX11_fault 1 := ⟨tb_at (i := 1019) (by decide +kernel) rfl, cdX11_fault, in_AshGreetingsModel, ⟨by decide, by decide, by decide +kernel⟩, by decide⟩
theorem cvL_52 : CV RL 52 11 mX11_fault 1 := ⟨cbL_52, tb_at (i := 1020) (by decide +kernel) rfl, tb_at (i := 1021) (by decide +kernel) rfl, _, _, cfX11⟩
theorem cdX10_town : Cond.code yX10_town cX10_town 3 (some .int) ∈ tb := tb_at (i := 426) (by decide +kernel) rfl
theorem cbL_53 : CB RL 53 mX10_town 1 := ⟨tb_at (i := 423) (by decide +kernel) rfl, cdX10_town, in_AshGreetings, ⟨by decide, by decide, by decide +kernel⟩, by decide⟩
theorem cvL_53 : CV RL 53 10 mX10_town 1 := ⟨cbL_53, tb_at (i := 424) (by decide +kernel) rfl, tb_at (i := 425) (by decide +kernel) rfl, _, _, cfX10⟩
theorem cdX11_town : Cond.code yX11_town cX11_town 3 (some .int) ∈ tb := tb_at (i := 1053) (by decide +kernel) rfl
theorem cbL_56 : CB RL 56 mX11_town 1 := ⟨tb_at (i := 1050) (by decide +kernel) rfl, cdX11_town, in_AshGreetingsModel, ⟨by decide, by decide, by decide +kernel⟩, by decide⟩
theorem cvL_56 : CV RL 56 11 mX11_town 1 := ⟨cbL_56, tb_at (i := 1051) (by decide +kernel) rfl, tb_at (i := 1052) (by decide +kernel) rfl, _, _, cfX11⟩
theorem cdX10_person : Cond.code yX10_person cX10_person 3 (some .int) ∈ tb := tb_at (i := 446) (by decide +kernel) rfl
theorem cbL_57 : CB RL 57 mX10_person 2 := ⟨tb_at (i := 443) (by decide +kernel) rfl, cdX10_person, in_AshGreetings, ⟨by decide, by decide, by decide +kernel⟩, by decide⟩
theorem cvL_57 : CV RL 57 10 mX10_person 2 := ⟨cbL_57, tb_at (i := 444) (by decide +kernel) rfl, tb_at (i := 445) (by decide +kernel) rfl, _, _, cfX10⟩
theorem cdX11_person : Cond.code yX11_person cX11_person 3 (some .int) ∈ tb := tb_at (i := 1057) (by decide +kernel) rfl
theorem cbL_60 : CB RL 60 mX11_person 2 := ⟨tb_at (i := 1054) (by decide +kernel) rfl, cdX11_person, in_AshGreetingsModel, ⟨by decide, by decide, by decide +kernel⟩, by decide⟩
theorem cvL_60 : CV RL 60 11 mX11_person 2 := ⟨cbL_60, tb_at (i := 1055) (by decide +kernel) rfl, tb_at (i := 1056) (by decide +kernel) rfl, _, _, cfX11⟩
theorem cdX10_deep : Cond.code yX10_deep cX10_deep 2 (some .int) ∈ tb := tb_at (i := 482) (by decide +kernel) rfl
theorem cbL_61 : CB RL 61 mX10_deep 1 := ⟨tb_at (i := 479) (by decide +kernel) rfl, cdX10_deep, in_AshGreetings, ⟨by decide, by decide, by decide +kernel⟩, by decide⟩
theorem cvL_61 : CV RL 61 10 mX10_deep 1 := ⟨cbL_61, tb_at (i := 480) (by decide +kernel) rfl, tb_at (i := 481) (by decide +kernel) rfl, _, _, cfX10⟩
theorem cdX11_deep : Cond.code yX11_deep cX11_deep 2 (some .int) ∈ tb := tb_at (i := 1085) (by decide +kernel) rfl
theorem cbL_64 : CB RL 64 mX11_deep 1 := ⟨tb_at (i := 1082) (by decide +kernel) rfl, cdX11_deep, in_AshGreetingsModel, ⟨by decide, by decide, by decide +kernel⟩, by decide⟩
theorem cvL_64 : CV RL 64 11 mX11_deep 1 := ⟨cbL_64, tb_at (i := 1083) (by decide +kernel) rfl, tb_at (i := 1084) (by decide +kernel) rfl, _, _, cfX11⟩
theorem cdX10_mark : Cond.code yX10_mark cX10_mark 3 (some .int) ∈ tb := tb_at (i := 498) (by decide +kernel) rfl
theorem cbL_65 : CB RL 65 mX10_mark 2 := ⟨tb_at (i := 495) (by decide +kernel) rfl, cdX10_mark, in_AshGreetings, ⟨by decide, by decide, by decide +kernel⟩, by decide⟩
theorem cvL_65 : CV RL 65 10 mX10_mark 2 := ⟨cbL_65, tb_at (i := 496) (by decide +kernel) rfl, tb_at (i := 497) (by decide +kernel) rfl, _, _, cfX10⟩
theorem cdX11_mark : Cond.code yX11_mark cX11_mark 4 (some .int) ∈ tb := tb_at (i := 1096) (by decide +kernel) rfl
theorem cbL_68 : CB RL 68 mX11_mark 2 := ⟨tb_at (i := 1093) (by decide +kernel) rfl, cdX11_mark, in_AshGreetingsModel, ⟨by decide, by decide, by decide +kernel⟩, by decide⟩
theorem cvL_68 : CV RL 68 11 mX11_mark 2 := ⟨cbL_68, tb_at (i := 1094) (by decide +kernel) rfl, tb_at (i := 1095) (by decide +kernel) rfl, _, _, cfX11⟩
theorem cdX10_day : Cond.code yX10_day cX10_day 1 (some .int) ∈ tb := tb_at (i := 531) (by decide +kernel) rfl
theorem cbL_69 : CB RL 69 mX10_day 0 := ⟨tb_at (i := 528) (by decide +kernel) rfl, cdX10_day, in_AshGreetings, ⟨by decide, by decide, by decide +kernel⟩, by decide⟩
theorem cvL_69 : CV RL 69 10 mX10_day 0 := ⟨cbL_69, tb_at (i := 529) (by decide +kernel) rfl, tb_at (i := 530) (by decide +kernel) rfl, _, _, cfX10⟩
theorem cdX11_day : Cond.code yX11_day cX11_day 1 (some .int) ∈ tb := tb_at (i := 1115) (by decide +kernel) rfl
theorem cbL_73 : CB RL 73 mX11_day 0 := ⟨tb_at (i := 1112) (by decide +kernel) rfl, cdX11_day, in_AshGreetingsModel, ⟨by decide, by decide, by decide +kernel⟩, by decide⟩
theorem cvL_73 : CV RL 73 11 mX11_day 0 := ⟨cbL_73, tb_at (i := 1113) (by decide +kernel) rfl, tb_at (i := 1114) (by decide +kernel) rfl, _, _, cfX11⟩
theorem cdX10_fall : Cond.code yX10_fall cX10_fall 3 (some .int) ∈ tb := tb_at (i := 592) (by decide +kernel) rfl
theorem cbL_74 : CB RL 74 mX10_fall 2 := ⟨tb_at (i := 589) (by decide +kernel) rfl, cdX10_fall, in_AshGreetings, ⟨by decide, by decide, by decide +kernel⟩, by decide⟩
theorem cvL_74 : CV RL 74 10 mX10_fall 2 := ⟨cbL_74, tb_at (i := 590) (by decide +kernel) rfl, tb_at (i := 591) (by decide +kernel) rfl, _, _, cfX10⟩
theorem cdX11_fall : Cond.code yX11_fall cX11_fall 4 (some .int) ∈ tb := tb_at (i := 1142) (by decide +kernel) rfl
theorem cbL_77 : CB RL 77 mX11_fall 2 := ⟨tb_at (i := 1139) (by decide +kernel) rfl, cdX11_fall, in_AshGreetingsModel, ⟨by decide, by decide, by decide +kernel⟩, by decide⟩
theorem cvL_77 : CV RL 77 11 mX11_fall 2 := ⟨cbL_77, tb_at (i := 1140) (by decide +kernel) rfl, tb_at (i := 1141) (by decide +kernel) rfl, _, _, cfX11⟩
theorem cdX10_wind : Cond.code yX10_wind cX10_wind 3 (some .int) ∈ tb := tb_at (i := 596) (by decide +kernel) rfl
theorem cbL_78 : CB RL 78 mX10_wind 1 := ⟨tb_at (i := 593) (by decide +kernel) rfl, cdX10_wind, in_AshGreetings, ⟨by decide, by decide, by decide +kernel⟩, by decide⟩
theorem cvL_78 : CV RL 78 10 mX10_wind 1 := ⟨cbL_78, tb_at (i := 594) (by decide +kernel) rfl, tb_at (i := 595) (by decide +kernel) rfl, _, _, cfX10⟩
theorem cdX11_wind : Cond.code yX11_wind cX11_wind 2 (some .int) ∈ tb := tb_at (i := 1153) (by decide +kernel) rfl
theorem cbL_81 : CB RL 81 mX11_wind 1 := ⟨tb_at (i := 1150) (by decide +kernel) rfl, cdX11_wind, in_AshGreetingsModel, ⟨by decide, by decide, by decide +kernel⟩, by decide⟩
theorem cvL_81 : CV RL 81 11 mX11_wind 1 := ⟨cbL_81, tb_at (i := 1151) (by decide +kernel) rfl, tb_at (i := 1152) (by decide +kernel) rfl, _, _, cfX11⟩
theorem cdX10_go : Cond.code yX10_go cX10_go 4 (some .int) ∈ tb := tb_at (i := 600) (by decide +kernel) rfl
theorem cbL_82 : CB RL 82 mX10_go 2 := ⟨tb_at (i := 597) (by decide +kernel) rfl, cdX10_go, in_AshGreetings, ⟨by decide, by decide, by decide +kernel⟩, by decide⟩
theorem cvL_82 : CV RL 82 10 mX10_go 2 := ⟨cbL_82, tb_at (i := 598) (by decide +kernel) rfl, tb_at (i := 599) (by decide +kernel) rfl, _, _, cfX10⟩
theorem cdX11_go : Cond.code yX11_go cX11_go 4 (some .int) ∈ tb := tb_at (i := 1157) (by decide +kernel) rfl
theorem cbL_85 : CB RL 85 mX11_go 2 := ⟨tb_at (i := 1154) (by decide +kernel) rfl, cdX11_go, in_AshGreetingsModel, ⟨by decide, by decide, by decide +kernel⟩, by decide⟩
theorem cvL_85 : CV RL 85 11 mX11_go 2 := ⟨cbL_85, tb_at (i := 1155) (by decide +kernel) rfl, tb_at (i := 1156) (by decide +kernel) rfl, _, _, cfX11⟩
theorem cdX10_undo : Cond.code yX10_undo cX10_undo 3 (some .int) ∈ tb := tb_at (i := 604) (by decide +kernel) rfl
theorem cbL_86 : CB RL 86 mX10_undo 1 := ⟨tb_at (i := 601) (by decide +kernel) rfl, cdX10_undo, in_AshGreetings, ⟨by decide, by decide, by decide +kernel⟩, by decide⟩
theorem cvL_86 : CV RL 86 10 mX10_undo 1 := ⟨cbL_86, tb_at (i := 602) (by decide +kernel) rfl, tb_at (i := 603) (by decide +kernel) rfl, _, _, cfX10⟩
theorem cdX11_undo : Cond.code yX11_undo cX11_undo 4 (some .int) ∈ tb := tb_at (i := 1103) (by decide +kernel) rfl
theorem cbL_89 : CB RL 89 mX11_undo 1 := ⟨tb_at (i := 1100) (by decide +kernel) rfl, cdX11_undo, in_AshGreetingsModel, ⟨by decide, by decide, by decide +kernel⟩, by decide⟩
theorem cvL_89 : CV RL 89 11 mX11_undo 1 := ⟨cbL_89, tb_at (i := 1101) (by decide +kernel) rfl, tb_at (i := 1102) (by decide +kernel) rfl, _, _, cfX11⟩
theorem cdX10_keep : Cond.code yX10_keep cX10_keep 2 (some .int) ∈ tb := tb_at (i := 612) (by decide +kernel) rfl
theorem cbL_90 : CB RL 90 mX10_keep 1 := ⟨tb_at (i := 609) (by decide +kernel) rfl, cdX10_keep, in_AshGreetings, ⟨by decide, by decide, by decide +kernel⟩, by decide⟩
theorem cvL_90 : CV RL 90 10 mX10_keep 1 := ⟨cbL_90, tb_at (i := 610) (by decide +kernel) rfl, tb_at (i := 611) (by decide +kernel) rfl, _, _, cfX10⟩
theorem cdX11_keep : Cond.code yX11_keep cX11_keep 3 (some .int) ∈ tb := tb_at (i := 1107) (by decide +kernel) rfl
theorem cbL_93 : CB RL 93 mX11_keep 1 := ⟨tb_at (i := 1104) (by decide +kernel) rfl, cdX11_keep, in_AshGreetingsModel, ⟨by decide, by decide, by decide +kernel⟩, by decide⟩
theorem cvL_93 : CV RL 93 11 mX11_keep 1 := ⟨cbL_93, tb_at (i := 1105) (by decide +kernel) rfl, tb_at (i := 1106) (by decide +kernel) rfl, _, _, cfX11⟩
theorem cdX10_on : Cond.code yX10_on cX10_on 2 (some .int) ∈ tb := tb_at (i := 628) (by decide +kernel) rfl
theorem cbL_94 : CB RL 94 mX10_on 1 := ⟨tb_at (i := 625) (by decide +kernel) rfl, cdX10_on, in_AshGreetings, ⟨by decide, by decide, by decide +kernel⟩, by decide⟩
theorem cvL_94 : CV RL 94 10 mX10_on 1 := ⟨cbL_94, tb_at (i := 626) (by decide +kernel) rfl, tb_at (i := 627) (by decide +kernel) rfl, _, _, cfX10⟩
theorem cdX11_on : Cond.code yX11_on cX11_on 3 (some .int) ∈ tb := tb_at (i := 1111) (by decide +kernel) rfl
theorem cbL_97 : CB RL 97 mX11_on 1 := ⟨tb_at (i := 1108) (by decide +kernel) rfl, cdX11_on, in_AshGreetingsModel, ⟨by decide, by decide, by decide +kernel⟩, by decide⟩
theorem cvL_97 : CV RL 97 11 mX11_on 1 := ⟨cbL_97, tb_at (i := 1109) (by decide +kernel) rfl, tb_at (i := 1110) (by decide +kernel) rfl, _, _, cfX11⟩
theorem cdX10_meets : Cond.code yX10_meets cX10_meets 5 (some .int) ∈ tb := tb_at (i := 632) (by decide +kernel) rfl
theorem cbL_98 : CB RL 98 mX10_meets 0 := ⟨tb_at (i := 629) (by decide +kernel) rfl, cdX10_meets, in_AshGreetings, ⟨by decide, by decide, by decide +kernel⟩, by decide⟩
theorem cvL_98 : CV RL 98 10 mX10_meets 0 := ⟨cbL_98, tb_at (i := 630) (by decide +kernel) rfl, tb_at (i := 631) (by decide +kernel) rfl, _, _, cfX10⟩
theorem cdX11_meets : Cond.code yX11_meets cX11_meets 5 (some .int) ∈ tb := tb_at (i := 1161) (by decide +kernel) rfl
theorem cbL_101 : CB RL 101 mX11_meets 0 := ⟨tb_at (i := 1158) (by decide +kernel) rfl, cdX11_meets, in_AshGreetingsModel, ⟨by decide, by decide, by decide +kernel⟩, by decide⟩
theorem cvL_101 : CV RL 101 11 mX11_meets 0 := ⟨cbL_101, tb_at (i := 1159) (by decide +kernel) rfl, tb_at (i := 1160) (by decide +kernel) rfl, _, _, cfX11⟩
theorem cdX10_later : Cond.code yX10_later cX10_later 3 (some .int) ∈ tb := tb_at (i := 637) (by decide +kernel) rfl
theorem cbL_102 : CB RL 102 mX10_later 2 := ⟨tb_at (i := 634) (by decide +kernel) rfl, cdX10_later, in_AshGreetings, ⟨by decide, by decide, by decide +kernel⟩, by decide⟩
theorem cvL_102 : CV RL 102 10 mX10_later 2 := ⟨cbL_102, tb_at (i := 635) (by decide +kernel) rfl, tb_at (i := 636) (by decide +kernel) rfl, _, _, cfX10⟩
theorem cdX11_later : Cond.code yX11_later cX11_later 4 (some .int) ∈ tb := tb_at (i := 1165) (by decide +kernel) rfl
theorem cbL_105 : CB RL 105 mX11_later 2 := ⟨tb_at (i := 1162) (by decide +kernel) rfl, cdX11_later, in_AshGreetingsModel, ⟨by decide, by decide, by decide +kernel⟩, by decide⟩
theorem cvL_105 : CV RL 105 11 mX11_later 2 := ⟨cbL_105, tb_at (i := 1163) (by decide +kernel) rfl, tb_at (i := 1164) (by decide +kernel) rfl, _, _, cfX11⟩
theorem cdX10_peace : Cond.code yX10_peace cX10_peace 1 (some .int) ∈ tb := tb_at (i := 665) (by decide +kernel) rfl
theorem cbL_106 : CB RL 106 mX10_peace 0 := ⟨tb_at (i := 662) (by decide +kernel) rfl, cdX10_peace, in_AshGreetings, ⟨by decide, by decide, by decide +kernel⟩, by decide⟩
theorem cvL_106 : CV RL 106 10 mX10_peace 0 := ⟨cbL_106, tb_at (i := 663) (by decide +kernel) rfl, tb_at (i := 664) (by decide +kernel) rfl, _, _, cfX10⟩
theorem cdX11_peace : Cond.code yX11_peace cX11_peace 4 (some .int) ∈ tb := tb_at (i := 1177) (by decide +kernel) rfl
theorem cbL_109 : CB RL 109 mX11_peace 0 := ⟨tb_at (i := 1174) (by decide +kernel) rfl, cdX11_peace, in_AshGreetingsModel, ⟨by decide, by decide, by decide +kernel⟩, by decide⟩
theorem cvL_109 : CV RL 109 11 mX11_peace 0 := ⟨cbL_109, tb_at (i := 1175) (by decide +kernel) rfl, tb_at (i := 1176) (by decide +kernel) rfl, _, _, cfX11⟩
theorem cdX10_left : Cond.code yX10_left cX10_left 3 (some .int) ∈ tb := tb_at (i := 678) (by decide +kernel) rfl
theorem cbL_110 : CB RL 110 mX10_left 1 := ⟨tb_at (i := 675) (by decide +kernel) rfl, cdX10_left, in_AshGreetings, ⟨by decide, by decide, by decide +kernel⟩, by decide⟩
theorem cvL_110 : CV RL 110 10 mX10_left 1 := ⟨cbL_110, tb_at (i := 676) (by decide +kernel) rfl, tb_at (i := 677) (by decide +kernel) rfl, _, _, cfX10⟩
theorem cdX11_left : Cond.code yX11_left cX11_left 4 (some .int) ∈ tb := tb_at (i := 1181) (by decide +kernel) rfl
theorem cbL_113 : CB RL 113 mX11_left 1 := ⟨tb_at (i := 1178) (by decide +kernel) rfl, cdX11_left, in_AshGreetingsModel, ⟨by decide, by decide, by decide +kernel⟩, by decide⟩
theorem cvL_113 : CV RL 113 11 mX11_left 1 := ⟨cbL_113, tb_at (i := 1179) (by decide +kernel) rfl, tb_at (i := 1180) (by decide +kernel) rfl, _, _, cfX11⟩
theorem cdX10_ash : Cond.code yX10_ash cX10_ash 2 (some .int) ∈ tb := tb_at (i := 686) (by decide +kernel) rfl
theorem cbL_114 : CB RL 114 mX10_ash 1 := ⟨tb_at (i := 683) (by decide +kernel) rfl, cdX10_ash, in_AshGreetings, ⟨by decide, by decide, by decide +kernel⟩, by decide⟩
theorem cvL_114 : CV RL 114 10 mX10_ash 1 := ⟨cbL_114, tb_at (i := 684) (by decide +kernel) rfl, tb_at (i := 685) (by decide +kernel) rfl, _, _, cfX10⟩
theorem cdX11_ash : Cond.code yX11_ash cX11_ash 7 (some .int) ∈ tb := tb_at (i := 1196) (by decide +kernel) rfl
theorem cbL_117 : CB RL 117 mX11_ash 1 := ⟨tb_at (i := 1193) (by decide +kernel) rfl, cdX11_ash, in_AshGreetingsModel, ⟨by decide, by decide, by decide +kernel⟩, by decide⟩
theorem cvL_117 : CV RL 117 11 mX11_ash 1 := ⟨cbL_117, tb_at (i := 1194) (by decide +kernel) rfl, tb_at (i := 1195) (by decide +kernel) rfl, _, _, cfX11⟩
theorem cdX10_best : Cond.code yX10_best cX10_best 2 (some .int) ∈ tb := tb_at (i := 696) (by decide +kernel) rfl
theorem cbL_118 : CB RL 118 mX10_best 1 := ⟨tb_at (i := 693) (by decide +kernel) rfl, cdX10_best, in_AshGreetings, ⟨by decide, by decide, by decide +kernel⟩, by decide⟩
theorem cvL_118 : CV RL 118 10 mX10_best 1 := ⟨cbL_118, tb_at (i := 694) (by decide +kernel) rfl, tb_at (i := 695) (by decide +kernel) rfl, _, _, cfX10⟩
theorem cdX11_best : Cond.code yX11_best cX11_best 7 (some .int) ∈ tb := tb_at (i := 1201) (by decide +kernel) rfl
theorem cbL_121 : CB RL 121 mX11_best 1 := ⟨tb_at (i := 1198) (by decide +kernel) rfl, cdX11_best, in_AshGreetingsModel, ⟨by decide, by decide, by decide +kernel⟩, by decide⟩
theorem cvL_121 : CV RL 121 11 mX11_best 1 := ⟨cbL_121, tb_at (i := 1199) (by decide +kernel) rfl, tb_at (i := 1200) (by decide +kernel) rfl, _, _, cfX11⟩
theorem cdX10_kinds : Cond.code yX10_kinds cX10_kinds 4 (some .int) ∈ tb := tb_at (i := 704) (by decide +kernel) rfl
theorem cbL_122 : CB RL 122 mX10_kinds 2 := ⟨tb_at (i := 701) (by decide +kernel) rfl, cdX10_kinds, in_AshGreetings, ⟨by decide, by decide, by decide +kernel⟩, by decide⟩
theorem cvL_122 : CV RL 122 10 mX10_kinds 2 := ⟨cbL_122, tb_at (i := 702) (by decide +kernel) rfl, tb_at (i := 703) (by decide +kernel) rfl, _, _, cfX10⟩
theorem cdX11_kinds : Cond.code yX11_kinds cX11_kinds 4 (some .int) ∈ tb := tb_at (i := 1205) (by decide +kernel) rfl
theorem cbL_125 : CB RL 125 mX11_kinds 2 := ⟨tb_at (i := 1202) (by decide +kernel) rfl, cdX11_kinds, in_AshGreetingsModel, ⟨by decide, by decide, by decide +kernel⟩, by decide⟩
theorem cvL_125 : CV RL 125 11 mX11_kinds 2 := ⟨cbL_125, tb_at (i := 1203) (by decide +kernel) rfl, tb_at (i := 1204) (by decide +kernel) rfl, _, _, cfX11⟩
theorem cdX10_highs : Cond.code yX10_highs cX10_highs 4 (some .int) ∈ tb := tb_at (i := 720) (by decide +kernel) rfl
theorem cbL_126 : CB RL 126 mX10_highs 2 := ⟨tb_at (i := 717) (by decide +kernel) rfl, cdX10_highs, in_AshGreetings, ⟨by decide, by decide, by decide +kernel⟩, by decide⟩
theorem cvL_126 : CV RL 126 10 mX10_highs 2 := ⟨cbL_126, tb_at (i := 718) (by decide +kernel) rfl, tb_at (i := 719) (by decide +kernel) rfl, _, _, cfX10⟩
theorem cdX11_highs : Cond.code yX11_highs cX11_highs 7 (some .int) ∈ tb := tb_at (i := 1221) (by decide +kernel) rfl
theorem cbL_129 : CB RL 129 mX11_highs 2 := ⟨tb_at (i := 1218) (by decide +kernel) rfl, cdX11_highs, in_AshGreetingsModel, ⟨by decide, by decide, by decide +kernel⟩, by decide⟩
theorem cvL_129 : CV RL 129 11 mX11_highs 2 := ⟨cbL_129, tb_at (i := 1219) (by decide +kernel) rfl, tb_at (i := 1220) (by decide +kernel) rfl, _, _, cfX11⟩
theorem cdX10_test : Cond.code yX10_test cX10_test 4 (some .int) ∈ tb := tb_at (i := 728) (by decide +kernel) rfl
theorem cbL_130 : CB RL 130 mX10_test 2 := ⟨tb_at (i := 725) (by decide +kernel) rfl, cdX10_test, in_AshGreetings, ⟨by decide, by decide, by decide +kernel⟩, by decide⟩
theorem cvL_130 : CV RL 130 10 mX10_test 2 := ⟨cbL_130, tb_at (i := 726) (by decide +kernel) rfl, tb_at (i := 727) (by decide +kernel) rfl, _, _, cfX10⟩
theorem cdX11_test : Cond.code yX11_test cX11_test 12 (some .int) ∈ tb := tb_at (i := 1225) (by decide +kernel) rfl
theorem cbL_133 : CB RL 133 mX11_test 2 := ⟨tb_at (i := 1222) (by decide +kernel) rfl, cdX11_test, in_AshGreetingsModel, ⟨by decide, by decide, by decide +kernel⟩, by decide⟩
theorem cvL_133 : CV RL 133 11 mX11_test 2 := ⟨cbL_133, tb_at (i := 1223) (by decide +kernel) rfl, tb_at (i := 1224) (by decide +kernel) rfl, _, _, cfX11⟩
theorem cdX10_duel : Cond.code yX10_duel cX10_duel 2 (some .int) ∈ tb := tb_at (i := 745) (by decide +kernel) rfl
theorem cbL_134 : CB RL 134 mX10_duel 1 := ⟨tb_at (i := 742) (by decide +kernel) rfl, cdX10_duel, in_AshGreetings, ⟨by decide, by decide, by decide +kernel⟩, by decide⟩
theorem cvL_134 : CV RL 134 10 mX10_duel 1 := ⟨cbL_134, tb_at (i := 743) (by decide +kernel) rfl, tb_at (i := 744) (by decide +kernel) rfl, _, _, cfX10⟩
theorem cdX11_duel : Cond.code yX11_duel cX11_duel 9 (some .int) ∈ tb := tb_at (i := 1236) (by decide +kernel) rfl
theorem cbL_137 : CB RL 137 mX11_duel 1 := ⟨tb_at (i := 1233) (by decide +kernel) rfl, cdX11_duel, in_AshGreetingsModel, ⟨by decide, by decide, by decide +kernel⟩, by decide⟩
theorem cvL_137 : CV RL 137 11 mX11_duel 1 := ⟨cbL_137, tb_at (i := 1234) (by decide +kernel) rfl, tb_at (i := 1235) (by decide +kernel) rfl, _, _, cfX11⟩
theorem cdX10_odds : Cond.code yX10_odds cX10_odds 4 (some .int) ∈ tb := tb_at (i := 758) (by decide +kernel) rfl
theorem cbL_138 : CB RL 138 mX10_odds 3 := ⟨tb_at (i := 755) (by decide +kernel) rfl, cdX10_odds, in_AshGreetings, ⟨by decide, by decide, by decide +kernel⟩, by decide⟩
theorem cvL_138 : CV RL 138 10 mX10_odds 3 := ⟨cbL_138, tb_at (i := 756) (by decide +kernel) rfl, tb_at (i := 757) (by decide +kernel) rfl, _, _, cfX10⟩
theorem cdX11_odds : Cond.code yX11_odds cX11_odds 5 (some .int) ∈ tb := tb_at (i := 1248) (by decide +kernel) rfl
theorem cbL_141 : CB RL 141 mX11_odds 3 := ⟨tb_at (i := 1245) (by decide +kernel) rfl, cdX11_odds, in_AshGreetingsModel, ⟨by decide, by decide, by decide +kernel⟩, by decide⟩
theorem cvL_141 : CV RL 141 11 mX11_odds 3 := ⟨cbL_141, tb_at (i := 1246) (by decide +kernel) rfl, tb_at (i := 1247) (by decide +kernel) rfl, _, _, cfX11⟩
theorem cdX10_mid : Cond.code yX10_mid cX10_mid 3 (some .int) ∈ tb := tb_at (i := 778) (by decide +kernel) rfl
theorem cbL_142 : CB RL 142 mX10_mid 2 := ⟨tb_at (i := 775) (by decide +kernel) rfl, cdX10_mid, in_AshGreetings, ⟨by decide, by decide, by decide +kernel⟩, by decide⟩
theorem cvL_142 : CV RL 142 10 mX10_mid 2 := ⟨cbL_142, tb_at (i := 776) (by decide +kernel) rfl, tb_at (i := 777) (by decide +kernel) rfl, _, _, cfX10⟩
theorem cdX11_mid : Cond.code yX11_mid cX11_mid 4 (some .int) ∈ tb := tb_at (i := 1261) (by decide +kernel) rfl
theorem cbL_145 : CB RL 145 mX11_mid 2 := ⟨tb_at (i := 1258) (by decide +kernel) rfl, cdX11_mid, in_AshGreetingsModel, ⟨by decide, by decide, by decide +kernel⟩, by decide⟩
theorem cvL_145 : CV RL 145 11 mX11_mid 2 := ⟨cbL_145, tb_at (i := 1259) (by decide +kernel) rfl, tb_at (i := 1260) (by decide +kernel) rfl, _, _, cfX11⟩
theorem cdX10_lots : Cond.code yX10_lots cX10_lots 6 (some .int) ∈ tb := tb_at (i := 782) (by decide +kernel) rfl
theorem cbL_146 : CB RL 146 mX10_lots 2 := ⟨tb_at (i := 779) (by decide +kernel) rfl, cdX10_lots, in_AshGreetings, ⟨by decide, by decide, by decide +kernel⟩, by decide⟩
theorem cvL_146 : CV RL 146 10 mX10_lots 2 := ⟨cbL_146, tb_at (i := 780) (by decide +kernel) rfl, tb_at (i := 781) (by decide +kernel) rfl, _, _, cfX10⟩
theorem cdX11_lots : Cond.code yX11_lots cX11_lots 9 (some .int) ∈ tb := tb_at (i := 1265) (by decide +kernel) rfl
theorem cbL_149 : CB RL 149 mX11_lots 2 := ⟨tb_at (i := 1262) (by decide +kernel) rfl, cdX11_lots, in_AshGreetingsModel, ⟨by decide, by decide, by decide +kernel⟩, by decide⟩
theorem cvL_149 : CV RL 149 11 mX11_lots 2 := ⟨cbL_149, tb_at (i := 1263) (by decide +kernel) rfl, tb_at (i := 1264) (by decide +kernel) rfl, _, _, cfX11⟩
theorem cdX10_asked : Cond.code yX10_asked cX10_asked 1 (some .int) ∈ tb := tb_at (i := 795) (by decide +kernel) rfl
theorem cbL_150 : CB RL 150 mX10_asked 0 := ⟨tb_at (i := 792) (by decide +kernel) rfl, cdX10_asked, in_AshGreetings, ⟨by decide, by decide, by decide +kernel⟩, by decide⟩
theorem cvL_150 : CV RL 150 10 mX10_asked 0 := ⟨cbL_150, tb_at (i := 793) (by decide +kernel) rfl, tb_at (i := 794) (by decide +kernel) rfl, _, _, cfX10⟩
theorem cdX11_asked : Cond.code yX11_asked cX11_asked 1 (some .int) ∈ tb := tb_at (i := 949) (by decide +kernel) rfl
theorem cbL_153 : CB RL 153 mX11_asked 0 := ⟨tb_at (i := 946) (by decide +kernel) rfl, cdX11_asked, in_AshGreetingsModel, ⟨by decide, by decide, by decide +kernel⟩, by decide⟩
theorem cvL_153 : CV RL 153 11 mX11_asked 0 := ⟨cbL_153, tb_at (i := 947) (by decide +kernel) rfl, tb_at (i := 948) (by decide +kernel) rfl, _, _, cfX11⟩
theorem cdX10_upper : Cond.code yX10_upper cX10_upper 1 (some .long) ∈ tb := tb_at (i := 799) (by decide +kernel) rfl
theorem cbL_154 : CB RL 154 mX10_upper 0 := ⟨tb_at (i := 796) (by decide +kernel) rfl, cdX10_upper, in_AshGreetings, ⟨by decide, by decide, by decide +kernel⟩, by decide⟩
theorem cvL_154 : CV RL 154 10 mX10_upper 0 := ⟨cbL_154, tb_at (i := 797) (by decide +kernel) rfl, tb_at (i := 798) (by decide +kernel) rfl, _, _, cfX10⟩
theorem cdX11_upper : Cond.code yX11_upper cX11_upper 1 (some .long) ∈ tb := tb_at (i := 953) (by decide +kernel) rfl
theorem cbL_158 : CB RL 158 mX11_upper 0 := ⟨tb_at (i := 950) (by decide +kernel) rfl, cdX11_upper, in_AshGreetingsModel, ⟨by decide, by decide, by decide +kernel⟩, by decide⟩
theorem cvL_158 : CV RL 158 11 mX11_upper 0 := ⟨cbL_158, tb_at (i := 951) (by decide +kernel) rfl, tb_at (i := 952) (by decide +kernel) rfl, _, _, cfX11⟩
theorem cdX10_lower : Cond.code yX10_lower cX10_lower 1 (some .long) ∈ tb := tb_at (i := 803) (by decide +kernel) rfl
theorem cbL_159 : CB RL 159 mX10_lower 0 := ⟨tb_at (i := 800) (by decide +kernel) rfl, cdX10_lower, in_AshGreetings, ⟨by decide, by decide, by decide +kernel⟩, by decide⟩
theorem cvL_159 : CV RL 159 10 mX10_lower 0 := ⟨cbL_159, tb_at (i := 801) (by decide +kernel) rfl, tb_at (i := 802) (by decide +kernel) rfl, _, _, cfX10⟩
theorem cdX11_lower : Cond.code yX11_lower cX11_lower 1 (some .long) ∈ tb := tb_at (i := 957) (by decide +kernel) rfl
theorem cbL_162 : CB RL 162 mX11_lower 0 := ⟨tb_at (i := 954) (by decide +kernel) rfl, cdX11_lower, in_AshGreetingsModel, ⟨by decide, by decide, by decide +kernel⟩, by decide⟩
theorem cvL_162 : CV RL 162 11 mX11_lower 0 := ⟨cbL_162, tb_at (i := 955) (by decide +kernel) rfl, tb_at (i := 956) (by decide +kernel) rfl, _, _, cfX11⟩
theorem cdX10_count : Cond.code yX10_count cX10_count 2 (some .int) ∈ tb := tb_at (i := 807) (by decide +kernel) rfl
theorem cbL_163 : CB RL 163 mX10_count 1 := ⟨tb_at (i := 804) (by decide +kernel) rfl, cdX10_count, in_AshGreetings, ⟨by decide, by decide, by decide +kernel⟩, by decide⟩
theorem cvL_163 : CV RL 163 10 mX10_count 1 := ⟨cbL_163, tb_at (i := 805) (by decide +kernel) rfl, tb_at (i := 806) (by decide +kernel) rfl, _, _, cfX10⟩
theorem cdX11_count : Cond.code yX11_count cX11_count 2 (some .int) ∈ tb := tb_at (i := 1275) (by decide +kernel) rfl
theorem cbL_166 : CB RL 166 mX11_count 1 := ⟨tb_at (i := 1272) (by decide +kernel) rfl, cdX11_count, in_AshGreetingsModel, ⟨by decide, by decide, by decide +kernel⟩, by decide⟩
theorem cvL_166 : CV RL 166 11 mX11_count 1 := ⟨cbL_166, tb_at (i := 1273) (by decide +kernel) rfl, tb_at (i := 1274) (by decide +kernel) rfl, _, _, cfX11⟩
theorem cdX10_finding : Cond.code yX10_finding cX10_finding 1 (some .int) ∈ tb := tb_at (i := 834) (by decide +kernel) rfl
theorem cbL_167 : CB RL 167 mX10_finding 0 := ⟨tb_at (i := 831) (by decide +kernel) rfl, cdX10_finding, in_AshGreetings, ⟨by decide, by decide, by decide +kernel⟩, by decide⟩
theorem cvL_167 : CV RL 167 10 mX10_finding 0 := ⟨cbL_167, tb_at (i := 832) (by decide +kernel) rfl, tb_at (i := 833) (by decide +kernel) rfl, _, _, cfX10⟩
theorem cdX11_finding : Cond.code yX11_finding cX11_finding 1 (some .int) ∈ tb := tb_at (i := 961) (by decide +kernel) rfl
theorem cbL_170 : CB RL 170 mX11_finding 0 := ⟨tb_at (i := 958) (by decide +kernel) rfl, cdX11_finding, in_AshGreetingsModel, ⟨by decide, by decide, by decide +kernel⟩, by decide⟩
theorem cvL_170 : CV RL 170 11 mX11_finding 0 := ⟨cbL_170, tb_at (i := 959) (by decide +kernel) rfl, tb_at (i := 960) (by decide +kernel) rfl, _, _, cfX11⟩
theorem cdX10_findings : Cond.code yX10_findings cX10_findings 2 (some .int) ∈ tb := tb_at (i := 838) (by decide +kernel) rfl
theorem cbL_171 : CB RL 171 mX10_findings 1 := ⟨tb_at (i := 835) (by decide +kernel) rfl, cdX10_findings, in_AshGreetings, ⟨by decide, by decide, by decide +kernel⟩, by decide⟩
theorem cvL_171 : CV RL 171 10 mX10_findings 1 := ⟨cbL_171, tb_at (i := 836) (by decide +kernel) rfl, tb_at (i := 837) (by decide +kernel) rfl, _, _, cfX10⟩
theorem cdX11_findings : Cond.code yX11_findings cX11_findings 2 (some .int) ∈ tb := tb_at (i := 965) (by decide +kernel) rfl
theorem cbL_174 : CB RL 174 mX11_findings 1 := ⟨tb_at (i := 962) (by decide +kernel) rfl, cdX11_findings, in_AshGreetingsModel, ⟨by decide, by decide, by decide +kernel⟩, by decide⟩
theorem cvL_174 : CV RL 174 11 mX11_findings 1 := ⟨cbL_174, tb_at (i := 963) (by decide +kernel) rfl, tb_at (i := 964) (by decide +kernel) rfl, _, _, cfX11⟩
theorem cdX10_digest : Cond.code yX10_digest cX10_digest 5 (some .long) ∈ tb := tb_at (i := 842) (by decide +kernel) rfl
theorem cbL_175 : CB RL 175 mX10_digest 0 := ⟨tb_at (i := 839) (by decide +kernel) rfl, cdX10_digest, in_AshGreetings, ⟨by decide, by decide, by decide +kernel⟩, by decide⟩
theorem cvL_175 : CV RL 175 10 mX10_digest 0 := ⟨cbL_175, tb_at (i := 840) (by decide +kernel) rfl, tb_at (i := 841) (by decide +kernel) rfl, _, _, cfX10⟩
theorem cdX11_digest : Cond.code yX11_digest cX11_digest 3 (some .long) ∈ tb := tb_at (i := 1283) (by decide +kernel) rfl
theorem cbL_178 : CB RL 178 mX11_digest 0 := ⟨tb_at (i := 1280) (by decide +kernel) rfl, cdX11_digest, in_AshGreetingsModel, ⟨by decide, by decide, by decide +kernel⟩, by decide⟩
theorem cvL_178 : CV RL 178 11 mX11_digest 0 := ⟨cbL_178, tb_at (i := 1281) (by decide +kernel) rfl, tb_at (i := 1282) (by decide +kernel) rfl, _, _, cfX11⟩
theorem cdX8_init : Cond.code yX8_init cX8_init 1 none ∈ tb := tb_at (i := 129) (by decide +kernel) rfl
theorem in_AshGreetings_Stubborn : Cond.initialized "AshGreetings$Stubborn" ∈ tb := tb_at (i := 69) (by decide +kernel) rfl
theorem cbX0_1 : CB RX0 1 mX8_init 0 := ⟨tb_at (i := 151) (by decide +kernel) rfl, cdX8_init, in_AshGreetings_Stubborn, ⟨by decide, by decide, by decide +kernel⟩, by decide⟩
theorem ciX0_1 : CB RX0 1 mX8_init 0 ∧ yX8_init.name = "<init>" ∧ Cond.instanceMethod yX8_init ∈ tb := ⟨cbX0_1, rfl, tb_at (i := 128) (by decide +kernel) rfl⟩
theorem cdX2_init : Cond.code yX2_init cX2_init 1 none ∈ tb := tb_at (i := 115) (by decide +kernel) rfl
theorem in_AshGreetings_Neighbour : Cond.initialized "AshGreetings$Neighbour" ∈ tb := tb_at (i := 67) (by decide +kernel) rfl
theorem cbX1_1 : CB RX1 1 mX2_init 0 := ⟨tb_at (i := 123) (by decide +kernel) rfl, cdX2_init, in_AshGreetings_Neighbour, ⟨by decide, by decide, by decide +kernel⟩, by decide⟩
theorem ciX1_1 : CB RX1 1 mX2_init 0 ∧ yX2_init.name = "<init>" ∧ Cond.instanceMethod yX2_init ∈ tb := ⟨cbX1_1, rfl, tb_at (i := 114) (by decide +kernel) rfl⟩
theorem cdX5_init : Cond.code yX5_init cX5_init 1 none ∈ tb := tb_at (i := 93) (by decide +kernel) rfl
theorem in_AshGreetings_Reading : Cond.initialized "AshGreetings$Reading" ∈ tb := tb_at (i := 65) (by decide +kernel) rfl
theorem cbX10_20 : CB RX10 20 mX5_init 0 := ⟨tb_at (i := 91) (by decide +kernel) rfl, cdX5_init, in_AshGreetings_Reading, ⟨by decide, by decide, by decide +kernel⟩, by decide⟩
theorem ciX10_20 : CB RX10 20 mX5_init 0 ∧ yX5_init.name = "<init>" ∧ Cond.instanceMethod yX5_init ∈ tb := ⟨cbX10_20, rfl, tb_at (i := 92) (by decide +kernel) rfl⟩
theorem cdX9_init : Cond.code yX9_init cX9_init 1 none ∈ tb := tb_at (i := 108) (by decide +kernel) rfl
theorem in_AshGreetings_Town : Cond.initialized "AshGreetings$Town" ∈ tb := tb_at (i := 66) (by decide +kernel) rfl
theorem cbX10_27 : CB RX10 27 mX9_init 0 := ⟨tb_at (i := 106) (by decide +kernel) rfl, cdX9_init, in_AshGreetings_Town, ⟨by decide, by decide, by decide +kernel⟩, by decide⟩
theorem ciX10_27 : CB RX10 27 mX9_init 0 ∧ yX9_init.name = "<init>" ∧ Cond.instanceMethod yX9_init ∈ tb := ⟨cbX10_27, rfl, tb_at (i := 107) (by decide +kernel) rfl⟩
theorem cdX3_init : Cond.code yX3_init cX3_init 1 none ∈ tb := tb_at (i := 221) (by decide +kernel) rfl
theorem in_AshGreetings_Outlook : Cond.initialized "AshGreetings$Outlook" ∈ tb := tb_at (i := 73) (by decide +kernel) rfl
theorem cbX10_38 : CB RX10 38 mX3_init 0 := ⟨tb_at (i := 219) (by decide +kernel) rfl, cdX3_init, in_AshGreetings_Outlook, ⟨by decide, by decide, by decide +kernel⟩, by decide⟩
theorem ciX10_38 : CB RX10 38 mX3_init 0 ∧ yX3_init.name = "<init>" ∧ Cond.instanceMethod yX3_init ∈ tb := ⟨cbX10_38, rfl, tb_at (i := 220) (by decide +kernel) rfl⟩
theorem cdX7_init : Cond.code yX7_init cX7_init 2 none ∈ tb := tb_at (i := 266) (by decide +kernel) rfl
theorem in_AshGreetings_Strip : Cond.initialized "AshGreetings$Strip" ∈ tb := tb_at (i := 74) (by decide +kernel) rfl
theorem cbX10_61 : CB RX10 61 mX7_init 1 := ⟨tb_at (i := 264) (by decide +kernel) rfl, cdX7_init, in_AshGreetings_Strip, ⟨by decide, by decide, by decide +kernel⟩, by decide⟩
theorem ciX10_61 : CB RX10 61 mX7_init 1 ∧ yX7_init.name = "<init>" ∧ Cond.instanceMethod yX7_init ∈ tb := ⟨cbX10_61, rfl, tb_at (i := 265) (by decide +kernel) rfl⟩
theorem cdX10_isRow : Cond.code yX10_isRow cX10_isRow 2 (some .boolean) ∈ tb := tb_at (i := 325) (by decide +kernel) rfl
theorem cbX10_64 : CB RX10 64 mX10_isRow 1 := ⟨tb_at (i := 322) (by decide +kernel) rfl, cdX10_isRow, in_AshGreetings, ⟨by decide, by decide, by decide +kernel⟩, by decide⟩
theorem cvX10_64 : CV RX10 64 10 mX10_isRow 1 := ⟨cbX10_64, tb_at (i := 324) (by decide +kernel) rfl, tb_at (i := 0) (by decide +kernel) rfl, _, _, cfX10⟩
theorem cdX10_foundOut : Cond.code yX10_foundOut cX10_foundOut 2 (some .int) ∈ tb := tb_at (i := 329) (by decide +kernel) rfl
theorem cbX10_68 : CB RX10 68 mX10_foundOut 1 := ⟨tb_at (i := 326) (by decide +kernel) rfl, cdX10_foundOut, in_AshGreetings, ⟨by decide, by decide, by decide +kernel⟩, by decide⟩
theorem cvX10_68 : CV RX10 68 10 mX10_foundOut 1 := ⟨cbX10_68, tb_at (i := 328) (by decide +kernel) rfl, tb_at (i := 1) (by decide +kernel) rfl, _, _, cfX10⟩
theorem cdX7_open : Cond.code yX7_open cX7_open 3 none ∈ tb := tb_at (i := 333) (by decide +kernel) rfl
theorem cbX10_72 : CB RX10 72 mX7_open 2 := ⟨tb_at (i := 330) (by decide +kernel) rfl, cdX7_open, in_AshGreetings_Strip, ⟨by decide, by decide, by decide +kernel⟩, by decide⟩
theorem cvX10_72 : CV RX10 72 7 mX7_open 2 := ⟨cbX10_72, tb_at (i := 331) (by decide +kernel) rfl, tb_at (i := 332) (by decide +kernel) rfl, _, _, cfX7⟩
theorem cdX10_refusalOfPlace : Cond.code yX10_refusalOfPlace cX10_refusalOfPlace 3 (some .int) ∈ tb := tb_at (i := 347) (by decide +kernel) rfl
theorem cbX10_76 : CB RX10 76 mX10_refusalOfPlace 2 := ⟨tb_at (i := 344) (by decide +kernel) rfl, cdX10_refusalOfPlace, in_AshGreetings, ⟨by decide, by decide, by decide +kernel⟩, by decide⟩
theorem cvX10_76 : CV RX10 76 10 mX10_refusalOfPlace 2 := ⟨cbX10_76, tb_at (i := 346) (by decide +kernel) rfl, tb_at (i := 2) (by decide +kernel) rfl, _, _, cfX10⟩
theorem cdX7_isThere : Cond.code yX7_isThere cX7_isThere 1 (some .boolean) ∈ tb := tb_at (i := 351) (by decide +kernel) rfl
theorem cbX10_83 : CB RX10 83 mX7_isThere 0 := ⟨tb_at (i := 348) (by decide +kernel) rfl, cdX7_isThere, in_AshGreetings_Strip, ⟨by decide, by decide, by decide +kernel⟩, by decide⟩
theorem cvX10_83 : CV RX10 83 7 mX7_isThere 0 := ⟨cbX10_83, tb_at (i := 349) (by decide +kernel) rfl, tb_at (i := 350) (by decide +kernel) rfl, _, _, cfX7⟩
theorem cdX7_close : Cond.code yX7_close cX7_close 1 none ∈ tb := tb_at (i := 367) (by decide +kernel) rfl
theorem cbX10_87 : CB RX10 87 mX7_close 0 := ⟨tb_at (i := 364) (by decide +kernel) rfl, cdX7_close, in_AshGreetings_Strip, ⟨by decide, by decide, by decide +kernel⟩, by decide⟩
theorem cvX10_87 : CV RX10 87 7 mX7_close 0 := ⟨cbX10_87, tb_at (i := 365) (by decide +kernel) rfl, tb_at (i := 366) (by decide +kernel) rfl, _, _, cfX7⟩
theorem cdX7_hasRun : Cond.code yX7_hasRun cX7_hasRun 3 (some .boolean) ∈ tb := tb_at (i := 375) (by decide +kernel) rfl
theorem cbX10_90 : CB RX10 90 mX7_hasRun 2 := ⟨tb_at (i := 372) (by decide +kernel) rfl, cdX7_hasRun, in_AshGreetings_Strip, ⟨by decide, by decide, by decide +kernel⟩, by decide⟩
theorem cvX10_90 : CV RX10 90 7 mX7_hasRun 2 := ⟨cbX10_90, tb_at (i := 373) (by decide +kernel) rfl, tb_at (i := 374) (by decide +kernel) rfl, _, _, cfX7⟩
theorem cdX7_total : Cond.code yX7_total cX7_total 4 (some .long) ∈ tb := tb_at (i := 386) (by decide +kernel) rfl
theorem cbX10_103 : CB RX10 103 mX7_total 0 := ⟨tb_at (i := 383) (by decide +kernel) rfl, cdX7_total, in_AshGreetings_Strip, ⟨by decide, by decide, by decide +kernel⟩, by decide⟩
theorem cvX10_103 : CV RX10 103 7 mX7_total 0 := ⟨cbX10_103, tb_at (i := 384) (by decide +kernel) rfl, tb_at (i := 385) (by decide +kernel) rfl, _, _, cfX7⟩
theorem cdX10_isText : Cond.code yX10_isText cX10_isText 2 (some .boolean) ∈ tb := tb_at (i := 394) (by decide +kernel) rfl
theorem cbX10_107 : CB RX10 107 mX10_isText 1 := ⟨tb_at (i := 391) (by decide +kernel) rfl, cdX10_isText, in_AshGreetings, ⟨by decide, by decide, by decide +kernel⟩, by decide⟩
theorem cvX10_107 : CV RX10 107 10 mX10_isText 1 := ⟨cbX10_107, tb_at (i := 393) (by decide +kernel) rfl, tb_at (i := 3) (by decide +kernel) rfl, _, _, cfX10⟩
theorem cdX5_faultOf : Cond.code yX5_faultOf cX5_faultOf 5 (some .int) ∈ tb := tb_at (i := 406) (by decide +kernel) rfl
theorem cbX10_110 : CB RX10 110 mX5_faultOf 1 := ⟨tb_at (i := 403) (by decide +kernel) rfl, cdX5_faultOf, in_AshGreetings_Reading, ⟨by decide, by decide, by decide +kernel⟩, by decide⟩
theorem cvX10_110 : CV RX10 110 5 mX5_faultOf 1 := ⟨cbX10_110, tb_at (i := 404) (by decide +kernel) rfl, tb_at (i := 405) (by decide +kernel) rfl, _, _, cfX5⟩
theorem cdX9_settle : Cond.code yX9_settle cX9_settle 4 none ∈ tb := tb_at (i := 430) (by decide +kernel) rfl
theorem cbX10_114 : CB RX10 114 mX9_settle 1 := ⟨tb_at (i := 427) (by decide +kernel) rfl, cdX9_settle, in_AshGreetings_Town, ⟨by decide, by decide, by decide +kernel⟩, by decide⟩
theorem cvX10_114 : CV RX10 114 9 mX9_settle 1 := ⟨cbX10_114, tb_at (i := 428) (by decide +kernel) rfl, tb_at (i := 429) (by decide +kernel) rfl, _, _, cfX9⟩
theorem cdX10_isPerson : Cond.code yX10_isPerson cX10_isPerson 2 (some .boolean) ∈ tb := tb_at (i := 450) (by decide +kernel) rfl
theorem cbX10_121 : CB RX10 121 mX10_isPerson 1 := ⟨tb_at (i := 447) (by decide +kernel) rfl, cdX10_isPerson, in_AshGreetings, ⟨by decide, by decide, by decide +kernel⟩, by decide⟩
theorem cvX10_121 : CV RX10 121 10 mX10_isPerson 1 := ⟨cbX10_121, tb_at (i := 449) (by decide +kernel) rfl, tb_at (i := 7) (by decide +kernel) rfl, _, _, cfX10⟩
theorem cdX9_factOf : Cond.code yX9_factOf cX9_factOf 3 (some .int) ∈ tb := tb_at (i := 454) (by decide +kernel) rfl
theorem cbX10_124 : CB RX10 124 mX9_factOf 2 := ⟨tb_at (i := 451) (by decide +kernel) rfl, cdX9_factOf, in_AshGreetings_Town, ⟨by decide, by decide, by decide +kernel⟩, by decide⟩
theorem cvX10_124 : CV RX10 124 9 mX9_factOf 2 := ⟨cbX10_124, tb_at (i := 452) (by decide +kernel) rfl, tb_at (i := 453) (by decide +kernel) rfl, _, _, cfX9⟩
theorem cdX10_isStreet : Cond.code yX10_isStreet cX10_isStreet 2 (some .boolean) ∈ tb := tb_at (i := 486) (by decide +kernel) rfl
theorem cbX10_128 : CB RX10 128 mX10_isStreet 1 := ⟨tb_at (i := 483) (by decide +kernel) rfl, cdX10_isStreet, in_AshGreetings, ⟨by decide, by decide, by decide +kernel⟩, by decide⟩
theorem cvX10_128 : CV RX10 128 10 mX10_isStreet 1 := ⟨cbX10_128, tb_at (i := 485) (by decide +kernel) rfl, tb_at (i := 8) (by decide +kernel) rfl, _, _, cfX10⟩
theorem cdX9_hasPeople : Cond.code yX9_hasPeople cX9_hasPeople 1 (some .boolean) ∈ tb := tb_at (i := 490) (by decide +kernel) rfl
theorem cbX10_131 : CB RX10 131 mX9_hasPeople 0 := ⟨tb_at (i := 487) (by decide +kernel) rfl, cdX9_hasPeople, in_AshGreetings_Town, ⟨by decide, by decide, by decide +kernel⟩, by decide⟩
theorem cvX10_131 : CV RX10 131 9 mX9_hasPeople 0 := ⟨cbX10_131, tb_at (i := 488) (by decide +kernel) rfl, tb_at (i := 489) (by decide +kernel) rfl, _, _, cfX9⟩
theorem cdX9_crowdIn : Cond.code yX9_crowdIn cX9_crowdIn 4 (some .int) ∈ tb := tb_at (i := 494) (by decide +kernel) rfl
theorem cbX10_134 : CB RX10 134 mX9_crowdIn 1 := ⟨tb_at (i := 491) (by decide +kernel) rfl, cdX9_crowdIn, in_AshGreetings_Town, ⟨by decide, by decide, by decide +kernel⟩, by decide⟩
theorem cvX10_134 : CV RX10 134 9 mX9_crowdIn 1 := ⟨cbX10_134, tb_at (i := 492) (by decide +kernel) rfl, tb_at (i := 493) (by decide +kernel) rfl, _, _, cfX9⟩
theorem cdX9_sortOf : Cond.code yX9_sortOf cX9_sortOf 2 (some (.object "AshGreetings$Neighbour")) ∈ tb := tb_at (i := 462) (by decide +kernel) rfl
theorem cbX10_140 : CB RX10 140 mX9_sortOf 1 := ⟨tb_at (i := 499) (by decide +kernel) rfl, cdX9_sortOf, in_AshGreetings_Town, ⟨by decide, by decide, by decide +kernel⟩, by decide⟩
theorem cvX10_140 : CV RX10 140 9 mX9_sortOf 1 := ⟨cbX10_140, tb_at (i := 460) (by decide +kernel) rfl, tb_at (i := 461) (by decide +kernel) rfl, _, _, cfX9⟩
theorem cdX10_isOfKind : Cond.code yX10_isOfKind cX10_isOfKind 3 (some .boolean) ∈ tb := tb_at (i := 503) (by decide +kernel) rfl
theorem cbX10_144 : CB RX10 144 mX10_isOfKind 2 := ⟨tb_at (i := 500) (by decide +kernel) rfl, cdX10_isOfKind, in_AshGreetings, ⟨by decide, by decide, by decide +kernel⟩, by decide⟩
theorem cvX10_144 : CV RX10 144 10 mX10_isOfKind 2 := ⟨cbX10_144, tb_at (i := 502) (by decide +kernel) rfl, tb_at (i := 9) (by decide +kernel) rfl, _, _, cfX10⟩
theorem cdX2_forgiveness : Cond.code yX2_forgiveness cX2_forgiveness 2 (some .int) ∈ tb := tb_at (i := 522) (by decide +kernel) rfl
theorem cuX10_154_2 : CU RX10 154 2 yX2_forgiveness mX2_forgiveness 1 := ⟨tb_at (i := 509) (by decide +kernel) rfl, tb_at (i := 512) (by decide +kernel) rfl, tb_at (i := 511) (by decide +kernel) rfl, tb_at (i := 510) (by decide +kernel) rfl, in_AshGreetings_Neighbour, cdX2_forgiveness, ⟨by decide, by decide, by decide +kernel⟩, by decide, Or.inl rfl, _, _, cfX2⟩
theorem cdX1_forgiveness : Cond.code yX1_forgiveness cX1_forgiveness 2 (some .int) ∈ tb := tb_at (i := 518) (by decide +kernel) rfl
theorem in_AshGreetings_Devout : Cond.initialized "AshGreetings$Devout" ∈ tb := tb_at (i := 68) (by decide +kernel) rfl
theorem cuX10_154_1 : CU RX10 154 1 yX2_forgiveness mX1_forgiveness 1 := ⟨tb_at (i := 509) (by decide +kernel) rfl, tb_at (i := 512) (by decide +kernel) rfl, tb_at (i := 516) (by decide +kernel) rfl, tb_at (i := 517) (by decide +kernel) rfl, in_AshGreetings_Devout, cdX1_forgiveness, ⟨by decide, by decide, by decide +kernel⟩, by decide, Or.inr ⟨tb_at (i := 510) (by decide +kernel) rfl, _, _, _, cdX2_forgiveness⟩, _, _, cfX1⟩
theorem cdX8_forgiveness : Cond.code yX8_forgiveness cX8_forgiveness 2 (some .int) ∈ tb := tb_at (i := 515) (by decide +kernel) rfl
theorem cuX10_154_8 : CU RX10 154 8 yX2_forgiveness mX8_forgiveness 1 := ⟨tb_at (i := 509) (by decide +kernel) rfl, tb_at (i := 512) (by decide +kernel) rfl, tb_at (i := 521) (by decide +kernel) rfl, tb_at (i := 514) (by decide +kernel) rfl, in_AshGreetings_Stubborn, cdX8_forgiveness, ⟨by decide, by decide, by decide +kernel⟩, by decide, Or.inr ⟨tb_at (i := 510) (by decide +kernel) rfl, _, _, _, cdX2_forgiveness⟩, _, _, cfX8⟩
theorem cuX10_154_6 : CU RX10 154 6 yX2_forgiveness mX2_forgiveness 1 := ⟨tb_at (i := 509) (by decide +kernel) rfl, tb_at (i := 512) (by decide +kernel) rfl, tb_at (i := 520) (by decide +kernel) rfl, tb_at (i := 510) (by decide +kernel) rfl, in_AshGreetings_Neighbour, cdX2_forgiveness, ⟨by decide, by decide, by decide +kernel⟩, by decide, Or.inl rfl, _, _, cfX6⟩
theorem cuX10_154_4 : CU RX10 154 4 yX2_forgiveness mX1_forgiveness 1 := ⟨tb_at (i := 509) (by decide +kernel) rfl, tb_at (i := 512) (by decide +kernel) rfl, tb_at (i := 519) (by decide +kernel) rfl, tb_at (i := 517) (by decide +kernel) rfl, in_AshGreetings_Devout, cdX1_forgiveness, ⟨by decide, by decide, by decide +kernel⟩, by decide, Or.inr ⟨tb_at (i := 510) (by decide +kernel) rfl, _, _, _, cdX2_forgiveness⟩, _, _, cfX4⟩
theorem cuX10_154_0 : CU RX10 154 0 yX2_forgiveness mX8_forgiveness 1 := ⟨tb_at (i := 509) (by decide +kernel) rfl, tb_at (i := 512) (by decide +kernel) rfl, tb_at (i := 513) (by decide +kernel) rfl, tb_at (i := 514) (by decide +kernel) rfl, in_AshGreetings_Stubborn, cdX8_forgiveness, ⟨by decide, by decide, by decide +kernel⟩, by decide, Or.inr ⟨tb_at (i := 510) (by decide +kernel) rfl, _, _, _, cdX2_forgiveness⟩, _, _, cfX0⟩
theorem cdX2_seenAs : Cond.code yX2_seenAs cX2_seenAs 2 (some .int) ∈ tb := tb_at (i := 474) (by decide +kernel) rfl
theorem cuX10_162_2 : CU RX10 162 2 yX2_seenAs mX2_seenAs 1 := ⟨tb_at (i := 523) (by decide +kernel) rfl, tb_at (i := 466) (by decide +kernel) rfl, tb_at (i := 465) (by decide +kernel) rfl, tb_at (i := 464) (by decide +kernel) rfl, in_AshGreetings_Neighbour, cdX2_seenAs, ⟨by decide, by decide, by decide +kernel⟩, by decide, Or.inl rfl, _, _, cfX2⟩
theorem cuX10_162_1 : CU RX10 162 1 yX2_seenAs mX2_seenAs 1 := ⟨tb_at (i := 523) (by decide +kernel) rfl, tb_at (i := 466) (by decide +kernel) rfl, tb_at (i := 468) (by decide +kernel) rfl, tb_at (i := 464) (by decide +kernel) rfl, in_AshGreetings_Neighbour, cdX2_seenAs, ⟨by decide, by decide, by decide +kernel⟩, by decide, Or.inl rfl, _, _, cfX1⟩
theorem cuX10_162_8 : CU RX10 162 8 yX2_seenAs mX2_seenAs 1 := ⟨tb_at (i := 523) (by decide +kernel) rfl, tb_at (i := 466) (by decide +kernel) rfl, tb_at (i := 473) (by decide +kernel) rfl, tb_at (i := 464) (by decide +kernel) rfl, in_AshGreetings_Neighbour, cdX2_seenAs, ⟨by decide, by decide, by decide +kernel⟩, by decide, Or.inl rfl, _, _, cfX8⟩
theorem cdX6_seenAs : Cond.code yX6_seenAs cX6_seenAs 2 (some .int) ∈ tb := tb_at (i := 472) (by decide +kernel) rfl
theorem in_AshGreetings_ShortOne : Cond.initialized "AshGreetings$ShortOne" ∈ tb := tb_at (i := 70) (by decide +kernel) rfl
theorem cuX10_162_6 : CU RX10 162 6 yX2_seenAs mX6_seenAs 1 := ⟨tb_at (i := 523) (by decide +kernel) rfl, tb_at (i := 466) (by decide +kernel) rfl, tb_at (i := 470) (by decide +kernel) rfl, tb_at (i := 471) (by decide +kernel) rfl, in_AshGreetings_ShortOne, cdX6_seenAs, ⟨by decide, by decide, by decide +kernel⟩, by decide, Or.inr ⟨tb_at (i := 464) (by decide +kernel) rfl, _, _, _, cdX2_seenAs⟩, _, _, cfX6⟩
theorem cuX10_162_4 : CU RX10 162 4 yX2_seenAs mX2_seenAs 1 := ⟨tb_at (i := 523) (by decide +kernel) rfl, tb_at (i := 466) (by decide +kernel) rfl, tb_at (i := 469) (by decide +kernel) rfl, tb_at (i := 464) (by decide +kernel) rfl, in_AshGreetings_Neighbour, cdX2_seenAs, ⟨by decide, by decide, by decide +kernel⟩, by decide, Or.inl rfl, _, _, cfX4⟩
theorem cuX10_162_0 : CU RX10 162 0 yX2_seenAs mX2_seenAs 1 := ⟨tb_at (i := 523) (by decide +kernel) rfl, tb_at (i := 466) (by decide +kernel) rfl, tb_at (i := 467) (by decide +kernel) rfl, tb_at (i := 464) (by decide +kernel) rfl, in_AshGreetings_Neighbour, cdX2_seenAs, ⟨by decide, by decide, by decide +kernel⟩, by decide, Or.inl rfl, _, _, cfX0⟩
theorem cdX9_facesFoe : Cond.code yX9_facesFoe cX9_facesFoe 2 (some .boolean) ∈ tb := tb_at (i := 527) (by decide +kernel) rfl
theorem cbX10_165 : CB RX10 165 mX9_facesFoe 1 := ⟨tb_at (i := 524) (by decide +kernel) rfl, cdX9_facesFoe, in_AshGreetings_Town, ⟨by decide, by decide, by decide +kernel⟩, by decide⟩
theorem cvX10_165 : CV RX10 165 9 mX9_facesFoe 1 := ⟨cbX10_165, tb_at (i := 525) (by decide +kernel) rfl, tb_at (i := 526) (by decide +kernel) rfl, _, _, cfX9⟩
theorem cdX9_perform : Cond.code yX9_perform cX9_perform 4 none ∈ tb := tb_at (i := 535) (by decide +kernel) rfl
theorem cbX10_171 : CB RX10 171 mX9_perform 3 := ⟨tb_at (i := 532) (by decide +kernel) rfl, cdX9_perform, in_AshGreetings_Town, ⟨by decide, by decide, by decide +kernel⟩, by decide⟩
theorem cvX10_171 : CV RX10 171 9 mX9_perform 3 := ⟨cbX10_171, tb_at (i := 533) (by decide +kernel) rfl, tb_at (i := 534) (by decide +kernel) rfl, _, _, cfX9⟩
theorem cdX9_totalGrudge : Cond.code yX9_totalGrudge cX9_totalGrudge 3 (some .int) ∈ tb := tb_at (i := 588) (by decide +kernel) rfl
theorem cbX10_175 : CB RX10 175 mX9_totalGrudge 0 := ⟨tb_at (i := 585) (by decide +kernel) rfl, cdX9_totalGrudge, in_AshGreetings_Town, ⟨by decide, by decide, by decide +kernel⟩, by decide⟩
theorem cvX10_175 : CV RX10 175 9 mX9_totalGrudge 0 := ⟨cbX10_175, tb_at (i := 586) (by decide +kernel) rfl, tb_at (i := 587) (by decide +kernel) rfl, _, _, cfX9⟩
theorem cdX9_goBackTo : Cond.code yX9_goBackTo cX9_goBackTo 3 none ∈ tb := tb_at (i := 608) (by decide +kernel) rfl
theorem cbX10_182 : CB RX10 182 mX9_goBackTo 1 := ⟨tb_at (i := 605) (by decide +kernel) rfl, cdX9_goBackTo, in_AshGreetings_Town, ⟨by decide, by decide, by decide +kernel⟩, by decide⟩
theorem cvX10_182 : CV RX10 182 9 mX9_goBackTo 1 := ⟨cbX10_182, tb_at (i := 606) (by decide +kernel) rfl, tb_at (i := 607) (by decide +kernel) rfl, _, _, cfX9⟩
theorem cdX10_isKeepingPlace : Cond.code yX10_isKeepingPlace cX10_isKeepingPlace 2 (some .boolean) ∈ tb := tb_at (i := 616) (by decide +kernel) rfl
theorem cbX10_185 : CB RX10 185 mX10_isKeepingPlace 1 := ⟨tb_at (i := 613) (by decide +kernel) rfl, cdX10_isKeepingPlace, in_AshGreetings, ⟨by decide, by decide, by decide +kernel⟩, by decide⟩
theorem cvX10_185 : CV RX10 185 10 mX10_isKeepingPlace 1 := ⟨cbX10_185, tb_at (i := 615) (by decide +kernel) rfl, tb_at (i := 12) (by decide +kernel) rfl, _, _, cfX10⟩
theorem cdX9_become : Cond.code yX9_become cX9_become 2 none ∈ tb := tb_at (i := 620) (by decide +kernel) rfl
theorem cbX10_188 : CB RX10 188 mX9_become 1 := ⟨tb_at (i := 617) (by decide +kernel) rfl, cdX9_become, in_AshGreetings_Town, ⟨by decide, by decide, by decide +kernel⟩, by decide⟩
theorem cvX10_188 : CV RX10 188 9 mX9_become 1 := ⟨cbX10_188, tb_at (i := 618) (by decide +kernel) rfl, tb_at (i := 619) (by decide +kernel) rfl, _, _, cfX9⟩
theorem cdX9_moodOf : Cond.code yX9_moodOf cX9_moodOf 2 (some .int) ∈ tb := tb_at (i := 547) (by decide +kernel) rfl
theorem cbX10_192 : CB RX10 192 mX9_moodOf 1 := ⟨tb_at (i := 633) (by decide +kernel) rfl, cdX9_moodOf, in_AshGreetings_Town, ⟨by decide, by decide, by decide +kernel⟩, by decide⟩
theorem cvX10_192 : CV RX10 192 9 mX9_moodOf 1 := ⟨cbX10_192, tb_at (i := 545) (by decide +kernel) rfl, tb_at (i := 546) (by decide +kernel) rfl, _, _, cfX9⟩
theorem cdX3_lookAt : Cond.code yX3_lookAt cX3_lookAt 2 none ∈ tb := tb_at (i := 641) (by decide +kernel) rfl
theorem cbX10_195 : CB RX10 195 mX3_lookAt 1 := ⟨tb_at (i := 638) (by decide +kernel) rfl, cdX3_lookAt, in_AshGreetings_Outlook, ⟨by decide, by decide, by decide +kernel⟩, by decide⟩
theorem cvX10_195 : CV RX10 195 3 mX3_lookAt 1 := ⟨cbX10_195, tb_at (i := 639) (by decide +kernel) rfl, tb_at (i := 640) (by decide +kernel) rfl, _, _, cfX3⟩
theorem cdX3_totalBehind : Cond.code yX3_totalBehind cX3_totalBehind 3 (some .int) ∈ tb := tb_at (i := 646) (by decide +kernel) rfl
theorem cbX10_198 : CB RX10 198 mX3_totalBehind 1 := ⟨tb_at (i := 643) (by decide +kernel) rfl, cdX3_totalBehind, in_AshGreetings_Outlook, ⟨by decide, by decide, by decide +kernel⟩, by decide⟩
theorem cvX10_198 : CV RX10 198 3 mX3_totalBehind 1 := ⟨cbX10_198, tb_at (i := 644) (by decide +kernel) rfl, tb_at (i := 645) (by decide +kernel) rfl, _, _, cfX3⟩
theorem cdX3_daysTillPeace : Cond.code yX3_daysTillPeace cX3_daysTillPeace 4 (some .int) ∈ tb := tb_at (i := 669) (by decide +kernel) rfl
theorem cbX10_202 : CB RX10 202 mX3_daysTillPeace 0 := ⟨tb_at (i := 666) (by decide +kernel) rfl, cdX3_daysTillPeace, in_AshGreetings_Outlook, ⟨by decide, by decide, by decide +kernel⟩, by decide⟩
theorem cvX10_202 : CV RX10 202 3 mX3_daysTillPeace 0 := ⟨cbX10_202, tb_at (i := 667) (by decide +kernel) rfl, tb_at (i := 668) (by decide +kernel) rfl, _, _, cfX3⟩
theorem cdX10_passOn : Cond.code yX10_passOn cX10_passOn 2 (some .int) ∈ tb := tb_at (i := 674) (by decide +kernel) rfl
theorem cbX10_205 : CB RX10 205 mX10_passOn 1 := ⟨tb_at (i := 671) (by decide +kernel) rfl, cdX10_passOn, in_AshGreetings, ⟨by decide, by decide, by decide +kernel⟩, by decide⟩
theorem cvX10_205 : CV RX10 205 10 mX10_passOn 1 := ⟨cbX10_205, tb_at (i := 673) (by decide +kernel) rfl, tb_at (i := 16) (by decide +kernel) rfl, _, _, cfX10⟩
theorem cdX3_howManyAtPeace : Cond.code yX3_howManyAtPeace cX3_howManyAtPeace 3 (some .int) ∈ tb := tb_at (i := 682) (by decide +kernel) rfl
theorem cbX10_208 : CB RX10 208 mX3_howManyAtPeace 0 := ⟨tb_at (i := 679) (by decide +kernel) rfl, cdX3_howManyAtPeace, in_AshGreetings_Outlook, ⟨by decide, by decide, by decide +kernel⟩, by decide⟩
theorem cvX10_208 : CV RX10 208 3 mX3_howManyAtPeace 0 := ⟨cbX10_208, tb_at (i := 680) (by decide +kernel) rfl, tb_at (i := 681) (by decide +kernel) rfl, _, _, cfX3⟩
theorem cdX3_bestDepth : Cond.code yX3_bestDepth cX3_bestDepth 5 (some .int) ∈ tb := tb_at (i := 690) (by decide +kernel) rfl
theorem cbX10_211 : CB RX10 211 mX3_bestDepth 1 := ⟨tb_at (i := 687) (by decide +kernel) rfl, cdX3_bestDepth, in_AshGreetings_Outlook, ⟨by decide, by decide, by decide +kernel⟩, by decide⟩
theorem cvX10_211 : CV RX10 211 3 mX3_bestDepth 1 := ⟨cbX10_211, tb_at (i := 688) (by decide +kernel) rfl, tb_at (i := 689) (by decide +kernel) rfl, _, _, cfX3⟩
theorem cdX3_bestMove : Cond.code yX3_bestMove cX3_bestMove 8 (some .int) ∈ tb := tb_at (i := 700) (by decide +kernel) rfl
theorem cbX10_214 : CB RX10 214 mX3_bestMove 1 := ⟨tb_at (i := 697) (by decide +kernel) rfl, cdX3_bestMove, in_AshGreetings_Outlook, ⟨by decide, by decide, by decide +kernel⟩, by decide⟩
theorem cvX10_214 : CV RX10 214 3 mX3_bestMove 1 := ⟨cbX10_214, tb_at (i := 698) (by decide +kernel) rfl, tb_at (i := 699) (by decide +kernel) rfl, _, _, cfX3⟩
theorem cdX10_refusalOfRecord : Cond.code yX10_refusalOfRecord cX10_refusalOfRecord 5 (some .int) ∈ tb := tb_at (i := 708) (by decide +kernel) rfl
theorem cbX10_217 : CB RX10 217 mX10_refusalOfRecord 2 := ⟨tb_at (i := 705) (by decide +kernel) rfl, cdX10_refusalOfRecord, in_AshGreetings, ⟨by decide, by decide, by decide +kernel⟩, by decide⟩
theorem cvX10_217 : CV RX10 217 10 mX10_refusalOfRecord 2 := ⟨cbX10_217, tb_at (i := 707) (by decide +kernel) rfl, tb_at (i := 17) (by decide +kernel) rfl, _, _, cfX10⟩
theorem cdX3_kindsThatFit : Cond.code yX3_kindsThatFit cX3_kindsThatFit 6 (some .int) ∈ tb := tb_at (i := 712) (by decide +kernel) rfl
theorem cbX10_220 : CB RX10 220 mX3_kindsThatFit 2 := ⟨tb_at (i := 709) (by decide +kernel) rfl, cdX3_kindsThatFit, in_AshGreetings_Outlook, ⟨by decide, by decide, by decide +kernel⟩, by decide⟩
theorem cvX10_220 : CV RX10 220 3 mX3_kindsThatFit 2 := ⟨cbX10_220, tb_at (i := 710) (by decide +kernel) rfl, tb_at (i := 711) (by decide +kernel) rfl, _, _, cfX3⟩
theorem cdX3_heightsThatFit : Cond.code yX3_heightsThatFit cX3_heightsThatFit 6 (some .int) ∈ tb := tb_at (i := 724) (by decide +kernel) rfl
theorem cbX10_224 : CB RX10 224 mX3_heightsThatFit 2 := ⟨tb_at (i := 721) (by decide +kernel) rfl, cdX3_heightsThatFit, in_AshGreetings_Outlook, ⟨by decide, by decide, by decide +kernel⟩, by decide⟩
theorem cvX10_224 : CV RX10 224 3 mX3_heightsThatFit 2 := ⟨cbX10_224, tb_at (i := 722) (by decide +kernel) rfl, tb_at (i := 723) (by decide +kernel) rfl, _, _, cfX3⟩
theorem cdX3_bestLook : Cond.code yX3_bestLook cX3_bestLook 7 (some .int) ∈ tb := tb_at (i := 732) (by decide +kernel) rfl
theorem cbX10_227 : CB RX10 227 mX3_bestLook 2 := ⟨tb_at (i := 729) (by decide +kernel) rfl, cdX3_bestLook, in_AshGreetings_Outlook, ⟨by decide, by decide, by decide +kernel⟩, by decide⟩
theorem cvX10_227 : CV RX10 227 3 mX3_bestLook 2 := ⟨cbX10_227, tb_at (i := 730) (by decide +kernel) rfl, tb_at (i := 731) (by decide +kernel) rfl, _, _, cfX3⟩
theorem cdX3_totalByTurns : Cond.code yX3_totalByTurns cX3_totalByTurns 2 (some .int) ∈ tb := tb_at (i := 749) (by decide +kernel) rfl
theorem cbX10_230 : CB RX10 230 mX3_totalByTurns 1 := ⟨tb_at (i := 746) (by decide +kernel) rfl, cdX3_totalByTurns, in_AshGreetings_Outlook, ⟨by decide, by decide, by decide +kernel⟩, by decide⟩
theorem cvX10_230 : CV RX10 230 3 mX3_totalByTurns 1 := ⟨cbX10_230, tb_at (i := 747) (by decide +kernel) rfl, tb_at (i := 748) (by decide +kernel) rfl, _, _, cfX3⟩
theorem cdX10_areChances : Cond.code yX10_areChances cX10_areChances 3 (some .boolean) ∈ tb := tb_at (i := 762) (by decide +kernel) rfl
theorem cbX10_233 : CB RX10 233 mX10_areChances 2 := ⟨tb_at (i := 759) (by decide +kernel) rfl, cdX10_areChances, in_AshGreetings, ⟨by decide, by decide, by decide +kernel⟩, by decide⟩
theorem cvX10_233 : CV RX10 233 10 mX10_areChances 2 := ⟨cbX10_233, tb_at (i := 761) (by decide +kernel) rfl, tb_at (i := 22) (by decide +kernel) rfl, _, _, cfX10⟩
theorem cdX3_weighWinds : Cond.code yX3_weighWinds cX3_weighWinds 9 none ∈ tb := tb_at (i := 766) (by decide +kernel) rfl
theorem cbX10_236 : CB RX10 236 mX3_weighWinds 3 := ⟨tb_at (i := 763) (by decide +kernel) rfl, cdX3_weighWinds, in_AshGreetings_Outlook, ⟨by decide, by decide, by decide +kernel⟩, by decide⟩
theorem cvX10_236 : CV RX10 236 3 mX3_weighWinds 3 := ⟨cbX10_236, tb_at (i := 764) (by decide +kernel) rfl, tb_at (i := 765) (by decide +kernel) rfl, _, _, cfX3⟩
theorem cdX10_tellInLowestTerms : Cond.code yX10_tellInLowestTerms cX10_tellInLowestTerms 7 none ∈ tb := tb_at (i := 771) (by decide +kernel) rfl
theorem cbX10_245 : CB RX10 245 mX10_tellInLowestTerms 2 := ⟨tb_at (i := 768) (by decide +kernel) rfl, cdX10_tellInLowestTerms, in_AshGreetings, ⟨by decide, by decide, by decide +kernel⟩, by decide⟩
theorem cvX10_245 : CV RX10 245 10 mX10_tellInLowestTerms 2 := ⟨cbX10_245, tb_at (i := 770) (by decide +kernel) rfl, tb_at (i := 23) (by decide +kernel) rfl, _, _, cfX10⟩
theorem cdX10_performByLot : Cond.code yX10_performByLot cX10_performByLot 6 none ∈ tb := tb_at (i := 788) (by decide +kernel) rfl
theorem cbX10_256 : CB RX10 256 mX10_performByLot 1 := ⟨tb_at (i := 785) (by decide +kernel) rfl, cdX10_performByLot, in_AshGreetings, ⟨by decide, by decide, by decide +kernel⟩, by decide⟩
theorem cvX10_256 : CV RX10 256 10 mX10_performByLot 1 := ⟨cbX10_256, tb_at (i := 787) (by decide +kernel) rfl, tb_at (i := 24) (by decide +kernel) rfl, _, _, cfX10⟩
theorem cdX9_whoIsHid : Cond.code yX9_whoIsHid cX9_whoIsHid 3 (some .int) ∈ tb := tb_at (i := 811) (by decide +kernel) rfl
theorem cbX10_260 : CB RX10 260 mX9_whoIsHid 0 := ⟨tb_at (i := 808) (by decide +kernel) rfl, cdX9_whoIsHid, in_AshGreetings_Town, ⟨by decide, by decide, by decide +kernel⟩, by decide⟩
theorem cvX10_260 : CV RX10 260 9 mX9_whoIsHid 0 := ⟨cbX10_260, tb_at (i := 809) (by decide +kernel) rfl, tb_at (i := 810) (by decide +kernel) rfl, _, _, cfX9⟩
theorem cdX9_whoIsAtPeace : Cond.code yX9_whoIsAtPeace cX9_whoIsAtPeace 3 (some .int) ∈ tb := tb_at (i := 815) (by decide +kernel) rfl
theorem cbX10_263 : CB RX10 263 mX9_whoIsAtPeace 0 := ⟨tb_at (i := 812) (by decide +kernel) rfl, cdX9_whoIsAtPeace, in_AshGreetings_Town, ⟨by decide, by decide, by decide +kernel⟩, by decide⟩
theorem cvX10_263 : CV RX10 263 9 mX9_whoIsAtPeace 0 := ⟨cbX10_263, tb_at (i := 813) (by decide +kernel) rfl, tb_at (i := 814) (by decide +kernel) rfl, _, _, cfX9⟩
theorem cdX9_totalDeep : Cond.code yX9_totalDeep cX9_totalDeep 3 (some .int) ∈ tb := tb_at (i := 819) (by decide +kernel) rfl
theorem cbX10_266 : CB RX10 266 mX9_totalDeep 0 := ⟨tb_at (i := 816) (by decide +kernel) rfl, cdX9_totalDeep, in_AshGreetings_Town, ⟨by decide, by decide, by decide +kernel⟩, by decide⟩
theorem cvX10_266 : CV RX10 266 9 mX9_totalDeep 0 := ⟨cbX10_266, tb_at (i := 817) (by decide +kernel) rfl, tb_at (i := 818) (by decide +kernel) rfl, _, _, cfX9⟩
theorem cdX10_howManyAreThere : Cond.code yX10_howManyAreThere cX10_howManyAreThere 6 (some .int) ∈ tb := tb_at (i := 822) (by decide +kernel) rfl
theorem cbX10_269 : CB RX10 269 mX10_howManyAreThere 1 := ⟨tb_at (i := 820) (by decide +kernel) rfl, cdX10_howManyAreThere, in_AshGreetings, ⟨by decide, by decide, by decide +kernel⟩, by decide⟩
theorem csX10_269 : CB RX10 269 mX10_howManyAreThere 1 ∧ Cond.static yX10_howManyAreThere ∈ tb := ⟨cbX10_269, tb_at (i := 821) (by decide +kernel) rfl⟩
theorem cdX10_howManyAreKept : Cond.code yX10_howManyAreKept cX10_howManyAreKept 3 (some .int) ∈ tb := tb_at (i := 826) (by decide +kernel) rfl
theorem cbX10_273 : CB RX10 273 mX10_howManyAreKept 0 := ⟨tb_at (i := 823) (by decide +kernel) rfl, cdX10_howManyAreKept, in_AshGreetings, ⟨by decide, by decide, by decide +kernel⟩, by decide⟩
theorem cvX10_273 : CV RX10 273 10 mX10_howManyAreKept 0 := ⟨cbX10_273, tb_at (i := 825) (by decide +kernel) rfl, tb_at (i := 25) (by decide +kernel) rfl, _, _, cfX10⟩
theorem cdX10_howManyOfKind : Cond.code yX10_howManyOfKind cX10_howManyOfKind 4 (some .int) ∈ tb := tb_at (i := 830) (by decide +kernel) rfl
theorem cbX10_276 : CB RX10 276 mX10_howManyOfKind 1 := ⟨tb_at (i := 827) (by decide +kernel) rfl, cdX10_howManyOfKind, in_AshGreetings, ⟨by decide, by decide, by decide +kernel⟩, by decide⟩
theorem cvX10_276 : CV RX10 276 10 mX10_howManyOfKind 1 := ⟨cbX10_276, tb_at (i := 829) (by decide +kernel) rfl, tb_at (i := 26) (by decide +kernel) rfl, _, _, cfX10⟩
theorem cbX10_283 : CB RX10 283 mX10_count 1 := ⟨tb_at (i := 845) (by decide +kernel) rfl, cdX10_count, in_AshGreetings, ⟨by decide, by decide, by decide +kernel⟩, by decide⟩
theorem cvX10_283 : CV RX10 283 10 mX10_count 1 := ⟨cbX10_283, tb_at (i := 805) (by decide +kernel) rfl, tb_at (i := 806) (by decide +kernel) rfl, _, _, cfX10⟩
theorem cdX7_digestedInto : Cond.code yX7_digestedInto cX7_digestedInto 6 (some .long) ∈ tb := tb_at (i := 849) (by decide +kernel) rfl
theorem cbX10_286 : CB RX10 286 mX7_digestedInto 1 := ⟨tb_at (i := 846) (by decide +kernel) rfl, cdX7_digestedInto, in_AshGreetings_Strip, ⟨by decide, by decide, by decide +kernel⟩, by decide⟩
theorem cvX10_286 : CV RX10 286 7 mX7_digestedInto 1 := ⟨cbX10_286, tb_at (i := 847) (by decide +kernel) rfl, tb_at (i := 848) (by decide +kernel) rfl, _, _, cfX7⟩
theorem cdX7_has : Cond.code yX7_has cX7_has 2 (some .boolean) ∈ tb := tb_at (i := 355) (by decide +kernel) rfl
theorem cbX10_300 : CB RX10 300 mX7_has 1 := ⟨tb_at (i := 352) (by decide +kernel) rfl, cdX7_has, in_AshGreetings_Strip, ⟨by decide, by decide, by decide +kernel⟩, by decide⟩
theorem cvX10_300 : CV RX10 300 7 mX7_has 1 := ⟨cbX10_300, tb_at (i := 353) (by decide +kernel) rfl, tb_at (i := 354) (by decide +kernel) rfl, _, _, cfX7⟩
theorem cdX10_greatestShared : Cond.code yX10_greatestShared cX10_greatestShared 11 (some .long) ∈ tb := tb_at (i := 774) (by decide +kernel) rfl
theorem cbX10_304 : CB RX10 304 mX10_greatestShared 2 := ⟨tb_at (i := 772) (by decide +kernel) rfl, cdX10_greatestShared, in_AshGreetings, ⟨by decide, by decide, by decide +kernel⟩, by decide⟩
theorem csX10_304 : CB RX10 304 mX10_greatestShared 2 ∧ Cond.static yX10_greatestShared ∈ tb := ⟨cbX10_304, tb_at (i := 773) (by decide +kernel) rfl⟩
theorem cdX11_in : Cond.code yX11_in cX11_in 3 (some .boolean) ∈ tb := tb_at (i := 968) (by decide +kernel) rfl
theorem cbX11_76 : CB RX11 76 mX11_in 3 := ⟨tb_at (i := 966) (by decide +kernel) rfl, cdX11_in, in_AshGreetingsModel, ⟨by decide, by decide, by decide +kernel⟩, by decide⟩
theorem csX11_76 : CB RX11 76 mX11_in 3 ∧ Cond.static yX11_in ∈ tb := ⟨cbX11_76, tb_at (i := 967) (by decide +kernel) rfl⟩
theorem cdX11_isRow : Cond.code yX11_isRow cX11_isRow 1 (some .boolean) ∈ tb := tb_at (i := 975) (by decide +kernel) rfl
theorem cbX11_80 : CB RX11 80 mX11_isRow 1 := ⟨tb_at (i := 973) (by decide +kernel) rfl, cdX11_isRow, in_AshGreetingsModel, ⟨by decide, by decide, by decide +kernel⟩, by decide⟩
theorem csX11_80 : CB RX11 80 mX11_isRow 1 ∧ Cond.static yX11_isRow ∈ tb := ⟨cbX11_80, tb_at (i := 974) (by decide +kernel) rfl⟩
theorem cdX11_found : Cond.code yX11_found cX11_found 2 (some .int) ∈ tb := tb_at (i := 979) (by decide +kernel) rfl
theorem cbX11_84 : CB RX11 84 mX11_found 1 := ⟨tb_at (i := 976) (by decide +kernel) rfl, cdX11_found, in_AshGreetingsModel, ⟨by decide, by decide, by decide +kernel⟩, by decide⟩
theorem cvX11_84 : CV RX11 84 11 mX11_found 1 := ⟨cbX11_84, tb_at (i := 978) (by decide +kernel) rfl, tb_at (i := 27) (by decide +kernel) rfl, _, _, cfX11⟩
theorem cdX11_rowAt : Cond.code yX11_rowAt cX11_rowAt 3 (some .int) ∈ tb := tb_at (i := 987) (by decide +kernel) rfl
theorem cbX11_88 : CB RX11 88 mX11_rowAt 2 := ⟨tb_at (i := 984) (by decide +kernel) rfl, cdX11_rowAt, in_AshGreetingsModel, ⟨by decide, by decide, by decide +kernel⟩, by decide⟩
theorem cvX11_88 : CV RX11 88 11 mX11_rowAt 2 := ⟨cbX11_88, tb_at (i := 986) (by decide +kernel) rfl, tb_at (i := 28) (by decide +kernel) rfl, _, _, cfX11⟩
theorem cdX11_tells : Cond.code yX11_tells cX11_tells 3 (some .int) ∈ tb := tb_at (i := 991) (by decide +kernel) rfl
theorem cbX11_92 : CB RX11 92 mX11_tells 2 := ⟨tb_at (i := 988) (by decide +kernel) rfl, cdX11_tells, in_AshGreetingsModel, ⟨by decide, by decide, by decide +kernel⟩, by decide⟩
theorem cvX11_92 : CV RX11 92 11 mX11_tells 2 := ⟨cbX11_92, tb_at (i := 990) (by decide +kernel) rfl, tb_at (i := 29) (by decide +kernel) rfl, _, _, cfX11⟩
theorem cdX11_isText : Cond.code yX11_isText cX11_isText 1 (some .boolean) ∈ tb := tb_at (i := 1014) (by decide +kernel) rfl
theorem cbX11_95 : CB RX11 95 mX11_isText 1 := ⟨tb_at (i := 1012) (by decide +kernel) rfl, cdX11_isText, in_AshGreetingsModel, ⟨by decide, by decide, by decide +kernel⟩, by decide⟩
theorem csX11_95 : CB RX11 95 mX11_isText 1 ∧ Cond.static yX11_isText ∈ tb := ⟨cbX11_95, tb_at (i := 1013) (by decide +kernel) rfl⟩
theorem cdX11_byteAt : Cond.code yX11_byteAt cX11_byteAt 2 (some .int) ∈ tb := tb_at (i := 1034) (by decide +kernel) rfl
theorem cbX11_101 : CB RX11 101 mX11_byteAt 1 := ⟨tb_at (i := 1031) (by decide +kernel) rfl, cdX11_byteAt, in_AshGreetingsModel, ⟨by decide, by decide, by decide +kernel⟩, by decide⟩
theorem cvX11_101 : CV RX11 101 11 mX11_byteAt 1 := ⟨cbX11_101, tb_at (i := 1033) (by decide +kernel) rfl, tb_at (i := 32) (by decide +kernel) rfl, _, _, cfX11⟩
theorem cdX11_figure : Cond.code yX11_figure cX11_figure 4 (some .int) ∈ tb := tb_at (i := 1042) (by decide +kernel) rfl
theorem cbX11_104 : CB RX11 104 mX11_figure 2 := ⟨tb_at (i := 1039) (by decide +kernel) rfl, cdX11_figure, in_AshGreetingsModel, ⟨by decide, by decide, by decide +kernel⟩, by decide⟩
theorem cvX11_104 : CV RX11 104 11 mX11_figure 2 := ⟨cbX11_104, tb_at (i := 1041) (by decide +kernel) rfl, tb_at (i := 34) (by decide +kernel) rfl, _, _, cfX11⟩
theorem cdX11_kindOf : Cond.code yX11_kindOf cX11_kindOf 1 (some .int) ∈ tb := tb_at (i := 1049) (by decide +kernel) rfl
theorem cbX11_107 : CB RX11 107 mX11_kindOf 1 := ⟨tb_at (i := 1047) (by decide +kernel) rfl, cdX11_kindOf, in_AshGreetingsModel, ⟨by decide, by decide, by decide +kernel⟩, by decide⟩
theorem csX11_107 : CB RX11 107 mX11_kindOf 1 ∧ Cond.static yX11_kindOf ∈ tb := ⟨cbX11_107, tb_at (i := 1048) (by decide +kernel) rfl⟩
theorem cdX11_blanks : Cond.code yX11_blanks cX11_blanks 2 none ∈ tb := tb_at (i := 1030) (by decide +kernel) rfl
theorem cbX11_113 : CB RX11 113 mX11_blanks 1 := ⟨tb_at (i := 1027) (by decide +kernel) rfl, cdX11_blanks, in_AshGreetingsModel, ⟨by decide, by decide, by decide +kernel⟩, by decide⟩
theorem cvX11_113 : CV RX11 113 11 mX11_blanks 1 := ⟨cbX11_113, tb_at (i := 1029) (by decide +kernel) rfl, tb_at (i := 31) (by decide +kernel) rfl, _, _, cfX11⟩
theorem cdX11_readsDeep : Cond.code yX11_readsDeep cX11_readsDeep 3 (some .boolean) ∈ tb := tb_at (i := 1038) (by decide +kernel) rfl
theorem cbX11_117 : CB RX11 117 mX11_readsDeep 1 := ⟨tb_at (i := 1035) (by decide +kernel) rfl, cdX11_readsDeep, in_AshGreetingsModel, ⟨by decide, by decide, by decide +kernel⟩, by decide⟩
theorem cvX11_117 : CV RX11 117 11 mX11_readsDeep 1 := ⟨cbX11_117, tb_at (i := 1037) (by decide +kernel) rfl, tb_at (i := 33) (by decide +kernel) rfl, _, _, cfX11⟩
theorem cdX11_readsOne : Cond.code yX11_readsOne cX11_readsOne 5 (some .boolean) ∈ tb := tb_at (i := 1046) (by decide +kernel) rfl
theorem cbX11_120 : CB RX11 120 mX11_readsOne 1 := ⟨tb_at (i := 1043) (by decide +kernel) rfl, cdX11_readsOne, in_AshGreetingsModel, ⟨by decide, by decide, by decide +kernel⟩, by decide⟩
theorem cvX11_120 : CV RX11 120 11 mX11_readsOne 1 := ⟨cbX11_120, tb_at (i := 1045) (by decide +kernel) rfl, tb_at (i := 35) (by decide +kernel) rfl, _, _, cfX11⟩
theorem cdX11_faultOf : Cond.code yX11_faultOf cX11_faultOf 2 (some .int) ∈ tb := tb_at (i := 1026) (by decide +kernel) rfl
theorem cbX11_123 : CB RX11 123 mX11_faultOf 1 := ⟨tb_at (i := 1023) (by decide +kernel) rfl, cdX11_faultOf, in_AshGreetingsModel, ⟨by decide, by decide, by decide +kernel⟩, by decide⟩
theorem cvX11_123 : CV RX11 123 11 mX11_faultOf 1 := ⟨cbX11_123, tb_at (i := 1025) (by decide +kernel) rfl, tb_at (i := 30) (by decide +kernel) rfl, _, _, cfX11⟩
theorem cdX11_seen : Cond.code yX11_seen cX11_seen 3 (some .int) ∈ tb := tb_at (i := 1073) (by decide +kernel) rfl
theorem cbX11_132 : CB RX11 132 mX11_seen 1 := ⟨tb_at (i := 1070) (by decide +kernel) rfl, cdX11_seen, in_AshGreetingsModel, ⟨by decide, by decide, by decide +kernel⟩, by decide⟩
theorem cvX11_132 : CV RX11 132 11 mX11_seen 1 := ⟨cbX11_132, tb_at (i := 1072) (by decide +kernel) rfl, tb_at (i := 39) (by decide +kernel) rfl, _, _, cfX11⟩
theorem cdX11_nextTo : Cond.code yX11_nextTo cX11_nextTo 8 (some .int) ∈ tb := tb_at (i := 1081) (by decide +kernel) rfl
theorem cbX11_135 : CB RX11 135 mX11_nextTo 2 := ⟨tb_at (i := 1078) (by decide +kernel) rfl, cdX11_nextTo, in_AshGreetingsModel, ⟨by decide, by decide, by decide +kernel⟩, by decide⟩
theorem cvX11_135 : CV RX11 135 11 mX11_nextTo 2 := ⟨cbX11_135, tb_at (i := 1080) (by decide +kernel) rfl, tb_at (i := 41) (by decide +kernel) rfl, _, _, cfX11⟩
theorem cdX11_isHid : Cond.code yX11_isHid cX11_isHid 3 (some .boolean) ∈ tb := tb_at (i := 1069) (by decide +kernel) rfl
theorem cbX11_139 : CB RX11 139 mX11_isHid 2 := ⟨tb_at (i := 1066) (by decide +kernel) rfl, cdX11_isHid, in_AshGreetingsModel, ⟨by decide, by decide, by decide +kernel⟩, by decide⟩
theorem cvX11_139 : CV RX11 139 11 mX11_isHid 2 := ⟨cbX11_139, tb_at (i := 1068) (by decide +kernel) rfl, tb_at (i := 38) (by decide +kernel) rfl, _, _, cfX11⟩
theorem cdX11_isOf : Cond.code yX11_isOf cX11_isOf 2 (some .boolean) ∈ tb := tb_at (i := 1099) (by decide +kernel) rfl
theorem cbX11_143 : CB RX11 143 mX11_isOf 2 := ⟨tb_at (i := 1097) (by decide +kernel) rfl, cdX11_isOf, in_AshGreetingsModel, ⟨by decide, by decide, by decide +kernel⟩, by decide⟩
theorem csX11_143 : CB RX11 143 mX11_isOf 2 ∧ Cond.static yX11_isOf ∈ tb := ⟨cbX11_143, tb_at (i := 1098) (by decide +kernel) rfl⟩
theorem cdX11_isMet : Cond.code yX11_isMet cX11_isMet 4 (some .boolean) ∈ tb := tb_at (i := 1077) (by decide +kernel) rfl
theorem cbX11_147 : CB RX11 147 mX11_isMet 2 := ⟨tb_at (i := 1074) (by decide +kernel) rfl, cdX11_isMet, in_AshGreetingsModel, ⟨by decide, by decide, by decide +kernel⟩, by decide⟩
theorem cvX11_147 : CV RX11 147 11 mX11_isMet 2 := ⟨cbX11_147, tb_at (i := 1076) (by decide +kernel) rfl, tb_at (i := 40) (by decide +kernel) rfl, _, _, cfX11⟩
theorem cdX11_isForgiven : Cond.code yX11_isForgiven cX11_isForgiven 3 (some .boolean) ∈ tb := tb_at (i := 1131) (by decide +kernel) rfl
theorem cbX11_150 : CB RX11 150 mX11_isForgiven 2 := ⟨tb_at (i := 1128) (by decide +kernel) rfl, cdX11_isForgiven, in_AshGreetingsModel, ⟨by decide, by decide, by decide +kernel⟩, by decide⟩
theorem cvX11_150 : CV RX11 150 11 mX11_isForgiven 2 := ⟨cbX11_150, tb_at (i := 1130) (by decide +kernel) rfl, tb_at (i := 46) (by decide +kernel) rfl, _, _, cfX11⟩
theorem cdX11_lessBy : Cond.code yX11_lessBy cX11_lessBy 2 (some .int) ∈ tb := tb_at (i := 1134) (by decide +kernel) rfl
theorem cbX11_153 : CB RX11 153 mX11_lessBy 2 := ⟨tb_at (i := 1132) (by decide +kernel) rfl, cdX11_lessBy, in_AshGreetingsModel, ⟨by decide, by decide, by decide +kernel⟩, by decide⟩
theorem csX11_153 : CB RX11 153 mX11_lessBy 2 ∧ Cond.static yX11_lessBy ∈ tb := ⟨cbX11_153, tb_at (i := 1133) (by decide +kernel) rfl⟩
theorem cdX11_grudgeThen : Cond.code yX11_grudgeThen cX11_grudgeThen 5 (some .int) ∈ tb := tb_at (i := 1127) (by decide +kernel) rfl
theorem cbX11_156 : CB RX11 156 mX11_grudgeThen 2 := ⟨tb_at (i := 1124) (by decide +kernel) rfl, cdX11_grudgeThen, in_AshGreetingsModel, ⟨by decide, by decide, by decide +kernel⟩, by decide⟩
theorem cvX11_156 : CV RX11 156 11 mX11_grudgeThen 2 := ⟨cbX11_156, tb_at (i := 1126) (by decide +kernel) rfl, tb_at (i := 45) (by decide +kernel) rfl, _, _, cfX11⟩
theorem cdX11_passes : Cond.code yX11_passes cX11_passes 3 none ∈ tb := tb_at (i := 1123) (by decide +kernel) rfl
theorem cbX11_159 : CB RX11 159 mX11_passes 1 := ⟨tb_at (i := 1120) (by decide +kernel) rfl, cdX11_passes, in_AshGreetingsModel, ⟨by decide, by decide, by decide +kernel⟩, by decide⟩
theorem cvX11_159 : CV RX11 159 11 mX11_passes 1 := ⟨cbX11_159, tb_at (i := 1122) (by decide +kernel) rfl, tb_at (i := 44) (by decide +kernel) rfl, _, _, cfX11⟩
theorem cdX11_all : Cond.code yX11_all cX11_all 4 (some .int) ∈ tb := tb_at (i := 1138) (by decide +kernel) rfl
theorem cbX11_163 : CB RX11 163 mX11_all 1 := ⟨tb_at (i := 1135) (by decide +kernel) rfl, cdX11_all, in_AshGreetingsModel, ⟨by decide, by decide, by decide +kernel⟩, by decide⟩
theorem cvX11_163 : CV RX11 163 11 mX11_all 1 := ⟨cbX11_163, tb_at (i := 1137) (by decide +kernel) rfl, tb_at (i := 47) (by decide +kernel) rfl, _, _, cfX11⟩
theorem cdX11_isOne : Cond.code yX11_isOne cX11_isOne 2 (some .boolean) ∈ tb := tb_at (i := 1061) (by decide +kernel) rfl
theorem cbX11_167 : CB RX11 167 mX11_isOne 1 := ⟨tb_at (i := 1058) (by decide +kernel) rfl, cdX11_isOne, in_AshGreetingsModel, ⟨by decide, by decide, by decide +kernel⟩, by decide⟩
theorem cvX11_167 : CV RX11 167 11 mX11_isOne 1 := ⟨cbX11_167, tb_at (i := 1060) (by decide +kernel) rfl, tb_at (i := 36) (by decide +kernel) rfl, _, _, cfX11⟩
theorem cdX11_personTells : Cond.code yX11_personTells cX11_personTells 3 (some .int) ∈ tb := tb_at (i := 1065) (by decide +kernel) rfl
theorem cbX11_170 : CB RX11 170 mX11_personTells 2 := ⟨tb_at (i := 1062) (by decide +kernel) rfl, cdX11_personTells, in_AshGreetingsModel, ⟨by decide, by decide, by decide +kernel⟩, by decide⟩
theorem cvX11_170 : CV RX11 170 11 mX11_personTells 2 := ⟨cbX11_170, tb_at (i := 1064) (by decide +kernel) rfl, tb_at (i := 37) (by decide +kernel) rfl, _, _, cfX11⟩
theorem cdX11_isStreet : Cond.code yX11_isStreet cX11_isStreet 1 (some .boolean) ∈ tb := tb_at (i := 1088) (by decide +kernel) rfl
theorem cbX11_173 : CB RX11 173 mX11_isStreet 1 := ⟨tb_at (i := 1086) (by decide +kernel) rfl, cdX11_isStreet, in_AshGreetingsModel, ⟨by decide, by decide, by decide +kernel⟩, by decide⟩
theorem csX11_173 : CB RX11 173 mX11_isStreet 1 ∧ Cond.static yX11_isStreet ∈ tb := ⟨cbX11_173, tb_at (i := 1087) (by decide +kernel) rfl⟩
theorem cdX11_inStreet : Cond.code yX11_inStreet cX11_inStreet 4 (some .int) ∈ tb := tb_at (i := 1092) (by decide +kernel) rfl
theorem cbX11_176 : CB RX11 176 mX11_inStreet 1 := ⟨tb_at (i := 1089) (by decide +kernel) rfl, cdX11_inStreet, in_AshGreetingsModel, ⟨by decide, by decide, by decide +kernel⟩, by decide⟩
theorem cvX11_176 : CV RX11 176 11 mX11_inStreet 1 := ⟨cbX11_176, tb_at (i := 1091) (by decide +kernel) rfl, tb_at (i := 42) (by decide +kernel) rfl, _, _, cfX11⟩
theorem cdX11_remember : Cond.code yX11_remember cX11_remember 2 none ∈ tb := tb_at (i := 1119) (by decide +kernel) rfl
theorem cbX11_179 : CB RX11 179 mX11_remember 0 := ⟨tb_at (i := 1116) (by decide +kernel) rfl, cdX11_remember, in_AshGreetingsModel, ⟨by decide, by decide, by decide +kernel⟩, by decide⟩
theorem cvX11_179 : CV RX11 179 11 mX11_remember 0 := ⟨cbX11_179, tb_at (i := 1118) (by decide +kernel) rfl, tb_at (i := 43) (by decide +kernel) rfl, _, _, cfX11⟩
theorem cdX11_deeper : Cond.code yX11_deeper cX11_deeper 2 (some .int) ∈ tb := tb_at (i := 1145) (by decide +kernel) rfl
theorem cbX11_182 : CB RX11 182 mX11_deeper 2 := ⟨tb_at (i := 1143) (by decide +kernel) rfl, cdX11_deeper, in_AshGreetingsModel, ⟨by decide, by decide, by decide +kernel⟩, by decide⟩
theorem csX11_182 : CB RX11 182 mX11_deeper 2 ∧ Cond.static yX11_deeper ∈ tb := ⟨cbX11_182, tb_at (i := 1144) (by decide +kernel) rfl⟩
theorem cdX11_becomes : Cond.code yX11_becomes cX11_becomes 4 (some .int) ∈ tb := tb_at (i := 1149) (by decide +kernel) rfl
theorem cbX11_185 : CB RX11 185 mX11_becomes 3 := ⟨tb_at (i := 1146) (by decide +kernel) rfl, cdX11_becomes, in_AshGreetingsModel, ⟨by decide, by decide, by decide +kernel⟩, by decide⟩
theorem cvX11_185 : CV RX11 185 11 mX11_becomes 3 := ⟨cbX11_185, tb_at (i := 1148) (by decide +kernel) rfl, tb_at (i := 48) (by decide +kernel) rfl, _, _, cfX11⟩
theorem cdX11_copyNow : Cond.code yX11_copyNow cX11_copyNow 2 none ∈ tb := tb_at (i := 1169) (by decide +kernel) rfl
theorem cbX11_189 : CB RX11 189 mX11_copyNow 0 := ⟨tb_at (i := 1166) (by decide +kernel) rfl, cdX11_copyNow, in_AshGreetingsModel, ⟨by decide, by decide, by decide +kernel⟩, by decide⟩
theorem cvX11_189 : CV RX11 189 11 mX11_copyNow 0 := ⟨cbX11_189, tb_at (i := 1168) (by decide +kernel) rfl, tb_at (i := 49) (by decide +kernel) rfl, _, _, cfX11⟩
theorem cdX11_allBehind : Cond.code yX11_allBehind cX11_allBehind 3 (some .int) ∈ tb := tb_at (i := 1173) (by decide +kernel) rfl
theorem cbX11_192 : CB RX11 192 mX11_allBehind 1 := ⟨tb_at (i := 1170) (by decide +kernel) rfl, cdX11_allBehind, in_AshGreetingsModel, ⟨by decide, by decide, by decide +kernel⟩, by decide⟩
theorem cvX11_192 : CV RX11 192 11 mX11_allBehind 1 := ⟨cbX11_192, tb_at (i := 1172) (by decide +kernel) rfl, tb_at (i := 50) (by decide +kernel) rfl, _, _, cfX11⟩
theorem cdX11_need : Cond.code yX11_need cX11_need 2 (some .int) ∈ tb := tb_at (i := 1185) (by decide +kernel) rfl
theorem cbX11_195 : CB RX11 195 mX11_need 1 := ⟨tb_at (i := 1182) (by decide +kernel) rfl, cdX11_need, in_AshGreetingsModel, ⟨by decide, by decide, by decide +kernel⟩, by decide⟩
theorem cvX11_195 : CV RX11 195 11 mX11_need 1 := ⟨cbX11_195, tb_at (i := 1184) (by decide +kernel) rfl, tb_at (i := 51) (by decide +kernel) rfl, _, _, cfX11⟩
theorem cdX11_calm : Cond.code yX11_calm cX11_calm 4 (some .int) ∈ tb := tb_at (i := 1189) (by decide +kernel) rfl
theorem cbX11_199 : CB RX11 199 mX11_calm 1 := ⟨tb_at (i := 1186) (by decide +kernel) rfl, cdX11_calm, in_AshGreetingsModel, ⟨by decide, by decide, by decide +kernel⟩, by decide⟩
theorem cvX11_199 : CV RX11 199 11 mX11_calm 1 := ⟨cbX11_199, tb_at (i := 1188) (by decide +kernel) rfl, tb_at (i := 52) (by decide +kernel) rfl, _, _, cfX11⟩
theorem cdX11_bits : Cond.code yX11_bits cX11_bits 3 (some .int) ∈ tb := tb_at (i := 1192) (by decide +kernel) rfl
theorem cbX11_202 : CB RX11 202 mX11_bits 1 := ⟨tb_at (i := 1190) (by decide +kernel) rfl, cdX11_bits, in_AshGreetingsModel, ⟨by decide, by decide, by decide +kernel⟩, by decide⟩
theorem csX11_202 : CB RX11 202 mX11_bits 1 ∧ Cond.static yX11_bits ∈ tb := ⟨cbX11_202, tb_at (i := 1191) (by decide +kernel) rfl⟩
theorem cdX11_isSo : Cond.code yX11_isSo cX11_isSo 4 (some .boolean) ∈ tb := tb_at (i := 1217) (by decide +kernel) rfl
theorem cbX11_206 : CB RX11 206 mX11_isSo 1 := ⟨tb_at (i := 1214) (by decide +kernel) rfl, cdX11_isSo, in_AshGreetingsModel, ⟨by decide, by decide, by decide +kernel⟩, by decide⟩
theorem cvX11_206 : CV RX11 206 11 mX11_isSo 1 := ⟨cbX11_206, tb_at (i := 1216) (by decide +kernel) rfl, tb_at (i := 55) (by decide +kernel) rfl, _, _, cfX11⟩
theorem cdX11_needTotals : Cond.code yX11_needTotals cX11_needTotals 5 (some .int) ∈ tb := tb_at (i := 1209) (by decide +kernel) rfl
theorem cbX11_209 : CB RX11 209 mX11_needTotals 2 := ⟨tb_at (i := 1206) (by decide +kernel) rfl, cdX11_needTotals, in_AshGreetingsModel, ⟨by decide, by decide, by decide +kernel⟩, by decide⟩
theorem cvX11_209 : CV RX11 209 11 mX11_needTotals 2 := ⟨cbX11_209, tb_at (i := 1208) (by decide +kernel) rfl, tb_at (i := 53) (by decide +kernel) rfl, _, _, cfX11⟩
theorem cdX11_kindsBy : Cond.code yX11_kindsBy cX11_kindsBy 6 (some .int) ∈ tb := tb_at (i := 1213) (by decide +kernel) rfl
theorem cbX11_212 : CB RX11 212 mX11_kindsBy 2 := ⟨tb_at (i := 1210) (by decide +kernel) rfl, cdX11_kindsBy, in_AshGreetingsModel, ⟨by decide, by decide, by decide +kernel⟩, by decide⟩
theorem cvX11_212 : CV RX11 212 11 mX11_kindsBy 2 := ⟨cbX11_212, tb_at (i := 1212) (by decide +kernel) rfl, tb_at (i := 54) (by decide +kernel) rfl, _, _, cfX11⟩
theorem cdX11_has : Cond.code yX11_has cX11_has 2 (some .boolean) ∈ tb := tb_at (i := 1228) (by decide +kernel) rfl
theorem cbX11_215 : CB RX11 215 mX11_has 2 := ⟨tb_at (i := 1226) (by decide +kernel) rfl, cdX11_has, in_AshGreetingsModel, ⟨by decide, by decide, by decide +kernel⟩, by decide⟩
theorem csX11_215 : CB RX11 215 mX11_has 2 ∧ Cond.static yX11_has ∈ tb := ⟨cbX11_215, tb_at (i := 1227) (by decide +kernel) rfl⟩
theorem cdX11_allAs : Cond.code yX11_allAs cX11_allAs 6 (some .int) ∈ tb := tb_at (i := 1232) (by decide +kernel) rfl
theorem cbX11_218 : CB RX11 218 mX11_allAs 3 := ⟨tb_at (i := 1229) (by decide +kernel) rfl, cdX11_allAs, in_AshGreetingsModel, ⟨by decide, by decide, by decide +kernel⟩, by decide⟩
theorem cvX11_218 : CV RX11 218 11 mX11_allAs 3 := ⟨cbX11_218, tb_at (i := 1231) (by decide +kernel) rfl, tb_at (i := 56) (by decide +kernel) rfl, _, _, cfX11⟩
theorem cdX11_moves : Cond.code yX11_moves cX11_moves 3 none ∈ tb := tb_at (i := 1244) (by decide +kernel) rfl
theorem cbX11_221 : CB RX11 221 mX11_moves 2 := ⟨tb_at (i := 1241) (by decide +kernel) rfl, cdX11_moves, in_AshGreetingsModel, ⟨by decide, by decide, by decide +kernel⟩, by decide⟩
theorem cvX11_221 : CV RX11 221 11 mX11_moves 2 := ⟨cbX11_221, tb_at (i := 1243) (by decide +kernel) rfl, tb_at (i := 58) (by decide +kernel) rfl, _, _, cfX11⟩
theorem cdX11_behindTurns : Cond.code yX11_behindTurns cX11_behindTurns 5 (some .int) ∈ tb := tb_at (i := 1240) (by decide +kernel) rfl
theorem cbX11_225 : CB RX11 225 mX11_behindTurns 2 := ⟨tb_at (i := 1237) (by decide +kernel) rfl, cdX11_behindTurns, in_AshGreetingsModel, ⟨by decide, by decide, by decide +kernel⟩, by decide⟩
theorem cvX11_225 : CV RX11 225 11 mX11_behindTurns 2 := ⟨cbX11_225, tb_at (i := 1239) (by decide +kernel) rfl, tb_at (i := 57) (by decide +kernel) rfl, _, _, cfX11⟩
theorem cdX11_layWinds : Cond.code yX11_layWinds cX11_layWinds 8 none ∈ tb := tb_at (i := 1252) (by decide +kernel) rfl
theorem cbX11_239 : CB RX11 239 mX11_layWinds 3 := ⟨tb_at (i := 1249) (by decide +kernel) rfl, cdX11_layWinds, in_AshGreetingsModel, ⟨by decide, by decide, by decide +kernel⟩, by decide⟩
theorem cvX11_239 : CV RX11 239 11 mX11_layWinds 3 := ⟨cbX11_239, tb_at (i := 1251) (by decide +kernel) rfl, tb_at (i := 59) (by decide +kernel) rfl, _, _, cfX11⟩
theorem cdX11_lowest : Cond.code yX11_lowest cX11_lowest 12 (some .int) ∈ tb := tb_at (i := 1257) (by decide +kernel) rfl
theorem cbX11_243 : CB RX11 243 mX11_lowest 3 := ⟨tb_at (i := 1254) (by decide +kernel) rfl, cdX11_lowest, in_AshGreetingsModel, ⟨by decide, by decide, by decide +kernel⟩, by decide⟩
theorem cvX11_243 : CV RX11 243 11 mX11_lowest 3 := ⟨cbX11_243, tb_at (i := 1256) (by decide +kernel) rfl, tb_at (i := 60) (by decide +kernel) rfl, _, _, cfX11⟩
theorem cdX11_counted : Cond.code yX11_counted cX11_counted 4 (some .int) ∈ tb := tb_at (i := 1279) (by decide +kernel) rfl
theorem cbX11_258 : CB RX11 258 mX11_counted 1 := ⟨tb_at (i := 1276) (by decide +kernel) rfl, cdX11_counted, in_AshGreetingsModel, ⟨by decide, by decide, by decide +kernel⟩, by decide⟩
theorem cvX11_258 : CV RX11 258 11 mX11_counted 1 := ⟨cbX11_258, tb_at (i := 1278) (by decide +kernel) rfl, tb_at (i := 61) (by decide +kernel) rfl, _, _, cfX11⟩
theorem cdX11_adds : Cond.code yX11_adds cX11_adds 3 none ∈ tb := tb_at (i := 1288) (by decide +kernel) rfl
theorem cbX11_268 : CB RX11 268 mX11_adds 1 := ⟨tb_at (i := 1285) (by decide +kernel) rfl, cdX11_adds, in_AshGreetingsModel, ⟨by decide, by decide, by decide +kernel⟩, by decide⟩
theorem cvX11_268 : CV RX11 268 11 mX11_adds 1 := ⟨cbX11_268, tb_at (i := 1287) (by decide +kernel) rfl, tb_at (i := 62) (by decide +kernel) rfl, _, _, cfX11⟩
theorem cuX2_9_2 : CU RX2 9 2 yX2_forgiveness mX2_forgiveness 1 := ⟨tb_at (i := 570) (by decide +kernel) rfl, tb_at (i := 512) (by decide +kernel) rfl, tb_at (i := 511) (by decide +kernel) rfl, tb_at (i := 510) (by decide +kernel) rfl, in_AshGreetings_Neighbour, cdX2_forgiveness, ⟨by decide, by decide, by decide +kernel⟩, by decide, Or.inl rfl, _, _, cfX2⟩
theorem cuX2_9_1 : CU RX2 9 1 yX2_forgiveness mX1_forgiveness 1 := ⟨tb_at (i := 570) (by decide +kernel) rfl, tb_at (i := 512) (by decide +kernel) rfl, tb_at (i := 516) (by decide +kernel) rfl, tb_at (i := 517) (by decide +kernel) rfl, in_AshGreetings_Devout, cdX1_forgiveness, ⟨by decide, by decide, by decide +kernel⟩, by decide, Or.inr ⟨tb_at (i := 510) (by decide +kernel) rfl, _, _, _, cdX2_forgiveness⟩, _, _, cfX1⟩
theorem cuX2_9_8 : CU RX2 9 8 yX2_forgiveness mX8_forgiveness 1 := ⟨tb_at (i := 570) (by decide +kernel) rfl, tb_at (i := 512) (by decide +kernel) rfl, tb_at (i := 521) (by decide +kernel) rfl, tb_at (i := 514) (by decide +kernel) rfl, in_AshGreetings_Stubborn, cdX8_forgiveness, ⟨by decide, by decide, by decide +kernel⟩, by decide, Or.inr ⟨tb_at (i := 510) (by decide +kernel) rfl, _, _, _, cdX2_forgiveness⟩, _, _, cfX8⟩
theorem cuX2_9_6 : CU RX2 9 6 yX2_forgiveness mX2_forgiveness 1 := ⟨tb_at (i := 570) (by decide +kernel) rfl, tb_at (i := 512) (by decide +kernel) rfl, tb_at (i := 520) (by decide +kernel) rfl, tb_at (i := 510) (by decide +kernel) rfl, in_AshGreetings_Neighbour, cdX2_forgiveness, ⟨by decide, by decide, by decide +kernel⟩, by decide, Or.inl rfl, _, _, cfX6⟩
theorem cuX2_9_4 : CU RX2 9 4 yX2_forgiveness mX1_forgiveness 1 := ⟨tb_at (i := 570) (by decide +kernel) rfl, tb_at (i := 512) (by decide +kernel) rfl, tb_at (i := 519) (by decide +kernel) rfl, tb_at (i := 517) (by decide +kernel) rfl, in_AshGreetings_Devout, cdX1_forgiveness, ⟨by decide, by decide, by decide +kernel⟩, by decide, Or.inr ⟨tb_at (i := 510) (by decide +kernel) rfl, _, _, _, cdX2_forgiveness⟩, _, _, cfX4⟩
theorem cuX2_9_0 : CU RX2 9 0 yX2_forgiveness mX8_forgiveness 1 := ⟨tb_at (i := 570) (by decide +kernel) rfl, tb_at (i := 512) (by decide +kernel) rfl, tb_at (i := 513) (by decide +kernel) rfl, tb_at (i := 514) (by decide +kernel) rfl, in_AshGreetings_Stubborn, cdX8_forgiveness, ⟨by decide, by decide, by decide +kernel⟩, by decide, Or.inr ⟨tb_at (i := 510) (by decide +kernel) rfl, _, _, _, cdX2_forgiveness⟩, _, _, cfX0⟩
theorem cdX2_anger : Cond.code yX2_anger cX2_anger 1 (some .int) ∈ tb := tb_at (i := 583) (by decide +kernel) rfl
theorem cuX2_21_2 : CU RX2 21 2 yX2_anger mX2_anger 0 := ⟨tb_at (i := 572) (by decide +kernel) rfl, tb_at (i := 575) (by decide +kernel) rfl, tb_at (i := 574) (by decide +kernel) rfl, tb_at (i := 573) (by decide +kernel) rfl, in_AshGreetings_Neighbour, cdX2_anger, ⟨by decide, by decide, by decide +kernel⟩, by decide, Or.inl rfl, _, _, cfX2⟩
theorem cuX2_21_1 : CU RX2 21 1 yX2_anger mX2_anger 0 := ⟨tb_at (i := 572) (by decide +kernel) rfl, tb_at (i := 575) (by decide +kernel) rfl, tb_at (i := 579) (by decide +kernel) rfl, tb_at (i := 573) (by decide +kernel) rfl, in_AshGreetings_Neighbour, cdX2_anger, ⟨by decide, by decide, by decide +kernel⟩, by decide, Or.inl rfl, _, _, cfX1⟩
theorem cuX2_21_8 : CU RX2 21 8 yX2_anger mX2_anger 0 := ⟨tb_at (i := 572) (by decide +kernel) rfl, tb_at (i := 575) (by decide +kernel) rfl, tb_at (i := 582) (by decide +kernel) rfl, tb_at (i := 573) (by decide +kernel) rfl, in_AshGreetings_Neighbour, cdX2_anger, ⟨by decide, by decide, by decide +kernel⟩, by decide, Or.inl rfl, _, _, cfX8⟩
theorem cuX2_21_6 : CU RX2 21 6 yX2_anger mX2_anger 0 := ⟨tb_at (i := 572) (by decide +kernel) rfl, tb_at (i := 575) (by decide +kernel) rfl, tb_at (i := 581) (by decide +kernel) rfl, tb_at (i := 573) (by decide +kernel) rfl, in_AshGreetings_Neighbour, cdX2_anger, ⟨by decide, by decide, by decide +kernel⟩, by decide, Or.inl rfl, _, _, cfX6⟩
theorem cuX2_21_4 : CU RX2 21 4 yX2_anger mX2_anger 0 := ⟨tb_at (i := 572) (by decide +kernel) rfl, tb_at (i := 575) (by decide +kernel) rfl, tb_at (i := 580) (by decide +kernel) rfl, tb_at (i := 573) (by decide +kernel) rfl, in_AshGreetings_Neighbour, cdX2_anger, ⟨by decide, by decide, by decide +kernel⟩, by decide, Or.inl rfl, _, _, cfX4⟩
theorem cdX0_anger : Cond.code yX0_anger cX0_anger 1 (some .int) ∈ tb := tb_at (i := 578) (by decide +kernel) rfl
theorem in_AshGreetings_Brother : Cond.initialized "AshGreetings$Brother" ∈ tb := tb_at (i := 72) (by decide +kernel) rfl
theorem cuX2_21_0 : CU RX2 21 0 yX2_anger mX0_anger 0 := ⟨tb_at (i := 572) (by decide +kernel) rfl, tb_at (i := 575) (by decide +kernel) rfl, tb_at (i := 576) (by decide +kernel) rfl, tb_at (i := 577) (by decide +kernel) rfl, in_AshGreetings_Brother, cdX0_anger, ⟨by decide, by decide, by decide +kernel⟩, by decide, Or.inr ⟨tb_at (i := 573) (by decide +kernel) rfl, _, _, _, cdX2_anger⟩, _, _, cfX0⟩
theorem cbX3_11 : CB RX3 11 mX9_init 0 := ⟨tb_at (i := 224) (by decide +kernel) rfl, cdX9_init, in_AshGreetings_Town, ⟨by decide, by decide, by decide +kernel⟩, by decide⟩
theorem ciX3_11 : CB RX3 11 mX9_init 0 ∧ yX9_init.name = "<init>" ∧ Cond.instanceMethod yX9_init ∈ tb := ⟨cbX3_11, rfl, tb_at (i := 107) (by decide +kernel) rfl⟩
theorem cdX9_becomeAside : Cond.code yX9_becomeAside cX9_becomeAside 2 none ∈ tb := tb_at (i := 624) (by decide +kernel) rfl
theorem cbX3_50 : CB RX3 50 mX9_becomeAside 1 := ⟨tb_at (i := 642) (by decide +kernel) rfl, cdX9_becomeAside, in_AshGreetings_Town, ⟨by decide, by decide, by decide +kernel⟩, by decide⟩
theorem cvX3_50 : CV RX3 50 9 mX9_becomeAside 1 := ⟨cbX3_50, tb_at (i := 622) (by decide +kernel) rfl, tb_at (i := 623) (by decide +kernel) rfl, _, _, cfX9⟩
theorem cbX3_58 : CB RX3 58 mX9_moodOf 1 := ⟨tb_at (i := 651) (by decide +kernel) rfl, cdX9_moodOf, in_AshGreetings_Town, ⟨by decide, by decide, by decide +kernel⟩, by decide⟩
theorem cvX3_58 : CV RX3 58 9 mX9_moodOf 1 := ⟨cbX3_58, tb_at (i := 545) (by decide +kernel) rfl, tb_at (i := 546) (by decide +kernel) rfl, _, _, cfX9⟩
theorem cbX3_63 : CB RX3 63 mX9_sortOf 1 := ⟨tb_at (i := 656) (by decide +kernel) rfl, cdX9_sortOf, in_AshGreetings_Town, ⟨by decide, by decide, by decide +kernel⟩, by decide⟩
theorem cvX3_63 : CV RX3 63 9 mX9_sortOf 1 := ⟨cbX3_63, tb_at (i := 460) (by decide +kernel) rfl, tb_at (i := 461) (by decide +kernel) rfl, _, _, cfX9⟩
theorem cdX2_grudgeBehind : Cond.code yX2_grudgeBehind cX2_grudgeBehind 4 (some .int) ∈ tb := tb_at (i := 569) (by decide +kernel) rfl
theorem cuX3_67_2 : CU RX3 67 2 yX2_grudgeBehind mX2_grudgeBehind 3 := ⟨tb_at (i := 657) (by decide +kernel) rfl, tb_at (i := 563) (by decide +kernel) rfl, tb_at (i := 562) (by decide +kernel) rfl, tb_at (i := 561) (by decide +kernel) rfl, in_AshGreetings_Neighbour, cdX2_grudgeBehind, ⟨by decide, by decide, by decide +kernel⟩, by decide, Or.inl rfl, _, _, cfX2⟩
theorem cuX3_67_1 : CU RX3 67 1 yX2_grudgeBehind mX2_grudgeBehind 3 := ⟨tb_at (i := 657) (by decide +kernel) rfl, tb_at (i := 563) (by decide +kernel) rfl, tb_at (i := 565) (by decide +kernel) rfl, tb_at (i := 561) (by decide +kernel) rfl, in_AshGreetings_Neighbour, cdX2_grudgeBehind, ⟨by decide, by decide, by decide +kernel⟩, by decide, Or.inl rfl, _, _, cfX1⟩
theorem cuX3_67_8 : CU RX3 67 8 yX2_grudgeBehind mX2_grudgeBehind 3 := ⟨tb_at (i := 657) (by decide +kernel) rfl, tb_at (i := 563) (by decide +kernel) rfl, tb_at (i := 568) (by decide +kernel) rfl, tb_at (i := 561) (by decide +kernel) rfl, in_AshGreetings_Neighbour, cdX2_grudgeBehind, ⟨by decide, by decide, by decide +kernel⟩, by decide, Or.inl rfl, _, _, cfX8⟩
theorem cuX3_67_6 : CU RX3 67 6 yX2_grudgeBehind mX2_grudgeBehind 3 := ⟨tb_at (i := 657) (by decide +kernel) rfl, tb_at (i := 563) (by decide +kernel) rfl, tb_at (i := 567) (by decide +kernel) rfl, tb_at (i := 561) (by decide +kernel) rfl, in_AshGreetings_Neighbour, cdX2_grudgeBehind, ⟨by decide, by decide, by decide +kernel⟩, by decide, Or.inl rfl, _, _, cfX6⟩
theorem cuX3_67_4 : CU RX3 67 4 yX2_grudgeBehind mX2_grudgeBehind 3 := ⟨tb_at (i := 657) (by decide +kernel) rfl, tb_at (i := 563) (by decide +kernel) rfl, tb_at (i := 566) (by decide +kernel) rfl, tb_at (i := 561) (by decide +kernel) rfl, in_AshGreetings_Neighbour, cdX2_grudgeBehind, ⟨by decide, by decide, by decide +kernel⟩, by decide, Or.inl rfl, _, _, cfX4⟩
theorem cuX3_67_0 : CU RX3 67 0 yX2_grudgeBehind mX2_grudgeBehind 3 := ⟨tb_at (i := 657) (by decide +kernel) rfl, tb_at (i := 563) (by decide +kernel) rfl, tb_at (i := 564) (by decide +kernel) rfl, tb_at (i := 561) (by decide +kernel) rfl, in_AshGreetings_Neighbour, cdX2_grudgeBehind, ⟨by decide, by decide, by decide +kernel⟩, by decide, Or.inl rfl, _, _, cfX0⟩
theorem cdX3_startFromNow : Cond.code yX3_startFromNow cX3_startFromNow 2 none ∈ tb := tb_at (i := 650) (by decide +kernel) rfl
theorem cbX3_73 : CB RX3 73 mX3_startFromNow 0 := ⟨tb_at (i := 647) (by decide +kernel) rfl, cdX3_startFromNow, in_AshGreetings_Outlook, ⟨by decide, by decide, by decide +kernel⟩, by decide⟩
theorem cvX3_73 : CV RX3 73 3 mX3_startFromNow 0 := ⟨cbX3_73, tb_at (i := 649) (by decide +kernel) rfl, tb_at (i := 13) (by decide +kernel) rfl, _, _, cfX3⟩
theorem cdX3_foreseeDay : Cond.code yX3_foreseeDay cX3_foreseeDay 2 none ∈ tb := tb_at (i := 655) (by decide +kernel) rfl
theorem cbX3_76 : CB RX3 76 mX3_foreseeDay 0 := ⟨tb_at (i := 652) (by decide +kernel) rfl, cdX3_foreseeDay, in_AshGreetings_Outlook, ⟨by decide, by decide, by decide +kernel⟩, by decide⟩
theorem cvX3_76 : CV RX3 76 3 mX3_foreseeDay 0 := ⟨cbX3_76, tb_at (i := 654) (by decide +kernel) rfl, tb_at (i := 14) (by decide +kernel) rfl, _, _, cfX3⟩
theorem cdX3_total : Cond.code yX3_total cX3_total 3 (some .int) ∈ tb := tb_at (i := 661) (by decide +kernel) rfl
theorem cbX3_79 : CB RX3 79 mX3_total 0 := ⟨tb_at (i := 658) (by decide +kernel) rfl, cdX3_total, in_AshGreetings_Outlook, ⟨by decide, by decide, by decide +kernel⟩, by decide⟩
theorem cvX3_79 : CV RX3 79 3 mX3_total 0 := ⟨cbX3_79, tb_at (i := 660) (by decide +kernel) rfl, tb_at (i := 15) (by decide +kernel) rfl, _, _, cfX3⟩
theorem cdJ7_fill_53178 : Cond.code yJ7_fill_53178 cJ7_fill_53178 4 none ∈ tb := tb_at (i := 339) (by decide +kernel) rfl
theorem in_java_util_Arrays : Cond.initialized "java/util/Arrays" ∈ tb := tb_at (i := 77) (by decide +kernel) rfl
theorem cbX3_92 : CB RX3 92 mJ7_fill_53178 2 := ⟨tb_at (i := 691) (by decide +kernel) rfl, cdJ7_fill_53178, in_java_util_Arrays, ⟨by decide, by decide, by decide +kernel⟩, by decide⟩
theorem csX3_92 : CB RX3 92 mJ7_fill_53178 2 ∧ Cond.static yJ7_fill_53178 ∈ tb := ⟨cbX3_92, tb_at (i := 338) (by decide +kernel) rfl⟩
theorem cbX3_98 : CB RX3 98 mX3_totalBehind 1 := ⟨tb_at (i := 692) (by decide +kernel) rfl, cdX3_totalBehind, in_AshGreetings_Outlook, ⟨by decide, by decide, by decide +kernel⟩, by decide⟩
theorem cvX3_98 : CV RX3 98 3 mX3_totalBehind 1 := ⟨cbX3_98, tb_at (i := 644) (by decide +kernel) rfl, tb_at (i := 645) (by decide +kernel) rfl, _, _, cfX3⟩
theorem cdX3_fits : Cond.code yX3_fits cX3_fits 3 (some .boolean) ∈ tb := tb_at (i := 716) (by decide +kernel) rfl
theorem cbX3_107 : CB RX3 107 mX3_fits 1 := ⟨tb_at (i := 713) (by decide +kernel) rfl, cdX3_fits, in_AshGreetings_Outlook, ⟨by decide, by decide, by decide +kernel⟩, by decide⟩
theorem cvX3_107 : CV RX3 107 3 mX3_fits 1 := ⟨cbX3_107, tb_at (i := 715) (by decide +kernel) rfl, tb_at (i := 18) (by decide +kernel) rfl, _, _, cfX3⟩
theorem cbX3_122 : CB RX3 122 mX3_kindsThatFit 2 := ⟨tb_at (i := 733) (by decide +kernel) rfl, cdX3_kindsThatFit, in_AshGreetings_Outlook, ⟨by decide, by decide, by decide +kernel⟩, by decide⟩
theorem cvX3_122 : CV RX3 122 3 mX3_kindsThatFit 2 := ⟨cbX3_122, tb_at (i := 710) (by decide +kernel) rfl, tb_at (i := 711) (by decide +kernel) rfl, _, _, cfX3⟩
theorem cdX3_foretellEach : Cond.code yX3_foretellEach cX3_foretellEach 4 none ∈ tb := tb_at (i := 737) (by decide +kernel) rfl
theorem cbX3_126 : CB RX3 126 mX3_foretellEach 1 := ⟨tb_at (i := 734) (by decide +kernel) rfl, cdX3_foretellEach, in_AshGreetings_Outlook, ⟨by decide, by decide, by decide +kernel⟩, by decide⟩
theorem cvX3_126 : CV RX3 126 3 mX3_foretellEach 1 := ⟨cbX3_126, tb_at (i := 736) (by decide +kernel) rfl, tb_at (i := 19) (by decide +kernel) rfl, _, _, cfX3⟩
theorem cdX3_greatestPart : Cond.code yX3_greatestPart cX3_greatestPart 8 (some .int) ∈ tb := tb_at (i := 741) (by decide +kernel) rfl
theorem cbX3_130 : CB RX3 130 mX3_greatestPart 2 := ⟨tb_at (i := 738) (by decide +kernel) rfl, cdX3_greatestPart, in_AshGreetings_Outlook, ⟨by decide, by decide, by decide +kernel⟩, by decide⟩
theorem cvX3_130 : CV RX3 130 3 mX3_greatestPart 2 := ⟨cbX3_130, tb_at (i := 740) (by decide +kernel) rfl, tb_at (i := 20) (by decide +kernel) rfl, _, _, cfX3⟩
theorem cdX3_outcome : Cond.code yX3_outcome cX3_outcome 9 (some .int) ∈ tb := tb_at (i := 753) (by decide +kernel) rfl
theorem cbX3_133 : CB RX3 133 mX3_outcome 2 := ⟨tb_at (i := 750) (by decide +kernel) rfl, cdX3_outcome, in_AshGreetings_Outlook, ⟨by decide, by decide, by decide +kernel⟩, by decide⟩
theorem cvX3_133 : CV RX3 133 3 mX3_outcome 2 := ⟨cbX3_133, tb_at (i := 752) (by decide +kernel) rfl, tb_at (i := 21) (by decide +kernel) rfl, _, _, cfX3⟩
theorem cdX1_init : Cond.code yX1_init cX1_init 1 none ∈ tb := tb_at (i := 122) (by decide +kernel) rfl
theorem cbX4_1 : CB RX4 1 mX1_init 0 := ⟨tb_at (i := 144) (by decide +kernel) rfl, cdX1_init, in_AshGreetings_Devout, ⟨by decide, by decide, by decide +kernel⟩, by decide⟩
theorem ciX4_1 : CB RX4 1 mX1_init 0 ∧ yX1_init.name = "<init>" ∧ Cond.instanceMethod yX1_init ∈ tb := ⟨cbX4_1, rfl, tb_at (i := 121) (by decide +kernel) rfl⟩
theorem cdX5_valueOf : Cond.code yX5_valueOf cX5_valueOf 3 (some .int) ∈ tb := tb_at (i := 410) (by decide +kernel) rfl
theorem cbX5_27 : CB RX5 27 mX5_valueOf 1 := ⟨tb_at (i := 407) (by decide +kernel) rfl, cdX5_valueOf, in_AshGreetings_Reading, ⟨by decide, by decide, by decide +kernel⟩, by decide⟩
theorem cvX5_27 : CV RX5 27 5 mX5_valueOf 1 := ⟨cbX5_27, tb_at (i := 409) (by decide +kernel) rfl, tb_at (i := 4) (by decide +kernel) rfl, _, _, cfX5⟩
theorem cdX5_howManyPeople : Cond.code yX5_howManyPeople cX5_howManyPeople 1 (some .int) ∈ tb := tb_at (i := 422) (by decide +kernel) rfl
theorem cbX5_31 : CB RX5 31 mX5_howManyPeople 0 := ⟨tb_at (i := 419) (by decide +kernel) rfl, cdX5_howManyPeople, in_AshGreetings_Reading, ⟨by decide, by decide, by decide +kernel⟩, by decide⟩
theorem cvX5_31 : CV RX5 31 5 mX5_howManyPeople 0 := ⟨cbX5_31, tb_at (i := 420) (by decide +kernel) rfl, tb_at (i := 421) (by decide +kernel) rfl, _, _, cfX5⟩
theorem cdX5_figure : Cond.code yX5_figure cX5_figure 3 (some .int) ∈ tb := tb_at (i := 413) (by decide +kernel) rfl
theorem cbX5_35 : CB RX5 35 mX5_figure 2 := ⟨tb_at (i := 411) (by decide +kernel) rfl, cdX5_figure, in_AshGreetings_Reading, ⟨by decide, by decide, by decide +kernel⟩, by decide⟩
theorem csX5_35 : CB RX5 35 mX5_figure 2 ∧ Cond.static yX5_figure ∈ tb := ⟨cbX5_35, tb_at (i := 412) (by decide +kernel) rfl⟩
theorem cdX5_kindOf : Cond.code yX5_kindOf cX5_kindOf 2 (some .int) ∈ tb := tb_at (i := 416) (by decide +kernel) rfl
theorem cbX5_39 : CB RX5 39 mX5_kindOf 1 := ⟨tb_at (i := 414) (by decide +kernel) rfl, cdX5_kindOf, in_AshGreetings_Reading, ⟨by decide, by decide, by decide +kernel⟩, by decide⟩
theorem csX5_39 : CB RX5 39 mX5_kindOf 1 ∧ Cond.static yX5_kindOf ∈ tb := ⟨cbX5_39, tb_at (i := 415) (by decide +kernel) rfl⟩
theorem cbX6_1 : CB RX6 1 mX2_init 0 := ⟨tb_at (i := 137) (by decide +kernel) rfl, cdX2_init, in_AshGreetings_Neighbour, ⟨by decide, by decide, by decide +kernel⟩, by decide⟩
theorem ciX6_1 : CB RX6 1 mX2_init 0 ∧ yX2_init.name = "<init>" ∧ Cond.instanceMethod yX2_init ∈ tb := ⟨cbX6_1, rfl, tb_at (i := 114) (by decide +kernel) rfl⟩
theorem cbX7_26 : CB RX7 26 mJ7_fill_53178 2 := ⟨tb_at (i := 337) (by decide +kernel) rfl, cdJ7_fill_53178, in_java_util_Arrays, ⟨by decide, by decide, by decide +kernel⟩, by decide⟩
theorem csX7_26 : CB RX7 26 mJ7_fill_53178 2 ∧ Cond.static yJ7_fill_53178 ∈ tb := ⟨cbX7_26, tb_at (i := 338) (by decide +kernel) rfl⟩
theorem cbX8_1 : CB RX8 1 mX2_init 0 := ⟨tb_at (i := 130) (by decide +kernel) rfl, cdX2_init, in_AshGreetings_Neighbour, ⟨by decide, by decide, by decide +kernel⟩, by decide⟩
theorem ciX8_1 : CB RX8 1 mX2_init 0 ∧ yX2_init.name = "<init>" ∧ Cond.instanceMethod yX2_init ∈ tb := ⟨cbX8_1, rfl, tb_at (i := 114) (by decide +kernel) rfl⟩
theorem cbX9_23 : CB RX9 23 mX2_init 0 := ⟨tb_at (i := 113) (by decide +kernel) rfl, cdX2_init, in_AshGreetings_Neighbour, ⟨by decide, by decide, by decide +kernel⟩, by decide⟩
theorem ciX9_23 : CB RX9 23 mX2_init 0 ∧ yX2_init.name = "<init>" ∧ Cond.instanceMethod yX2_init ∈ tb := ⟨cbX9_23, rfl, tb_at (i := 114) (by decide +kernel) rfl⟩
theorem cbX9_26 : CB RX9 26 mX1_init 0 := ⟨tb_at (i := 120) (by decide +kernel) rfl, cdX1_init, in_AshGreetings_Devout, ⟨by decide, by decide, by decide +kernel⟩, by decide⟩
theorem ciX9_26 : CB RX9 26 mX1_init 0 ∧ yX1_init.name = "<init>" ∧ Cond.instanceMethod yX1_init ∈ tb := ⟨cbX9_26, rfl, tb_at (i := 121) (by decide +kernel) rfl⟩
theorem cbX9_29 : CB RX9 29 mX8_init 0 := ⟨tb_at (i := 127) (by decide +kernel) rfl, cdX8_init, in_AshGreetings_Stubborn, ⟨by decide, by decide, by decide +kernel⟩, by decide⟩
theorem ciX9_29 : CB RX9 29 mX8_init 0 ∧ yX8_init.name = "<init>" ∧ Cond.instanceMethod yX8_init ∈ tb := ⟨cbX9_29, rfl, tb_at (i := 128) (by decide +kernel) rfl⟩
theorem cdX6_init : Cond.code yX6_init cX6_init 1 none ∈ tb := tb_at (i := 136) (by decide +kernel) rfl
theorem cbX9_32 : CB RX9 32 mX6_init 0 := ⟨tb_at (i := 134) (by decide +kernel) rfl, cdX6_init, in_AshGreetings_ShortOne, ⟨by decide, by decide, by decide +kernel⟩, by decide⟩
theorem ciX9_32 : CB RX9 32 mX6_init 0 ∧ yX6_init.name = "<init>" ∧ Cond.instanceMethod yX6_init ∈ tb := ⟨cbX9_32, rfl, tb_at (i := 135) (by decide +kernel) rfl⟩
theorem cdX4_init : Cond.code yX4_init cX4_init 1 none ∈ tb := tb_at (i := 143) (by decide +kernel) rfl
theorem in_AshGreetings_Priest : Cond.initialized "AshGreetings$Priest" ∈ tb := tb_at (i := 71) (by decide +kernel) rfl
theorem cbX9_35 : CB RX9 35 mX4_init 0 := ⟨tb_at (i := 141) (by decide +kernel) rfl, cdX4_init, in_AshGreetings_Priest, ⟨by decide, by decide, by decide +kernel⟩, by decide⟩
theorem ciX9_35 : CB RX9 35 mX4_init 0 ∧ yX4_init.name = "<init>" ∧ Cond.instanceMethod yX4_init ∈ tb := ⟨cbX9_35, rfl, tb_at (i := 142) (by decide +kernel) rfl⟩
theorem cdX0_init : Cond.code yX0_init cX0_init 1 none ∈ tb := tb_at (i := 150) (by decide +kernel) rfl
theorem cbX9_38 : CB RX9 38 mX0_init 0 := ⟨tb_at (i := 148) (by decide +kernel) rfl, cdX0_init, in_AshGreetings_Brother, ⟨by decide, by decide, by decide +kernel⟩, by decide⟩
theorem ciX9_38 : CB RX9 38 mX0_init 0 ∧ yX0_init.name = "<init>" ∧ Cond.instanceMethod yX0_init ∈ tb := ⟨cbX9_38, rfl, tb_at (i := 149) (by decide +kernel) rfl⟩
theorem cbX9_80 : CB RX9 80 mX5_howManyPeople 0 := ⟨tb_at (i := 431) (by decide +kernel) rfl, cdX5_howManyPeople, in_AshGreetings_Reading, ⟨by decide, by decide, by decide +kernel⟩, by decide⟩
theorem cvX9_80 : CV RX9 80 5 mX5_howManyPeople 0 := ⟨cbX9_80, tb_at (i := 420) (by decide +kernel) rfl, tb_at (i := 421) (by decide +kernel) rfl, _, _, cfX5⟩
theorem cdX9_further : Cond.code yX9_further cX9_further 4 (some .int) ∈ tb := tb_at (i := 437) (by decide +kernel) rfl
theorem cbX9_98 : CB RX9 98 mX9_further 2 := ⟨tb_at (i := 434) (by decide +kernel) rfl, cdX9_further, in_AshGreetings_Town, ⟨by decide, by decide, by decide +kernel⟩, by decide⟩
theorem cvX9_98 : CV RX9 98 9 mX9_further 2 := ⟨cbX9_98, tb_at (i := 436) (by decide +kernel) rfl, tb_at (i := 5) (by decide +kernel) rfl, _, _, cfX9⟩
theorem cdX9_startAnew : Cond.code yX9_startAnew cX9_startAnew 1 none ∈ tb := tb_at (i := 441) (by decide +kernel) rfl
theorem cbX9_101 : CB RX9 101 mX9_startAnew 0 := ⟨tb_at (i := 438) (by decide +kernel) rfl, cdX9_startAnew, in_AshGreetings_Town, ⟨by decide, by decide, by decide +kernel⟩, by decide⟩
theorem cvX9_101 : CV RX9 101 9 mX9_startAnew 0 := ⟨cbX9_101, tb_at (i := 440) (by decide +kernel) rfl, tb_at (i := 6) (by decide +kernel) rfl, _, _, cfX9⟩
theorem cbX9_110 : CB RX9 110 mX9_becomeAside 1 := ⟨tb_at (i := 621) (by decide +kernel) rfl, cdX9_becomeAside, in_AshGreetings_Town, ⟨by decide, by decide, by decide +kernel⟩, by decide⟩
theorem cvX9_110 : CV RX9 110 9 mX9_becomeAside 1 := ⟨cbX9_110, tb_at (i := 622) (by decide +kernel) rfl, tb_at (i := 623) (by decide +kernel) rfl, _, _, cfX9⟩
theorem cdX9_carryOut : Cond.code yX9_carryOut cX9_carryOut 3 none ∈ tb := tb_at (i := 539) (by decide +kernel) rfl
theorem cbX9_114 : CB RX9 114 mX9_carryOut 1 := ⟨tb_at (i := 536) (by decide +kernel) rfl, cdX9_carryOut, in_AshGreetings_Town, ⟨by decide, by decide, by decide +kernel⟩, by decide⟩
theorem cvX9_114 : CV RX9 114 9 mX9_carryOut 1 := ⟨cbX9_114, tb_at (i := 538) (by decide +kernel) rfl, tb_at (i := 10) (by decide +kernel) rfl, _, _, cfX9⟩
theorem cdX9_passDay : Cond.code yX9_passDay cX9_passDay 2 none ∈ tb := tb_at (i := 543) (by decide +kernel) rfl
theorem cbX9_118 : CB RX9 118 mX9_passDay 0 := ⟨tb_at (i := 540) (by decide +kernel) rfl, cdX9_passDay, in_AshGreetings_Town, ⟨by decide, by decide, by decide +kernel⟩, by decide⟩
theorem cvX9_118 : CV RX9 118 9 mX9_passDay 0 := ⟨cbX9_118, tb_at (i := 542) (by decide +kernel) rfl, tb_at (i := 11) (by decide +kernel) rfl, _, _, cfX9⟩
theorem cbX9_121 : CB RX9 121 mX9_sortOf 1 := ⟨tb_at (i := 459) (by decide +kernel) rfl, cdX9_sortOf, in_AshGreetings_Town, ⟨by decide, by decide, by decide +kernel⟩, by decide⟩
theorem cvX9_121 : CV RX9 121 9 mX9_sortOf 1 := ⟨cbX9_121, tb_at (i := 460) (by decide +kernel) rfl, tb_at (i := 461) (by decide +kernel) rfl, _, _, cfX9⟩
theorem cbX9_125 : CB RX9 125 mX9_moodOf 1 := ⟨tb_at (i := 544) (by decide +kernel) rfl, cdX9_moodOf, in_AshGreetings_Town, ⟨by decide, by decide, by decide +kernel⟩, by decide⟩
theorem cvX9_125 : CV RX9 125 9 mX9_moodOf 1 := ⟨cbX9_125, tb_at (i := 545) (by decide +kernel) rfl, tb_at (i := 546) (by decide +kernel) rfl, _, _, cfX9⟩
theorem cuX9_129_2 : CU RX9 129 2 yX2_grudgeBehind mX2_grudgeBehind 3 := ⟨tb_at (i := 560) (by decide +kernel) rfl, tb_at (i := 563) (by decide +kernel) rfl, tb_at (i := 562) (by decide +kernel) rfl, tb_at (i := 561) (by decide +kernel) rfl, in_AshGreetings_Neighbour, cdX2_grudgeBehind, ⟨by decide, by decide, by decide +kernel⟩, by decide, Or.inl rfl, _, _, cfX2⟩
theorem cuX9_129_1 : CU RX9 129 1 yX2_grudgeBehind mX2_grudgeBehind 3 := ⟨tb_at (i := 560) (by decide +kernel) rfl, tb_at (i := 563) (by decide +kernel) rfl, tb_at (i := 565) (by decide +kernel) rfl, tb_at (i := 561) (by decide +kernel) rfl, in_AshGreetings_Neighbour, cdX2_grudgeBehind, ⟨by decide, by decide, by decide +kernel⟩, by decide, Or.inl rfl, _, _, cfX1⟩
theorem cuX9_129_8 : CU RX9 129 8 yX2_grudgeBehind mX2_grudgeBehind 3 := ⟨tb_at (i := 560) (by decide +kernel) rfl, tb_at (i := 563) (by decide +kernel) rfl, tb_at (i := 568) (by decide +kernel) rfl, tb_at (i := 561) (by decide +kernel) rfl, in_AshGreetings_Neighbour, cdX2_grudgeBehind, ⟨by decide, by decide, by decide +kernel⟩, by decide, Or.inl rfl, _, _, cfX8⟩
theorem cuX9_129_6 : CU RX9 129 6 yX2_grudgeBehind mX2_grudgeBehind 3 := ⟨tb_at (i := 560) (by decide +kernel) rfl, tb_at (i := 563) (by decide +kernel) rfl, tb_at (i := 567) (by decide +kernel) rfl, tb_at (i := 561) (by decide +kernel) rfl, in_AshGreetings_Neighbour, cdX2_grudgeBehind, ⟨by decide, by decide, by decide +kernel⟩, by decide, Or.inl rfl, _, _, cfX6⟩
theorem cuX9_129_4 : CU RX9 129 4 yX2_grudgeBehind mX2_grudgeBehind 3 := ⟨tb_at (i := 560) (by decide +kernel) rfl, tb_at (i := 563) (by decide +kernel) rfl, tb_at (i := 566) (by decide +kernel) rfl, tb_at (i := 561) (by decide +kernel) rfl, in_AshGreetings_Neighbour, cdX2_grudgeBehind, ⟨by decide, by decide, by decide +kernel⟩, by decide, Or.inl rfl, _, _, cfX4⟩
theorem cuX9_129_0 : CU RX9 129 0 yX2_grudgeBehind mX2_grudgeBehind 3 := ⟨tb_at (i := 560) (by decide +kernel) rfl, tb_at (i := 563) (by decide +kernel) rfl, tb_at (i := 564) (by decide +kernel) rfl, tb_at (i := 561) (by decide +kernel) rfl, in_AshGreetings_Neighbour, cdX2_grudgeBehind, ⟨by decide, by decide, by decide +kernel⟩, by decide, Or.inl rfl, _, _, cfX0⟩
theorem cdX9_meetsFoe : Cond.code yX9_meetsFoe cX9_meetsFoe 6 (some .boolean) ∈ tb := tb_at (i := 478) (by decide +kernel) rfl
theorem cbX9_133 : CB RX9 133 mX9_meetsFoe 1 := ⟨tb_at (i := 475) (by decide +kernel) rfl, cdX9_meetsFoe, in_AshGreetings_Town, ⟨by decide, by decide, by decide +kernel⟩, by decide⟩
theorem cvX9_133 : CV RX9 133 9 mX9_meetsFoe 1 := ⟨cbX9_133, tb_at (i := 476) (by decide +kernel) rfl, tb_at (i := 477) (by decide +kernel) rfl, _, _, cfX9⟩
theorem cdX2_forgivesAll : Cond.code yX2_forgivesAll cX2_forgivesAll 1 (some .boolean) ∈ tb := tb_at (i := 559) (by decide +kernel) rfl
theorem cuX9_137_2 : CU RX9 137 2 yX2_forgivesAll mX2_forgivesAll 0 := ⟨tb_at (i := 548) (by decide +kernel) rfl, tb_at (i := 551) (by decide +kernel) rfl, tb_at (i := 550) (by decide +kernel) rfl, tb_at (i := 549) (by decide +kernel) rfl, in_AshGreetings_Neighbour, cdX2_forgivesAll, ⟨by decide, by decide, by decide +kernel⟩, by decide, Or.inl rfl, _, _, cfX2⟩
theorem cuX9_137_1 : CU RX9 137 1 yX2_forgivesAll mX2_forgivesAll 0 := ⟨tb_at (i := 548) (by decide +kernel) rfl, tb_at (i := 551) (by decide +kernel) rfl, tb_at (i := 553) (by decide +kernel) rfl, tb_at (i := 549) (by decide +kernel) rfl, in_AshGreetings_Neighbour, cdX2_forgivesAll, ⟨by decide, by decide, by decide +kernel⟩, by decide, Or.inl rfl, _, _, cfX1⟩
theorem cuX9_137_8 : CU RX9 137 8 yX2_forgivesAll mX2_forgivesAll 0 := ⟨tb_at (i := 548) (by decide +kernel) rfl, tb_at (i := 551) (by decide +kernel) rfl, tb_at (i := 558) (by decide +kernel) rfl, tb_at (i := 549) (by decide +kernel) rfl, in_AshGreetings_Neighbour, cdX2_forgivesAll, ⟨by decide, by decide, by decide +kernel⟩, by decide, Or.inl rfl, _, _, cfX8⟩
theorem cuX9_137_6 : CU RX9 137 6 yX2_forgivesAll mX2_forgivesAll 0 := ⟨tb_at (i := 548) (by decide +kernel) rfl, tb_at (i := 551) (by decide +kernel) rfl, tb_at (i := 557) (by decide +kernel) rfl, tb_at (i := 549) (by decide +kernel) rfl, in_AshGreetings_Neighbour, cdX2_forgivesAll, ⟨by decide, by decide, by decide +kernel⟩, by decide, Or.inl rfl, _, _, cfX6⟩
theorem cdX4_forgivesAll : Cond.code yX4_forgivesAll cX4_forgivesAll 1 (some .boolean) ∈ tb := tb_at (i := 556) (by decide +kernel) rfl
theorem cuX9_137_4 : CU RX9 137 4 yX2_forgivesAll mX4_forgivesAll 0 := ⟨tb_at (i := 548) (by decide +kernel) rfl, tb_at (i := 551) (by decide +kernel) rfl, tb_at (i := 554) (by decide +kernel) rfl, tb_at (i := 555) (by decide +kernel) rfl, in_AshGreetings_Priest, cdX4_forgivesAll, ⟨by decide, by decide, by decide +kernel⟩, by decide, Or.inr ⟨tb_at (i := 549) (by decide +kernel) rfl, _, _, _, cdX2_forgivesAll⟩, _, _, cfX4⟩
theorem cuX9_137_0 : CU RX9 137 0 yX2_forgivesAll mX2_forgivesAll 0 := ⟨tb_at (i := 548) (by decide +kernel) rfl, tb_at (i := 551) (by decide +kernel) rfl, tb_at (i := 552) (by decide +kernel) rfl, tb_at (i := 549) (by decide +kernel) rfl, in_AshGreetings_Neighbour, cdX2_forgivesAll, ⟨by decide, by decide, by decide +kernel⟩, by decide, Or.inl rfl, _, _, cfX0⟩
theorem cdX9_isHid : Cond.code yX9_isHid cX9_isHid 2 (some .boolean) ∈ tb := tb_at (i := 458) (by decide +kernel) rfl
theorem cbX9_141 : CB RX9 141 mX9_isHid 1 := ⟨tb_at (i := 455) (by decide +kernel) rfl, cdX9_isHid, in_AshGreetings_Town, ⟨by decide, by decide, by decide +kernel⟩, by decide⟩
theorem cvX9_141 : CV RX9 141 9 mX9_isHid 1 := ⟨cbX9_141, tb_at (i := 456) (by decide +kernel) rfl, tb_at (i := 457) (by decide +kernel) rfl, _, _, cfX9⟩
theorem cuX9_144_2 : CU RX9 144 2 yX2_seenAs mX2_seenAs 1 := ⟨tb_at (i := 463) (by decide +kernel) rfl, tb_at (i := 466) (by decide +kernel) rfl, tb_at (i := 465) (by decide +kernel) rfl, tb_at (i := 464) (by decide +kernel) rfl, in_AshGreetings_Neighbour, cdX2_seenAs, ⟨by decide, by decide, by decide +kernel⟩, by decide, Or.inl rfl, _, _, cfX2⟩
theorem cuX9_144_1 : CU RX9 144 1 yX2_seenAs mX2_seenAs 1 := ⟨tb_at (i := 463) (by decide +kernel) rfl, tb_at (i := 466) (by decide +kernel) rfl, tb_at (i := 468) (by decide +kernel) rfl, tb_at (i := 464) (by decide +kernel) rfl, in_AshGreetings_Neighbour, cdX2_seenAs, ⟨by decide, by decide, by decide +kernel⟩, by decide, Or.inl rfl, _, _, cfX1⟩
theorem cuX9_144_8 : CU RX9 144 8 yX2_seenAs mX2_seenAs 1 := ⟨tb_at (i := 463) (by decide +kernel) rfl, tb_at (i := 466) (by decide +kernel) rfl, tb_at (i := 473) (by decide +kernel) rfl, tb_at (i := 464) (by decide +kernel) rfl, in_AshGreetings_Neighbour, cdX2_seenAs, ⟨by decide, by decide, by decide +kernel⟩, by decide, Or.inl rfl, _, _, cfX8⟩
theorem cuX9_144_6 : CU RX9 144 6 yX2_seenAs mX6_seenAs 1 := ⟨tb_at (i := 463) (by decide +kernel) rfl, tb_at (i := 466) (by decide +kernel) rfl, tb_at (i := 470) (by decide +kernel) rfl, tb_at (i := 471) (by decide +kernel) rfl, in_AshGreetings_ShortOne, cdX6_seenAs, ⟨by decide, by decide, by decide +kernel⟩, by decide, Or.inr ⟨tb_at (i := 464) (by decide +kernel) rfl, _, _, _, cdX2_seenAs⟩, _, _, cfX6⟩
theorem cuX9_144_4 : CU RX9 144 4 yX2_seenAs mX2_seenAs 1 := ⟨tb_at (i := 463) (by decide +kernel) rfl, tb_at (i := 466) (by decide +kernel) rfl, tb_at (i := 469) (by decide +kernel) rfl, tb_at (i := 464) (by decide +kernel) rfl, in_AshGreetings_Neighbour, cdX2_seenAs, ⟨by decide, by decide, by decide +kernel⟩, by decide, Or.inl rfl, _, _, cfX4⟩
theorem cuX9_144_0 : CU RX9 144 0 yX2_seenAs mX2_seenAs 1 := ⟨tb_at (i := 463) (by decide +kernel) rfl, tb_at (i := 466) (by decide +kernel) rfl, tb_at (i := 467) (by decide +kernel) rfl, tb_at (i := 464) (by decide +kernel) rfl, in_AshGreetings_Neighbour, cdX2_seenAs, ⟨by decide, by decide, by decide +kernel⟩, by decide, Or.inl rfl, _, _, cfX0⟩
theorem mjX10_94 : Cond.methodLink RX10 94 ⟨"java/lang/System", "arraycopy", "(Ljava/lang/Object;ILjava/lang/Object;II)V"⟩ ∈ tb := tb_at (i := 376) (by decide +kernel) rfl
theorem mjX2_15 : Cond.methodLink RX2 15 ⟨"java/lang/Math", "max", "(II)I"⟩ ∈ tb := tb_at (i := 571) (by decide +kernel) rfl
theorem mjX2_25 : Cond.methodLink RX2 25 ⟨"java/lang/Math", "min", "(II)I"⟩ ∈ tb := tb_at (i := 584) (by decide +kernel) rfl
theorem mjX3_83 : Cond.methodLink RX3 83 ⟨"java/lang/Math", "max", "(II)I"⟩ ∈ tb := tb_at (i := 670) (by decide +kernel) rfl
theorem mjX3_136 : Cond.methodLink RX3 136 ⟨"java/lang/Math", "min", "(II)I"⟩ ∈ tb := tb_at (i := 754) (by decide +kernel) rfl
theorem mjX3_139 : Cond.methodLink RX3 139 ⟨"java/lang/System", "arraycopy", "(Ljava/lang/Object;ILjava/lang/Object;II)V"⟩ ∈ tb := tb_at (i := 767) (by decide +kernel) rfl
theorem mjX7_13 : Cond.methodLink RX7 13 ⟨"java/lang/Math", "max", "(II)I"⟩ ∈ tb := tb_at (i := 268) (by decide +kernel) rfl
theorem mjX7_23 : Cond.methodLink RX7 23 ⟨"java/lang/Math", "min", "(II)I"⟩ ∈ tb := tb_at (i := 334) (by decide +kernel) rfl
theorem mjX9_86 : Cond.methodLink RX9 86 ⟨"java/lang/Math", "min", "(II)I"⟩ ∈ tb := tb_at (i := 432) (by decide +kernel) rfl
theorem mjX9_92 : Cond.methodLink RX9 92 ⟨"java/lang/Math", "max", "(II)I"⟩ ∈ tb := tb_at (i := 433) (by decide +kernel) rfl
theorem mjX9_104 : Cond.methodLink RX9 104 ⟨"java/lang/System", "arraycopy", "(Ljava/lang/Object;ILjava/lang/Object;II)V"⟩ ∈ tb := tb_at (i := 442) (by decide +kernel) rfl
theorem in_java_lang_Math : Cond.initialized "java/lang/Math" ∈ tb := tb_at (i := 75) (by decide +kernel) rfl
theorem in_java_lang_System : Cond.initialized "java/lang/System" ∈ tb := tb_at (i := 78) (by decide +kernel) rfl
theorem st_max : Cond.static ⟨"java/lang/Math", "max", "(II)I"⟩ ∈ tb := tb_at (i := 269) (by decide +kernel) rfl
theorem cdJ9_max_7cf53 : Cond.code yJ9_max_7cf53 cJ9_max_7cf53 2 (some .int) ∈ tb := tb_at (i := 270) (by decide +kernel) rfl
theorem st_min : Cond.static ⟨"java/lang/Math", "min", "(II)I"⟩ ∈ tb := tb_at (i := 335) (by decide +kernel) rfl
theorem cdJ9_min_7cf53 : Cond.code yJ9_min_7cf53 cJ9_min_7cf53 2 (some .int) ∈ tb := tb_at (i := 336) (by decide +kernel) rfl
theorem st_ac : Cond.static arraycopyName ∈ tb := tb_at (i := 377) (by decide +kernel) rfl
theorem na_ac : Cond.native arraycopyName ∈ tb := tb_at (i := 378) (by decide +kernel) rfl
end
