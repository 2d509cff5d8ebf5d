section
-- ===== PART A: goes FIRST, ahead of the names: the tables' words, and 'selects' of the private methods out of them =====
/-- a private method of a class that the tables say can be made, by its rows of tables_1 -/
def lw_okq (q : MethodName × Nat) : Prop := (q.1.cls ≠ "java/lang/invoke/MethodHandle" ∧ q.1.cls ≠ "java/lang/invoke/VarHandle") ∧ Cond.instantiable q.1.cls q.2 ∈ tables_1 ∧ Cond.privateMethod q.1 ∈ tables_1 ∧ Cond.instanceMethod q.1 ∈ tables_1
theorem lw_p0 : lw_okq (⟨"java/lang/Throwable", "fillInStackTrace", "(I)Ljava/lang/Throwable;"⟩, 6) := ⟨⟨by decide +kernel, by decide +kernel⟩, List.mem_of_getElem? (i := 182) (by decide +kernel), List.mem_of_getElem? (i := 180) (by decide +kernel), List.mem_of_getElem? (i := 181) (by decide +kernel)⟩
theorem lw_p1 : lw_okq (⟨"OpalField", "needFree", "(I)V"⟩, 10) := ⟨⟨by decide +kernel, by decide +kernel⟩, List.mem_of_getElem? (i := 22) (by decide +kernel), List.mem_of_getElem? (i := 273) (by decide +kernel), List.mem_of_getElem? (i := 274) (by decide +kernel)⟩
theorem lw_p2 : lw_okq (⟨"OpalField", "hoursBarred", "(I)I"⟩, 10) := ⟨⟨by decide +kernel, by decide +kernel⟩, List.mem_of_getElem? (i := 22) (by decide +kernel), List.mem_of_getElem? (i := 277) (by decide +kernel), List.mem_of_getElem? (i := 278) (by decide +kernel)⟩
theorem lw_p3 : lw_okq (⟨"java/util/ArrayList", "add", "(Ljava/lang/Object;[Ljava/lang/Object;I)V"⟩, 3) := ⟨⟨by decide +kernel, by decide +kernel⟩, List.mem_of_getElem? (i := 66) (by decide +kernel), List.mem_of_getElem? (i := 332) (by decide +kernel), List.mem_of_getElem? (i := 333) (by decide +kernel)⟩
theorem lw_p4 : lw_okq (⟨"java/util/ArrayList", "grow", "()[Ljava/lang/Object;"⟩, 3) := ⟨⟨by decide +kernel, by decide +kernel⟩, List.mem_of_getElem? (i := 66) (by decide +kernel), List.mem_of_getElem? (i := 336) (by decide +kernel), List.mem_of_getElem? (i := 337) (by decide +kernel)⟩
theorem lw_p5 : lw_okq (⟨"java/util/ArrayList", "grow", "(I)[Ljava/lang/Object;"⟩, 3) := ⟨⟨by decide +kernel, by decide +kernel⟩, List.mem_of_getElem? (i := 66) (by decide +kernel), List.mem_of_getElem? (i := 340) (by decide +kernel), List.mem_of_getElem? (i := 341) (by decide +kernel)⟩
theorem lw_p6 : lw_okq (⟨"OpalField", "claimAt", "(I)LOpalField$Claim;"⟩, 10) := ⟨⟨by decide +kernel, by decide +kernel⟩, List.mem_of_getElem? (i := 22) (by decide +kernel), List.mem_of_getElem? (i := 389) (by decide +kernel), List.mem_of_getElem? (i := 390) (by decide +kernel)⟩
theorem lw_p7 : lw_okq (⟨"OpalField", "claimAtHand", "(III)LOpalField$Claim;"⟩, 10) := ⟨⟨by decide +kernel, by decide +kernel⟩, List.mem_of_getElem? (i := 22) (by decide +kernel), List.mem_of_getElem? (i := 440) (by decide +kernel), List.mem_of_getElem? (i := 441) (by decide +kernel)⟩
theorem lw_p8 : lw_okq (⟨"OpalField", "holderOf", "(I)I"⟩, 10) := ⟨⟨by decide +kernel, by decide +kernel⟩, List.mem_of_getElem? (i := 22) (by decide +kernel), List.mem_of_getElem? (i := 445) (by decide +kernel), List.mem_of_getElem? (i := 446) (by decide +kernel)⟩
theorem lw_p9 : lw_okq (⟨"OpalField", "work", "(LOpalField$Claim;II)I"⟩, 10) := ⟨⟨by decide +kernel, by decide +kernel⟩, List.mem_of_getElem? (i := 22) (by decide +kernel), List.mem_of_getElem? (i := 473) (by decide +kernel), List.mem_of_getElem? (i := 474) (by decide +kernel)⟩
theorem lw_p10 : lw_okq (⟨"OpalField", "uncover", "(III)I"⟩, 10) := ⟨⟨by decide +kernel, by decide +kernel⟩, List.mem_of_getElem? (i := 22) (by decide +kernel), List.mem_of_getElem? (i := 477) (by decide +kernel), List.mem_of_getElem? (i := 478) (by decide +kernel)⟩
theorem lw_p11 : lw_okq (⟨"OpalField", "isNight", "()Z"⟩, 10) := ⟨⟨by decide +kernel, by decide +kernel⟩, List.mem_of_getElem? (i := 22) (by decide +kernel), List.mem_of_getElem? (i := 593) (by decide +kernel), List.mem_of_getElem? (i := 594) (by decide +kernel)⟩
theorem lw_p12 : lw_okq (⟨"OpalField", "stonesInParcel", "(I)I"⟩, 10) := ⟨⟨by decide +kernel, by decide +kernel⟩, List.mem_of_getElem? (i := 22) (by decide +kernel), List.mem_of_getElem? (i := 606) (by decide +kernel), List.mem_of_getElem? (i := 607) (by decide +kernel)⟩
theorem lw_p13 : lw_okq (⟨"OpalField", "caratsInParcel", "(I)I"⟩, 10) := ⟨⟨by decide +kernel, by decide +kernel⟩, List.mem_of_getElem? (i := 22) (by decide +kernel), List.mem_of_getElem? (i := 620) (by decide +kernel), List.mem_of_getElem? (i := 621) (by decide +kernel)⟩
theorem lw_p14 : lw_okq (⟨"OpalField", "heaviestInParcel", "(I)I"⟩, 10) := ⟨⟨by decide +kernel, by decide +kernel⟩, List.mem_of_getElem? (i := 22) (by decide +kernel), List.mem_of_getElem? (i := 624) (by decide +kernel), List.mem_of_getElem? (i := 625) (by decide +kernel)⟩
theorem lw_p15 : lw_okq (⟨"OpalField", "stoneAt", "(I)LOpalField$Stone;"⟩, 10) := ⟨⟨by decide +kernel, by decide +kernel⟩, List.mem_of_getElem? (i := 22) (by decide +kernel), List.mem_of_getElem? (i := 628) (by decide +kernel), List.mem_of_getElem? (i := 629) (by decide +kernel)⟩
def lw_privs_1 : List (MethodName × Nat) := [(⟨"java/lang/Throwable", "fillInStackTrace", "(I)Ljava/lang/Throwable;"⟩, 6), (⟨"OpalField", "needFree", "(I)V"⟩, 10), (⟨"OpalField", "hoursBarred", "(I)I"⟩, 10), (⟨"java/util/ArrayList", "add", "(Ljava/lang/Object;[Ljava/lang/Object;I)V"⟩, 3), (⟨"java/util/ArrayList", "grow", "()[Ljava/lang/Object;"⟩, 3), (⟨"java/util/ArrayList", "grow", "(I)[Ljava/lang/Object;"⟩, 3), (⟨"OpalField", "claimAt", "(I)LOpalField$Claim;"⟩, 10), (⟨"OpalField", "claimAtHand", "(III)LOpalField$Claim;"⟩, 10), (⟨"OpalField", "holderOf", "(I)I"⟩, 10), (⟨"OpalField", "work", "(LOpalField$Claim;II)I"⟩, 10), (⟨"OpalField", "uncover", "(III)I"⟩, 10), (⟨"OpalField", "isNight", "()Z"⟩, 10), (⟨"OpalField", "stonesInParcel", "(I)I"⟩, 10), (⟨"OpalField", "caratsInParcel", "(I)I"⟩, 10), (⟨"OpalField", "heaviestInParcel", "(I)I"⟩, 10), (⟨"OpalField", "stoneAt", "(I)LOpalField$Stone;"⟩, 10)]
theorem lw_r1 : ∀ q ∈ lw_privs_1, lw_okq q := List.forall_mem_cons.mpr ⟨lw_p0, List.forall_mem_cons.mpr ⟨lw_p1, List.forall_mem_cons.mpr ⟨lw_p2, List.forall_mem_cons.mpr ⟨lw_p3, List.forall_mem_cons.mpr ⟨lw_p4, List.forall_mem_cons.mpr ⟨lw_p5, List.forall_mem_cons.mpr ⟨lw_p6, List.forall_mem_cons.mpr ⟨lw_p7, List.forall_mem_cons.mpr ⟨lw_p8, List.forall_mem_cons.mpr ⟨lw_p9, List.forall_mem_cons.mpr ⟨lw_p10, List.forall_mem_cons.mpr ⟨lw_p11, List.forall_mem_cons.mpr ⟨lw_p12, List.forall_mem_cons.mpr ⟨lw_p13, List.forall_mem_cons.mpr ⟨lw_p14, List.forall_mem_cons.mpr ⟨lw_p15, fun _ h => absurd h List.not_mem_nil⟩⟩⟩⟩⟩⟩⟩⟩⟩⟩⟩⟩⟩⟩⟩⟩
theorem lw_p16 : lw_okq (⟨"OpalField", "cellsHeldBy", "(I)I"⟩, 10) := ⟨⟨by decide +kernel, by decide +kernel⟩, List.mem_of_getElem? (i := 22) (by decide +kernel), List.mem_of_getElem? (i := 718) (by decide +kernel), List.mem_of_getElem? (i := 719) (by decide +kernel)⟩
theorem lw_p17 : lw_okq (⟨"OpalField", "stonesOfPerson", "(I)I"⟩, 10) := ⟨⟨by decide +kernel, by decide +kernel⟩, List.mem_of_getElem? (i := 22) (by decide +kernel), List.mem_of_getElem? (i := 751) (by decide +kernel), List.mem_of_getElem? (i := 752) (by decide +kernel)⟩
theorem lw_p18 : lw_okq (⟨"OpalField", "caratsOfStones", "(I)I"⟩, 10) := ⟨⟨by decide +kernel, by decide +kernel⟩, List.mem_of_getElem? (i := 22) (by decide +kernel), List.mem_of_getElem? (i := 786) (by decide +kernel), List.mem_of_getElem? (i := 787) (by decide +kernel)⟩
theorem lw_p19 : lw_okq (⟨"OpalField", "caratsLost", "()I"⟩, 10) := ⟨⟨by decide +kernel, by decide +kernel⟩, List.mem_of_getElem? (i := 22) (by decide +kernel), List.mem_of_getElem? (i := 790) (by decide +kernel), List.mem_of_getElem? (i := 791) (by decide +kernel)⟩
theorem lw_p20 : lw_okq (⟨"OpalField", "listDiggable", "(I)I"⟩, 10) := ⟨⟨by decide +kernel, by decide +kernel⟩, List.mem_of_getElem? (i := 22) (by decide +kernel), List.mem_of_getElem? (i := 802) (by decide +kernel), List.mem_of_getElem? (i := 803) (by decide +kernel)⟩
theorem lw_p21 : lw_okq (⟨"OpalFieldModel", "isBarred", "(I)Z"⟩, 37) := ⟨⟨by decide +kernel, by decide +kernel⟩, List.mem_of_getElem? (i := 828) (by decide +kernel), List.mem_of_getElem? (i := 971) (by decide +kernel), List.mem_of_getElem? (i := 972) (by decide +kernel)⟩
theorem lw_p22 : lw_okq (⟨"OpalFieldModel", "isClaim", "(I)Z"⟩, 37) := ⟨⟨by decide +kernel, by decide +kernel⟩, List.mem_of_getElem? (i := 828) (by decide +kernel), List.mem_of_getElem? (i := 979) (by decide +kernel), List.mem_of_getElem? (i := 980) (by decide +kernel)⟩
theorem lw_p23 : lw_okq (⟨"OpalFieldModel", "shareOf", "(II)I"⟩, 37) := ⟨⟨by decide +kernel, by decide +kernel⟩, List.mem_of_getElem? (i := 828) (by decide +kernel), List.mem_of_getElem? (i := 983) (by decide +kernel), List.mem_of_getElem? (i := 984) (by decide +kernel)⟩
theorem lw_p24 : lw_okq (⟨"OpalFieldModel", "ownersShare", "(I)I"⟩, 37) := ⟨⟨by decide +kernel, by decide +kernel⟩, List.mem_of_getElem? (i := 828) (by decide +kernel), List.mem_of_getElem? (i := 987) (by decide +kernel), List.mem_of_getElem? (i := 988) (by decide +kernel)⟩
theorem lw_p25 : lw_okq (⟨"OpalFieldModel", "hourOf", "(I)I"⟩, 37) := ⟨⟨by decide +kernel, by decide +kernel⟩, List.mem_of_getElem? (i := 828) (by decide +kernel), List.mem_of_getElem? (i := 991) (by decide +kernel), List.mem_of_getElem? (i := 992) (by decide +kernel)⟩
theorem lw_p26 : lw_okq (⟨"OpalFieldModel", "upTo", "(II)I"⟩, 37) := ⟨⟨by decide +kernel, by decide +kernel⟩, List.mem_of_getElem? (i := 828) (by decide +kernel), List.mem_of_getElem? (i := 995) (by decide +kernel), List.mem_of_getElem? (i := 996) (by decide +kernel)⟩
theorem lw_p27 : lw_okq (⟨"OpalFieldModel", "asks", "(III)V"⟩, 37) := ⟨⟨by decide +kernel, by decide +kernel⟩, List.mem_of_getElem? (i := 828) (by decide +kernel), List.mem_of_getElem? (i := 1007) (by decide +kernel), List.mem_of_getElem? (i := 1008) (by decide +kernel)⟩
theorem lw_p28 : lw_okq (⟨"OpalFieldModel", "holder", "(I)I"⟩, 37) := ⟨⟨by decide +kernel, by decide +kernel⟩, List.mem_of_getElem? (i := 828) (by decide +kernel), List.mem_of_getElem? (i := 1011) (by decide +kernel), List.mem_of_getElem? (i := 1012) (by decide +kernel)⟩
theorem lw_p29 : lw_okq (⟨"OpalFieldModel", "isLive", "(I)Z"⟩, 37) := ⟨⟨by decide +kernel, by decide +kernel⟩, List.mem_of_getElem? (i := 828) (by decide +kernel), List.mem_of_getElem? (i := 1015) (by decide +kernel), List.mem_of_getElem? (i := 1016) (by decide +kernel)⟩
theorem lw_p30 : lw_okq (⟨"OpalFieldModel", "covers", "(II)Z"⟩, 37) := ⟨⟨by decide +kernel, by decide +kernel⟩, List.mem_of_getElem? (i := 828) (by decide +kernel), List.mem_of_getElem? (i := 1019) (by decide +kernel), List.mem_of_getElem? (i := 1020) (by decide +kernel)⟩
theorem lw_p31 : lw_okq (⟨"OpalFieldModel", "isBesideOpen", "(I)Z"⟩, 37) := ⟨⟨by decide +kernel, by decide +kernel⟩, List.mem_of_getElem? (i := 828) (by decide +kernel), List.mem_of_getElem? (i := 1023) (by decide +kernel), List.mem_of_getElem? (i := 1024) (by decide +kernel)⟩
def lw_privs_2 : List (MethodName × Nat) := [(⟨"OpalField", "cellsHeldBy", "(I)I"⟩, 10), (⟨"OpalField", "stonesOfPerson", "(I)I"⟩, 10), (⟨"OpalField", "caratsOfStones", "(I)I"⟩, 10), (⟨"OpalField", "caratsLost", "()I"⟩, 10), (⟨"OpalField", "listDiggable", "(I)I"⟩, 10), (⟨"OpalFieldModel", "isBarred", "(I)Z"⟩, 37), (⟨"OpalFieldModel", "isClaim", "(I)Z"⟩, 37), (⟨"OpalFieldModel", "shareOf", "(II)I"⟩, 37), (⟨"OpalFieldModel", "ownersShare", "(I)I"⟩, 37), (⟨"OpalFieldModel", "hourOf", "(I)I"⟩, 37), (⟨"OpalFieldModel", "upTo", "(II)I"⟩, 37), (⟨"OpalFieldModel", "asks", "(III)V"⟩, 37), (⟨"OpalFieldModel", "holder", "(I)I"⟩, 37), (⟨"OpalFieldModel", "isLive", "(I)Z"⟩, 37), (⟨"OpalFieldModel", "covers", "(II)Z"⟩, 37), (⟨"OpalFieldModel", "isBesideOpen", "(I)Z"⟩, 37)]
theorem lw_r2 : ∀ q ∈ lw_privs_2, lw_okq q := List.forall_mem_cons.mpr ⟨lw_p16, List.forall_mem_cons.mpr ⟨lw_p17, List.forall_mem_cons.mpr ⟨lw_p18, List.forall_mem_cons.mpr ⟨lw_p19, List.forall_mem_cons.mpr ⟨lw_p20, List.forall_mem_cons.mpr ⟨lw_p21, List.forall_mem_cons.mpr ⟨lw_p22, List.forall_mem_cons.mpr ⟨lw_p23, List.forall_mem_cons.mpr ⟨lw_p24, List.forall_mem_cons.mpr ⟨lw_p25, List.forall_mem_cons.mpr ⟨lw_p26, List.forall_mem_cons.mpr ⟨lw_p27, List.forall_mem_cons.mpr ⟨lw_p28, List.forall_mem_cons.mpr ⟨lw_p29, List.forall_mem_cons.mpr ⟨lw_p30, List.forall_mem_cons.mpr ⟨lw_p31, fun _ h => absurd h List.not_mem_nil⟩⟩⟩⟩⟩⟩⟩⟩⟩⟩⟩⟩⟩⟩⟩⟩
theorem lw_p32 : lw_okq (⟨"OpalFieldModel", "opens", "(III)I"⟩, 37) := ⟨⟨by decide +kernel, by decide +kernel⟩, List.mem_of_getElem? (i := 828) (by decide +kernel), List.mem_of_getElem? (i := 1030) (by decide +kernel), List.mem_of_getElem? (i := 1031) (by decide +kernel)⟩
theorem lw_p33 : lw_okq (⟨"OpalFieldModel", "mayFall", "(I)V"⟩, 37) := ⟨⟨by decide +kernel, by decide +kernel⟩, List.mem_of_getElem? (i := 828) (by decide +kernel), List.mem_of_getElem? (i := 1034) (by decide +kernel), List.mem_of_getElem? (i := 1035) (by decide +kernel)⟩
theorem lw_p34 : lw_okq (⟨"OpalFieldModel", "run", "(II)I"⟩, 37) := ⟨⟨by decide +kernel, by decide +kernel⟩, List.mem_of_getElem? (i := 828) (by decide +kernel), List.mem_of_getElem? (i := 1038) (by decide +kernel), List.mem_of_getElem? (i := 1039) (by decide +kernel)⟩
theorem lw_p35 : lw_okq (⟨"OpalFieldModel", "isLoose", "(I)Z"⟩, 37) := ⟨⟨by decide +kernel, by decide +kernel⟩, List.mem_of_getElem? (i := 828) (by decide +kernel), List.mem_of_getElem? (i := 1042) (by decide +kernel), List.mem_of_getElem? (i := 1043) (by decide +kernel)⟩
theorem lw_p36 : lw_okq (⟨"OpalFieldModel", "marks", "(II)V"⟩, 37) := ⟨⟨by decide +kernel, by decide +kernel⟩, List.mem_of_getElem? (i := 828) (by decide +kernel), List.mem_of_getElem? (i := 1046) (by decide +kernel), List.mem_of_getElem? (i := 1047) (by decide +kernel)⟩
theorem lw_p37 : lw_okq (⟨"OpalFieldModel", "trapsOf", "(I)I"⟩, 37) := ⟨⟨by decide +kernel, by decide +kernel⟩, List.mem_of_getElem? (i := 828) (by decide +kernel), List.mem_of_getElem? (i := 1062) (by decide +kernel), List.mem_of_getElem? (i := 1063) (by decide +kernel)⟩
theorem lw_p38 : lw_okq (⟨"OpalFieldModel", "canRat", "(II)Z"⟩, 37) := ⟨⟨by decide +kernel, by decide +kernel⟩, List.mem_of_getElem? (i := 828) (by decide +kernel), List.mem_of_getElem? (i := 1070) (by decide +kernel), List.mem_of_getElem? (i := 1071) (by decide +kernel)⟩
theorem lw_p39 : lw_okq (⟨"OpalFieldModel", "isNight", "()Z"⟩, 37) := ⟨⟨by decide +kernel, by decide +kernel⟩, List.mem_of_getElem? (i := 828) (by decide +kernel), List.mem_of_getElem? (i := 1074) (by decide +kernel), List.mem_of_getElem? (i := 1075) (by decide +kernel)⟩
theorem lw_p40 : lw_okq (⟨"OpalFieldModel", "parcel", "(I)I"⟩, 37) := ⟨⟨by decide +kernel, by decide +kernel⟩, List.mem_of_getElem? (i := 828) (by decide +kernel), List.mem_of_getElem? (i := 1082) (by decide +kernel), List.mem_of_getElem? (i := 1083) (by decide +kernel)⟩
theorem lw_p41 : lw_okq (⟨"OpalFieldModel", "isIn", "(II)Z"⟩, 37) := ⟨⟨by decide +kernel, by decide +kernel⟩, List.mem_of_getElem? (i := 828) (by decide +kernel), List.mem_of_getElem? (i := 1086) (by decide +kernel), List.mem_of_getElem? (i := 1087) (by decide +kernel)⟩
theorem lw_p42 : lw_okq (⟨"OpalFieldModel", "greatest", "(I)I"⟩, 37) := ⟨⟨by decide +kernel, by decide +kernel⟩, List.mem_of_getElem? (i := 828) (by decide +kernel), List.mem_of_getElem? (i := 1090) (by decide +kernel), List.mem_of_getElem? (i := 1091) (by decide +kernel)⟩
theorem lw_p43 : lw_okq (⟨"OpalFieldModel", "next", "(II)I"⟩, 37) := ⟨⟨by decide +kernel, by decide +kernel⟩, List.mem_of_getElem? (i := 828) (by decide +kernel), List.mem_of_getElem? (i := 1094) (by decide +kernel), List.mem_of_getElem? (i := 1095) (by decide +kernel)⟩
theorem lw_p44 : lw_okq (⟨"OpalFieldModel", "isStone", "(I)Z"⟩, 37) := ⟨⟨by decide +kernel, by decide +kernel⟩, List.mem_of_getElem? (i := 828) (by decide +kernel), List.mem_of_getElem? (i := 1102) (by decide +kernel), List.mem_of_getElem? (i := 1103) (by decide +kernel)⟩
theorem lw_p45 : lw_okq (⟨"OpalFieldModel", "isInParcel", "(I)Z"⟩, 37) := ⟨⟨by decide +kernel, by decide +kernel⟩, List.mem_of_getElem? (i := 828) (by decide +kernel), List.mem_of_getElem? (i := 1106) (by decide +kernel), List.mem_of_getElem? (i := 1107) (by decide +kernel)⟩
theorem lw_p46 : lw_okq (⟨"OpalFieldModel", "looks", "(I)I"⟩, 37) := ⟨⟨by decide +kernel, by decide +kernel⟩, List.mem_of_getElem? (i := 828) (by decide +kernel), List.mem_of_getElem? (i := 1110) (by decide +kernel), List.mem_of_getElem? (i := 1111) (by decide +kernel)⟩
theorem lw_p47 : lw_okq (⟨"OpalFieldModel", "highest", "(I)I"⟩, 37) := ⟨⟨by decide +kernel, by decide +kernel⟩, List.mem_of_getElem? (i := 828) (by decide +kernel), List.mem_of_getElem? (i := 1126) (by decide +kernel), List.mem_of_getElem? (i := 1127) (by decide +kernel)⟩
def lw_privs_3 : List (MethodName × Nat) := [(⟨"OpalFieldModel", "opens", "(III)I"⟩, 37), (⟨"OpalFieldModel", "mayFall", "(I)V"⟩, 37), (⟨"OpalFieldModel", "run", "(II)I"⟩, 37), (⟨"OpalFieldModel", "isLoose", "(I)Z"⟩, 37), (⟨"OpalFieldModel", "marks", "(II)V"⟩, 37), (⟨"OpalFieldModel", "trapsOf", "(I)I"⟩, 37), (⟨"OpalFieldModel", "canRat", "(II)Z"⟩, 37), (⟨"OpalFieldModel", "isNight", "()Z"⟩, 37), (⟨"OpalFieldModel", "parcel", "(I)I"⟩, 37), (⟨"OpalFieldModel", "isIn", "(II)Z"⟩, 37), (⟨"OpalFieldModel", "greatest", "(I)I"⟩, 37), (⟨"OpalFieldModel", "next", "(II)I"⟩, 37), (⟨"OpalFieldModel", "isStone", "(I)Z"⟩, 37), (⟨"OpalFieldModel", "isInParcel", "(I)Z"⟩, 37), (⟨"OpalFieldModel", "looks", "(I)I"⟩, 37), (⟨"OpalFieldModel", "highest", "(I)I"⟩, 37)]
theorem lw_r3 : ∀ q ∈ lw_privs_3, lw_okq q := List.forall_mem_cons.mpr ⟨lw_p32, List.forall_mem_cons.mpr ⟨lw_p33, List.forall_mem_cons.mpr ⟨lw_p34, List.forall_mem_cons.mpr ⟨lw_p35, List.forall_mem_cons.mpr ⟨lw_p36, List.forall_mem_cons.mpr ⟨lw_p37, List.forall_mem_cons.mpr ⟨lw_p38, List.forall_mem_cons.mpr ⟨lw_p39, List.forall_mem_cons.mpr ⟨lw_p40, List.forall_mem_cons.mpr ⟨lw_p41, List.forall_mem_cons.mpr ⟨lw_p42, List.forall_mem_cons.mpr ⟨lw_p43, List.forall_mem_cons.mpr ⟨lw_p44, List.forall_mem_cons.mpr ⟨lw_p45, List.forall_mem_cons.mpr ⟨lw_p46, List.forall_mem_cons.mpr ⟨lw_p47, fun _ h => absurd h List.not_mem_nil⟩⟩⟩⟩⟩⟩⟩⟩⟩⟩⟩⟩⟩⟩⟩⟩
theorem lw_p48 : lw_okq (⟨"OpalFieldModel", "held", "(I)I"⟩, 37) := ⟨⟨by decide +kernel, by decide +kernel⟩, List.mem_of_getElem? (i := 828) (by decide +kernel), List.mem_of_getElem? (i := 1146) (by decide +kernel), List.mem_of_getElem? (i := 1147) (by decide +kernel)⟩
theorem lw_p49 : lw_okq (⟨"OpalFieldModel", "meet", "(II)Z"⟩, 37) := ⟨⟨by decide +kernel, by decide +kernel⟩, List.mem_of_getElem? (i := 828) (by decide +kernel), List.mem_of_getElem? (i := 1158) (by decide +kernel), List.mem_of_getElem? (i := 1159) (by decide +kernel)⟩
theorem lw_p50 : lw_okq (⟨"OpalFieldModel", "stonesOf", "(I)I"⟩, 37) := ⟨⟨by decide +kernel, by decide +kernel⟩, List.mem_of_getElem? (i := 828) (by decide +kernel), List.mem_of_getElem? (i := 1166) (by decide +kernel), List.mem_of_getElem? (i := 1167) (by decide +kernel)⟩
theorem lw_p51 : lw_okq (⟨"OpalFieldModel", "value", "(I)I"⟩, 37) := ⟨⟨by decide +kernel, by decide +kernel⟩, List.mem_of_getElem? (i := 828) (by decide +kernel), List.mem_of_getElem? (i := 1174) (by decide +kernel), List.mem_of_getElem? (i := 1175) (by decide +kernel)⟩
theorem lw_p52 : lw_okq (⟨"OpalFieldModel", "weighed", "(I)I"⟩, 37) := ⟨⟨by decide +kernel, by decide +kernel⟩, List.mem_of_getElem? (i := 828) (by decide +kernel), List.mem_of_getElem? (i := 1186) (by decide +kernel), List.mem_of_getElem? (i := 1187) (by decide +kernel)⟩
theorem lw_p53 : lw_okq (⟨"OpalFieldModel", "digsOne", "(I)I"⟩, 37) := ⟨⟨by decide +kernel, by decide +kernel⟩, List.mem_of_getElem? (i := 828) (by decide +kernel), List.mem_of_getElem? (i := 1194) (by decide +kernel), List.mem_of_getElem? (i := 1195) (by decide +kernel)⟩
theorem lw_p54 : lw_okq (⟨"OpalFieldModel", "canPlan", "(II)Z"⟩, 37) := ⟨⟨by decide +kernel, by decide +kernel⟩, List.mem_of_getElem? (i := 828) (by decide +kernel), List.mem_of_getElem? (i := 1198) (by decide +kernel), List.mem_of_getElem? (i := 1199) (by decide +kernel)⟩
theorem lw_p55 : lw_okq (⟨"OpalFieldModel", "isFall", "(I)Z"⟩, 37) := ⟨⟨by decide +kernel, by decide +kernel⟩, List.mem_of_getElem? (i := 828) (by decide +kernel), List.mem_of_getElem? (i := 1202) (by decide +kernel), List.mem_of_getElem? (i := 1203) (by decide +kernel)⟩
theorem lw_p56 : lw_okq (⟨"OpalFieldModel", "digsTwo", "(I)I"⟩, 37) := ⟨⟨by decide +kernel, by decide +kernel⟩, List.mem_of_getElem? (i := 828) (by decide +kernel), List.mem_of_getElem? (i := 1206) (by decide +kernel), List.mem_of_getElem? (i := 1207) (by decide +kernel)⟩
theorem lw_p57 : lw_okq (⟨"OpalFieldModel", "digsThree", "(I)I"⟩, 37) := ⟨⟨by decide +kernel, by decide +kernel⟩, List.mem_of_getElem? (i := 828) (by decide +kernel), List.mem_of_getElem? (i := 1210) (by decide +kernel), List.mem_of_getElem? (i := 1211) (by decide +kernel)⟩
def lw_privs_4 : List (MethodName × Nat) := [(⟨"OpalFieldModel", "held", "(I)I"⟩, 37), (⟨"OpalFieldModel", "meet", "(II)Z"⟩, 37), (⟨"OpalFieldModel", "stonesOf", "(I)I"⟩, 37), (⟨"OpalFieldModel", "value", "(I)I"⟩, 37), (⟨"OpalFieldModel", "weighed", "(I)I"⟩, 37), (⟨"OpalFieldModel", "digsOne", "(I)I"⟩, 37), (⟨"OpalFieldModel", "canPlan", "(II)Z"⟩, 37), (⟨"OpalFieldModel", "isFall", "(I)Z"⟩, 37), (⟨"OpalFieldModel", "digsTwo", "(I)I"⟩, 37), (⟨"OpalFieldModel", "digsThree", "(I)I"⟩, 37)]
theorem lw_r4 : ∀ q ∈ lw_privs_4, lw_okq q := List.forall_mem_cons.mpr ⟨lw_p48, List.forall_mem_cons.mpr ⟨lw_p49, List.forall_mem_cons.mpr ⟨lw_p50, List.forall_mem_cons.mpr ⟨lw_p51, List.forall_mem_cons.mpr ⟨lw_p52, List.forall_mem_cons.mpr ⟨lw_p53, List.forall_mem_cons.mpr ⟨lw_p54, List.forall_mem_cons.mpr ⟨lw_p55, List.forall_mem_cons.mpr ⟨lw_p56, List.forall_mem_cons.mpr ⟨lw_p57, fun _ h => absurd h List.not_mem_nil⟩⟩⟩⟩⟩⟩⟩⟩⟩⟩
def lw_privs : List (MethodName × Nat) := lw_privs_1 ++ (lw_privs_2 ++ (lw_privs_3 ++ (lw_privs_4)))
def lw_tbl : List Cond := k2_sels lw_privs ++ tables_1
theorem lw_privs_ok : ∀ q ∈ lw_privs, lw_okq q := by
  show ∀ q ∈ lw_privs_1 ++ (lw_privs_2 ++ (lw_privs_3 ++ (lw_privs_4))), lw_okq q
  exact List.forall_mem_append.mpr ⟨lw_r1, List.forall_mem_append.mpr ⟨lw_r2, List.forall_mem_append.mpr ⟨lw_r3, lw_r4⟩⟩⟩
/-! ===== BEGIN words of one list among another's, by their places ===== -/
theorem goodIn_r {big : List Cond} (ws : List Cond) (ps : List Nat) (hp : ws = ps.filterMap (fun i => big[i]?)) (h : ws.all goodWord = true) : GoodIn big ws := by
  intro w hw
  have h1 := List.all_eq_true.mp h w hw
  rw [hp] at hw
  obtain ⟨i, -, hi⟩ := List.mem_filterMap.mp hw
  have hm : w ∈ big := by first | exact List.mem_of_getElem? hi | exact List.getElem?_mem hi
  exact ⟨hm, good_of_word h1⟩
theorem goodIn_app {big a b : List Cond} (ha : GoodIn big a) (hb : GoodIn big b) : GoodIn big (a ++ b) := fun w h => (List.mem_append.mp h).elim (ha w) (hb w)
theorem goodIn_ca {big a b : List Cond} {c : Cond} (ha : GoodIn big (c :: a)) (hb : GoodIn big b) : GoodIn big (c :: (a ++ b)) := fun w h => (List.mem_cons.mp h).elim (fun e => ha w (List.mem_cons.mpr (Or.inl e))) (fun h => (List.mem_append.mp h).elim (fun h => ha w (List.mem_cons.mpr (Or.inr h))) (hb w))
theorem goodIn_sub {big ws : List Cond} (hm : ∀ w ∈ ws, w ∈ big) (h : ws.all goodWord = true) : GoodIn big ws := fun w hw => ⟨hm w hw, good_of_word (List.all_eq_true.mp h w hw)⟩
/-! ===== END ===== -/

/-! ===== BEGIN exceptions that leave a method, and their catching by the caller (launches without stack traces) ===== -/
section VXA
/-! The laws vx_back, vx_callV, vx_callS, vx_callSW, vx_throw0, vx_throwS follow proofs of the library, with one case more: JvmDerived/Free/Laws.lean (Back.of_free), Shelf42/LK1.lean (callV, callS), Shelf/KitTraced.lean (throwNew0V, throwNewS). -/
/-- where a method has thrown q: the class by its name, the cell, what was written, the world -/
def vx_T (XC : String → State → State → Prop) (st : State) (q : Addr) (t : State) (mc ms : Nat) (free : Addr → Prop) : Prop :=
  ∃ (E : String) (ce : Cell) (L : List Loc), XC E st t ∧ t.heap[q]? = some ce ∧ ce.vm = .none ∧ st.vm.findClass E = some ce.cls ∧ st.WarmedH t.vm ∧ st.sameButNew ({ t with vm := st.vm } : State) L mc ms ∧ ∀ z ∈ L, free z.base
def vx_Q (Qc : Array Value → State → Outcome → State → Prop) (XC : String → State → State → Prop) (mc ms : Nat) (free : Addr → Prop) : Array Value → State → Outcome → State → Prop := fun a st o t =>
  (Qc a st o t ∧ ∃ L, FrameEnd st o t L mc ms ∧ ∀ q ∈ L, free q.base) ∨ ∃ q, o = .threw q ∧ vx_T XC st q t mc ms free
/-- a callee that returns or throws -/
def vx_Met (l : Launch) (y : MethodName) (ws : List Cond) (rm : Room) (Pc : Array Value → State → Prop) (Qc : Array Value → State → Outcome → State → Prop) (XC : String → State → State → Prop) (mc ms : Nat) (free : Addr → Prop) : Prop :=
  MetFree l y (headSpec ws rm) Pc (fun _ _ _ _ _ => True) (vx_Q Qc XC mc ms free)
def vx_Post (XC : String → State → State → Prop) (mc ms : Nat) (free : Addr → Prop) : Pt → Array Value → Addr → Pt → Prop := fun A a q B =>
  ∃ (g : JFrame) (mk : MethodId) (t : State) (L : List Loc) (E : String) (ce : Cell), B.U.heap = t.heap ∧ B.U.vm = t.vm ∧ XC E (A.U.calling g mk a) t ∧ t.heap[q]? = some ce ∧ ce.vm = .none ∧ A.U.vm.findClass E = some ce.cls ∧ B.locs = A.locs ++ L ∧ (∀ z ∈ L, free z.base) ∧ B.cells = A.cells + mc ∧ B.slots = A.slots + ms
def vx_Back (l : Launch) (R : Room) (p : Program) (e : Env) (below : List Frame) (s : State) (sargs : Array Value) (y : MethodName) (len W9 : Nat)
    (Pre : Pt → Array Value → Prop) (Post : Pt → Array Value → Option Value → Pt → Prop) (PostX : Pt → Array Value → Addr → Pt → Prop) : Prop :=
  ∀ (m : MethodId) (meth : Method) (c : Code) (A : Pt) (g : JFrame) (ig : Instr) (mk : MethodId) (a : Array Value),
    Stand p l e R s m sargs below meth c A.U A.locs A.cells A.slots → g.method = m → g.locals.size = c.maxLocals → decode c.code g.pc = .ok (ig, len) →
    2 * g.monitorRoom + (g.stack.map fun v => v.category).sum ≤ W9 → A.U.methodNamed? y = some mk → Pre A a →
    (∃ (v : Option Value) (B : Pt), Stand p l e R s m sargs below meth c B.U B.locs B.cells B.slots ∧ Post A a v B ∧
      Steps p.tables e below (doInvoke e (A.U.setTop g) [] mk a).1 (B.U.setTop { g with pc := g.pc + len, stack := v.toList ++ g.stack })) ∨
    (∃ (q : Addr) (B : Pt), Stand p l e R s m sargs below meth c B.U B.locs B.cells B.slots ∧ PostX A a q B ∧
      Steps p.tables e below (doInvoke e (A.U.setTop g) [] mk a).1 ((B.U.setTop g).pushFrame (.throwing q)))
section Payer
variable {l : Launch} {R : Room} {p : Program} {e : Env} {below : List Frame} {s : State} {sargs : Array Value} {y : MethodName} {len W9 : Nat}
theorem vx_back {ws : List Cond} {rm : Room} {Pc : Array Value → State → Prop} {Qc : Array Value → State → Outcome → State → Prop} {XC : String → State → State → Prop} {mc ms : Nat} {free : Addr → Prop} {bytes : ByteArray} {maxL : Nat} {ret : Option FieldType}
    (hM : vx_Met l y ws rm Pc Qc XC mc ms free) (hblind : FrameBlind Pc) (hrc : rm.cells = mc) (hrs : rm.slots = ms)
    (hframes : rm.frames + 1 ≤ R.frames) (hlocals : W9 + (maxL + 11) + rm.locals ≤ R.locals)
    (hws : ∀ w ∈ ws, ∀ a' U, s.WarmedH U.vm → w.before a' U = true) (hcode : Cond.code y bytes maxL ret ∈ ws) (hinit : ∀ a' U, s.WarmedH U.vm → (Cond.initialized y.cls).before a' U = true) :
    vx_Back l R p e below s sargs y len W9 (PreOf R mc ms Pc) (PostOf Qc mc ms free) (vx_Post XC mc ms free) := by
  intro m meth c A g ig mk a X hg hsize hdg hW hn hp
  have h1 : (headSpec ws rm).pre.before a A.U = true := atoms_intro fun w hw => hws w hw _ _ X.warmed
  have h2 : (Cond.code y bytes maxL ret).before a A.U = true := hws _ hcode _ _ X.warmed
  have h3 : (Cond.initialized y.cls).before a A.U = true := hinit _ _ X.warmed
  have h4 : A.cells + (headSpec ws rm).room.cells ≤ R.cells := by rw [show (headSpec ws rm).room.cells = mc from hrc]; exact hp.1
  have h5 : A.slots + (headSpec ws rm).room.slots ≤ R.slots := by rw [show (headSpec ws rm).room.slots = ms from hrs]; exact hp.2.1
  have hPc : Pc a (A.U.calling g mk a) := hblind _ _ _ _ hp.2.2
  obtain ⟨U, Ls, c0, s0⟩ := A
  dsimp only [Pt.U, Pt.locs, Pt.cells, Pt.slots] at h1 h2 h3 h4 h5 X hn hPc ⊢
  obtain ⟨methY, cY, hmY, hcY, -, hlY, -, -, -, -⟩ := Cond.code_spec hn h2
  obtain ⟨kY, hkY, -⟩ := className_of_methodNamed hn
  have hinitY : kY.init = .initialized := Cond.initialized_spec (findClass_of_methodNamed hn) hkY h3
  have h : At U g.method c below := by rw [hg]; exact X.here
  have hlocals9 : W9 + (maxL + 11) + (headSpec ws rm).room.locals ≤ R.locals := hlocals
  have happ : (headSpec ws rm).appliesLoose y e.platform (U.calling g mk a) = true :=
    Spec.appliesLoose_calling (g := g) h hdg hn hkY hinitY
      (X.room_calling (g := g) (R' := (headSpec ws rm).room) hsize hmY hcY hframes (by rw [hlY]; omega) h4 h5) h1
  obtain ⟨mid, hmid⟩ := h.above
  have hfr : (U.setTop g).frames = (.java g :: mid) ++ below := by rw [State.frames_setTop' g h.top, hmid]; rfl
  obtain ⟨o, s₂, hsteps, -, hend, hq⟩ := Steps.callFree hM p X.admits X.cas X.clock (acts := []) hfr happ hPc trivial
  have hq' : vx_Q Qc XC mc ms free a (U.calling g mk a) o s₂ := hq
  rw [State.frames_setTop' g h.top] at hend
  obtain ⟨g₀, hg0⟩ := Option.isSome_iff_exists.mp h.top
  obtain ⟨r, hr⟩ := State.topJava?_eq_some.mp hg0
  have hr' : (({ U with heap := s₂.heap, slotsUsed := s₂.slotsUsed } : State).setVm s₂.vm).frames = .java g₀ :: r := hr
  rcases hq' with ⟨hqc, L, hfe, hL⟩ | ⟨q, rfl, E, ce, L, hx, hce, hcv, hcl, hW₂, hsm, hL⟩
  · obtain ⟨⟨v, rfl⟩, hW₂, e2, q2, q3, q4, q5, q6⟩ := id hfe
    have e3 : s₂ = ({ (U.calling g mk a).setFrames s₂.frames with heap := s₂.heap, slotsUsed := s₂.slotsUsed } : State).setVm s₂.vm := by
      have : s₂ = ({ s₂ with vm := (U.calling g mk a).vm } : State).setVm s₂.vm := rfl
      rw [e2] at this
      exact this
    obtain ⟨c₂, i₂, len₂, hc₂, hd₂, hf₂⟩ := hend
    have hW' : U.WarmedH s₂.vm := hW₂
    have hcc : c₂ = c := by
      have h1 : s₂.code? g.method = U.code? g.method := by
        rw [State.code?_eq, State.code?_eq, hW'.alike.method?]
      exact Option.some.inj (hc₂.symm.trans (h1.trans h.code))
    subst hcc
    have hlen : len₂ = len := by rw [hdg] at hd₂; cases hd₂; rfl
    subst hlen
    have hs₂ : s₂ = (({ U with heap := s₂.heap, slotsUsed := s₂.slotsUsed } : State).setVm s₂.vm).setTop { g with pc := g.pc + len₂, stack := v.toList ++ g.stack } := by
      refine e3.trans ?_
      rw [hf₂, State.calling_eq h.top, State.setFrames_setFrames, State.setTop_of_frames _ hr', hr]
      rfl
    have hsame : U.sameButNew ({ U with heap := s₂.heap, slotsUsed := s₂.slotsUsed } : State) L mc ms := by
      refine ⟨?_, q2, q3, q4, q5, q6⟩
      obtain ⟨t, ht, -⟩ := State.frames_cons hr
      show ({ U with heap := s₂.heap, slotsUsed := s₂.slotsUsed } : State) = { U.setFrames U.frames with heap := s₂.heap, slotsUsed := s₂.slotsUsed }
      rw [State.setFrames_self ht]
    subst hg
    refine Or.inl ⟨v, ⟨(({ U with heap := s₂.heap, slotsUsed := s₂.slotsUsed } : State).setVm s₂.vm), Ls ++ L, c0 + mc, s0 + ms⟩,
      ⟨X.admits, X.cas, X.clock, X.frames, X.room, X.hears, X.method, X.code, (X.here.setHeapUsed s₂.heap s₂.slotsUsed).setVm hW'.alike, X.tail, State.WarmedH.trans X.warmed hW', X.limits, X.bytes, X.same.trans (hsame.setVm s.vm)⟩,
      ⟨g, mk, s₂, L, rfl, rfl, hqc, rfl, hL, rfl, rfl⟩, ?_⟩
    show Steps p.tables e below _ ((({ U with heap := s₂.heap, slotsUsed := s₂.slotsUsed } : State).setVm s₂.vm).setTop { g with pc := g.pc + len₂, stack := v.toList ++ g.stack })
    rw [← hs₂]
    exact hsteps
  · obtain ⟨e2, q2, q3, q4, q5, q6⟩ := id hsm
    have e3 : s₂ = ({ (U.calling g mk a).setFrames s₂.frames with heap := s₂.heap, slotsUsed := s₂.slotsUsed } : State).setVm s₂.vm := by
      have : s₂ = ({ s₂ with vm := (U.calling g mk a).vm } : State).setVm s₂.vm := rfl
      rw [e2] at this
      exact this
    have hf₂ : s₂.frames = .throwing q :: .java g :: U.frames.tail := hend
    have hW' : U.WarmedH s₂.vm := hW₂
    have hs₂ : s₂ = ((({ U with heap := s₂.heap, slotsUsed := s₂.slotsUsed } : State).setVm s₂.vm).setTop g).pushFrame (.throwing q) := by
      refine e3.trans ?_
      rw [hf₂, State.calling_eq h.top, State.setFrames_setFrames, State.pushFrame, State.frames_setTop _ hr', State.setTop_of_frames _ hr', State.setFrames_setFrames, hr]
      rfl
    have hsame : U.sameButNew ({ U with heap := s₂.heap, slotsUsed := s₂.slotsUsed } : State) L mc ms := by
      refine ⟨?_, q2, q3, q4, q5, q6⟩
      obtain ⟨t, ht, -⟩ := State.frames_cons hr
      show ({ U with heap := s₂.heap, slotsUsed := s₂.slotsUsed } : State) = { U.setFrames U.frames with heap := s₂.heap, slotsUsed := s₂.slotsUsed }
      rw [State.setFrames_self ht]
    subst hg
    refine Or.inr ⟨q, ⟨(({ U with heap := s₂.heap, slotsUsed := s₂.slotsUsed } : State).setVm s₂.vm), Ls ++ L, c0 + mc, s0 + ms⟩,
      ⟨X.admits, X.cas, X.clock, X.frames, X.room, X.hears, X.method, X.code, (X.here.setHeapUsed s₂.heap s₂.slotsUsed).setVm hW'.alike, X.tail, State.WarmedH.trans X.warmed hW', X.limits, X.bytes, X.same.trans (hsame.setVm s.vm)⟩,
      ⟨g, mk, s₂, L, E, ce, rfl, rfl, hx, hce, hcv, hcl, rfl, hL, rfl, rfl⟩, ?_⟩
    show Steps p.tables e below _ (((({ U with heap := s₂.heap, slotsUsed := s₂.slotsUsed } : State).setVm s₂.vm).setTop g).pushFrame (.throwing q))
    rw [← hs₂]
    exact hsteps
end Payer
section Calls
variable {p : Program} {l : Launch} {e : Env} {R : Room} {s : State} {m : MethodId} {args : Array Value} {below : List Frame} {meth : Method} {c : Code} {T : State} {locs : List Loc} {cells slots : Nat}
theorem vx_callV (X : Stand p l e R s m args below meth c T locs cells slots) (hexec : p.tables.exec = Jvm.exec) {own C : String} {index : Nat} {y : MethodName} {bytes : ByteArray} {maxL : Nat} {ret : Option FieldType}
    (hown : s.vm.findClass own = some m.cls) (hlink : (Cond.methodLink own index y).before args s = true) (hinst : (Cond.instanceMethod y).before args s = true) (hsel : (Cond.selects C y y).before args s = true)
    (hcode : (Cond.code y bytes maxL ret).before args s = true) (hy : y.cls ≠ "java/lang/invoke/MethodHandle" ∧ y.cls ≠ "java/lang/invoke/VarHandle")
    {W9 : Nat} {Pre : Pt → Array Value → Prop} {Post : Pt → Array Value → Option Value → Pt → Prop} {PostX : Pt → Array Value → Addr → Pt → Prop} (hK : vx_Back l R p e below s args y 3 W9 Pre Post PostX)
    {b : Addr} {cellB : Cell} (hcell : T.heap[b]? = some cellB) (hobj : cellB.vm.isStatics = false) (hcls : s.vm.findClass C = some cellB.cls)
    {g : JFrame} (hg : g.method = m) (hsize : g.locals.size = c.maxLocals) {argsL rest : List Value} (hlen : ∀ sig, parseMethodDescriptor y.desc = some sig → argsL.length = sig.parameters.length)
    (hstack : g.stack = argsL.reverse ++ .ref b :: rest) (hW : 2 * g.monitorRoom + (rest.map fun v => v.category).sum ≤ W9) (hdg : decode c.code g.pc = .ok (.invokevirtual index, 3))
    (hpre : ∀ vm₁, s.WarmedH vm₁ → Pre ⟨T.setVm vm₁, locs, cells, slots⟩ (Value.ref b :: argsL).toArray) :
    (∃ (v : Option Value) (vm₁ : Vm) (B : Pt), s.WarmedH vm₁ ∧ Stand p l e R s m args below meth c B.U B.locs B.cells B.slots ∧ Post ⟨T.setVm vm₁, locs, cells, slots⟩ (Value.ref b :: argsL).toArray v B ∧
      ∀ target, Steps p.tables e below (B.U.setTop { g with pc := g.pc + 3, stack := v.toList ++ rest }) target → Steps p.tables e below (T.setTop g) target) ∨
    (∃ (q : Addr) (vm₁ : Vm) (B : Pt), s.WarmedH vm₁ ∧ Stand p l e R s m args below meth c B.U B.locs B.cells B.slots ∧ PostX ⟨T.setVm vm₁, locs, cells, slots⟩ (Value.ref b :: argsL).toArray q B ∧
      Steps p.tables e below (T.setTop g) ((B.U.setTop { g with stack := rest }).pushFrame (.throwing q))) := by
  obtain ⟨mk, methM, hnamed, hmethM, hstM, habM⟩ := Cond.instanceMethod_spec hinst
  obtain ⟨methM', cM, hmethM', -, -, -, -, -, -, hsigM⟩ := Cond.code_spec hnamed hcode
  cases hmethM.symm.trans hmethM'
  obtain ⟨c2, r2, m2, q1, q2, q3, q4, kP, hkP, hkPi⟩ := Cond.selects_spec hsel
  cases hcls.symm.trans q1
  cases (State.methodFound?_of_named hnamed hy).symm.trans q2
  cases hnamed.symm.trans q3
  have hselP : selectMethod e.platform s.vm cellB.cls mk = .method mk := by rw [Launch.admits_selectMethod X.admits]; exact q4
  obtain ⟨vm₁, X₁, hstep₁⟩ := X.invokevirtual hexec hown hlink hnamed hmethM hstM hkP hkPi hy (a := b) (cell := cellB) hcell
    (fun z h => by rw [h] at hobj; cases hobj) hselP hmethM habM hkP hkPi (g := g) hg (argsL := argsL) (rest := rest) (hlen _ hsigM) hstack hdg
  rcases hK m meth c ⟨T.setVm vm₁, locs, cells, slots⟩ { g with stack := rest } (.invokevirtual index) mk (Value.ref b :: argsL).toArray X₁ hg hsize hdg hW (X₁.named hnamed) (hpre vm₁ X₁.warmed) with ⟨v, B, X', hpost, hsteps⟩ | ⟨q, B, X', hpost, hsteps⟩
  · exact Or.inl ⟨v, vm₁, B, X₁.warmed, X', hpost, fun target h => hstep₁ _ fun acts => by rw [doInvoke_state]; exact hsteps.trans h⟩
  · exact Or.inr ⟨q, vm₁, B, X₁.warmed, X', hpost, hstep₁ _ fun acts => by rw [doInvoke_state]; exact hsteps⟩
theorem vx_callS (X : Stand p l e R s m args below meth c T locs cells slots) (hexec : p.tables.exec = Jvm.exec) {own : String} {index : Nat} {y : MethodName} {bytes : ByteArray} {maxL : Nat} {ret : Option FieldType}
    (hown : s.vm.findClass own = some m.cls) (hlink : (Cond.methodLink own index y).before args s = true) (hstat : (Cond.static y).before args s = true) (hinit : (Cond.initialized y.cls).before args s = true)
    (hcode : (Cond.code y bytes maxL ret).before args s = true) (hy : y.cls ≠ "java/lang/invoke/MethodHandle" ∧ y.cls ≠ "java/lang/invoke/VarHandle")
    {W9 : Nat} {Pre : Pt → Array Value → Prop} {Post : Pt → Array Value → Option Value → Pt → Prop} {PostX : Pt → Array Value → Addr → Pt → Prop} (hK : vx_Back l R p e below s args y 3 W9 Pre Post PostX)
    {g : JFrame} (hg : g.method = m) (hsize : g.locals.size = c.maxLocals) {argsL rest : List Value} (hlen : ∀ sig, parseMethodDescriptor y.desc = some sig → argsL.length = sig.parameters.length)
    (hstack : g.stack = argsL.reverse ++ rest) (hW : 2 * g.monitorRoom + (rest.map fun v => v.category).sum ≤ W9) (hdg : decode c.code g.pc = .ok (.invokestatic index, 3))
    (hpre : ∀ vm₁, s.WarmedH vm₁ → Pre ⟨T.setVm vm₁, locs, cells, slots⟩ argsL.toArray) :
    (∃ (v : Option Value) (vm₁ : Vm) (B : Pt), s.WarmedH vm₁ ∧ Stand p l e R s m args below meth c B.U B.locs B.cells B.slots ∧ Post ⟨T.setVm vm₁, locs, cells, slots⟩ argsL.toArray v B ∧
      ∀ target, Steps p.tables e below (B.U.setTop { g with pc := g.pc + 3, stack := v.toList ++ rest }) target → Steps p.tables e below (T.setTop g) target) ∨
    (∃ (q : Addr) (vm₁ : Vm) (B : Pt), s.WarmedH vm₁ ∧ Stand p l e R s m args below meth c B.U B.locs B.cells B.slots ∧ PostX ⟨T.setVm vm₁, locs, cells, slots⟩ argsL.toArray q B ∧
      Steps p.tables e below (T.setTop g) ((B.U.setTop { g with stack := rest }).pushFrame (.throwing q))) := by
  obtain ⟨mk, hnamed⟩ := Cond.code_named hcode
  obtain ⟨methM, cM, hmethM, -, -, -, -, -, -, hsigM⟩ := Cond.code_spec hnamed hcode
  have hstatic : methM.isStatic = true := Cond.static_spec hnamed hmethM hstat
  obtain ⟨kP, hkP, -⟩ := className_of_methodNamed hnamed
  have hinitP : kP.init = .initialized := Cond.initialized_spec (findClass_of_methodNamed hnamed) hkP hinit
  obtain ⟨vm₁, X₁, hstep₁⟩ := X.invokestatic hexec hown hlink hnamed hmethM hstatic hkP hinitP hy (g := g) hg (argsL := argsL) (rest := rest) (hlen _ hsigM) hstack hdg
  rcases hK m meth c ⟨T.setVm vm₁, locs, cells, slots⟩ { g with stack := rest } (.invokestatic index) mk argsL.toArray X₁ hg hsize hdg hW (X₁.named hnamed) (hpre vm₁ X₁.warmed) with ⟨v, B, X', hpost, hsteps⟩ | ⟨q, B, X', hpost, hsteps⟩
  · exact Or.inl ⟨v, vm₁, B, X₁.warmed, X', hpost, fun target h => hstep₁ _ fun acts => by rw [doInvoke_state]; exact hsteps.trans h⟩
  · exact Or.inr ⟨q, vm₁, B, X₁.warmed, X', hpost, hstep₁ _ fun acts => by rw [doInvoke_state]; exact hsteps⟩
end Calls
theorem vx_cls {s : State} {T : State} {vm₁ : Vm} {E : String} {k : ClassId} (hW : s.WarmedH vm₁) (h : (T.setVm vm₁).vm.findClass E = some k) : s.vm.findClass E = some k := by
  have h1 : vm₁.findClass E = some k := h
  rw [hW.alike.findClass] at h1
  exact h1
/-- the method's frame g, with q thrown over it -/
def vx_W (p : Program) (l : Launch) (e : Env) (R : Room) (s : State) (m : MethodId) (args : Array Value) (below : List Frame) (meth : Method) (c : Code) (H : Heap) (locs : List Loc) (cells slots : Nat) (Q : State → Prop) (g : JFrame) (q : Addr) : Prop :=
  ∀ T : State, T.heap = H → Stand p l e R s m args below meth c T locs cells slots → ∃ t, Steps p.tables e below ((T.setTop g).pushFrame (.throwing q)) t ∧ Q t
def vx_Run (p : Program) (l : Launch) (e : Env) (R : Room) (s : State) (m : MethodId) (args : Array Value) (below : List Frame) (meth : Method) (c : Code) (H : Heap) (locs : List Loc) (cells slots mc ms : Nat) (g : JFrame) (rest : List Value) (Qa : State → Outcome → State → Prop) (XC : String → State → State → Prop) (free : Addr → Prop) : Prop :=
  ∀ T : State, T.heap = H → Stand p l e R s m args below meth c T locs cells slots →
    (∃ (v : Option Value) (st₀ t T' : State) (L : List Loc), st₀.heap = H ∧ Stand p l e R s m args below meth c T' (locs ++ L) (cells + mc) (slots + ms) ∧ (∀ q ∈ L, free q.base) ∧ T'.heap = t.heap ∧ T'.vm = t.vm ∧ Qa st₀ (.returned v) t ∧
      Goes p e below T g T' { g with pc := g.pc + 3, stack := v.toList ++ rest }) ∨
    (∃ (q : Addr) (st₀ t T' : State) (L : List Loc) (E : String) (ce : Cell), st₀.heap = H ∧ Stand p l e R s m args below meth c T' (locs ++ L) (cells + mc) (slots + ms) ∧ (∀ z ∈ L, free z.base) ∧ T'.heap = t.heap ∧ T'.vm = t.vm ∧ XC E st₀ t ∧ t.heap[q]? = some ce ∧ ce.vm = .none ∧ s.vm.findClass E = some ce.cls ∧
      Steps p.tables e below (T.setTop g) ((T'.setTop { g with stack := rest }).pushFrame (.throwing q)))
def vx_X {S : Type} (px : S → Prop) (B : String → S → State → Prop) (A : Nat → Prop) : String → State → State → Prop := fun E st t => ∃ u : S, px u ∧ B E u t ∧ va_F A st t
section Runs
variable {p : Program} {l : Launch} {e : Env} {R : Room} {s : State} {m : MethodId} {args : Array Value} {below : List Frame} {meth : Method} {c : Code} {H : Heap} {locs : List Loc} {cells slots : Nat}
variable {y : MethodName} {bytes cc : ByteArray} {maxL nL mc ms n index : Nat} {ret : Option FieldType} {ws : List Cond} {rm : Room} {Pc : Array Value → State → Prop} {Qc : Array Value → State → Outcome → State → Prop} {XC : String → State → State → Prop} {free : Addr → Prop} {Ts : List Cond} {own C : String} {b : Addr} {As rest : List Value} {g : JFrame}
theorem vx_callBack (cb : CallB R s args own index y bytes maxL ret ws rm mc ms n) (hM : vx_Met l y ws rm Pc Qc XC mc ms free) (hbl : FrameBlind Pc) : vx_Back l R p e below s args y 3 8 (PreOf R mc ms Pc) (PostOf Qc mc ms free) (vx_Post XC mc ms free) := by
  obtain ⟨hrc, hrs, hfr, hlo, hws, hcw, -, hini, -⟩ := cb
  exact vx_back (bytes := bytes) (maxL := maxL) (ret := ret) hM hbl hrc hrs hfr hlo hws hcw (fun a' U hW => word_at hW (Or.inl (by first | rfl | simp [Cond.onTables, Cond.keeps, Cond.steady])) hini)
theorem vx_runV (S : CallFix p m c cc nL s args Ts own) (hM : vx_Met l y ws rm Pc Qc XC mc ms free) (cw : CallW R s args own C index y bytes maxL ret ws rm mc ms n) (hp : PreV s H C b Pc As)
    (hg : g.method = m) (hn : As.length = n) (hsize : g.locals.size = nL) (hstack : g.stack = As.reverse ++ .ref b :: rest) (hW : 2 * g.monitorRoom + (rest.map fun v => v.category).sum ≤ 8) (hdg : decode cc g.pc = .ok (.invokevirtual index, 3)) (hf : cells + mc ≤ R.cells ∧ slots + ms ≤ R.slots) :
    vx_Run p l e R s m args below meth c H locs cells slots mc ms g rest (Qc (Value.ref b :: As).toArray) XC free := by
  have hK : vx_Back l R p e below s args y 3 8 (PreOf R mc ms Pc) (PostOf Qc mc ms free) (vx_Post XC mc ms free) := vx_callBack cw.1 hM hp.1
  obtain ⟨⟨-, -, -, -, -, -, hcode, -, hy, hlen, hl⟩, hin, hse⟩ := cw
  obtain ⟨hx, hb, hml, ho, -⟩ := S
  obtain ⟨-, ⟨cellB, hcB, hoB, hclB⟩, hPc⟩ := hp
  intro T hT X
  rcases vx_callV X hx (C := C) (bytes := bytes) (maxL := maxL) (ret := ret) ho hl hin hse hcode hy hK (by rw [hT]; exact hcB) hoB hclB hg (hsize.trans hml.symm) (argsL := As) (rest := rest) (fun sig h => hn.trans (hlen sig h)) hstack hW (by rw [hb]; exact hdg)
    (fun vm₁ hW₁ => ⟨hf.1, hf.2, hPc (T.setVm vm₁) hT hW₁⟩) with ⟨v, vm₁, ⟨U', l2, c2, s2⟩, hW₁, X', ⟨g', mk, t, L, e1, e2, hq, h1, hL, h2, h3⟩, st⟩ | ⟨q, vm₁, ⟨U', l2, c2, s2⟩, hW₁, X', ⟨g', mk, t, L, E, ce, e1, e2, hq, hce, hcv, hcl, h1, hL, h2, h3⟩, st⟩
  · dsimp only [Pt.U, Pt.locs, Pt.cells, Pt.slots] at X' e1 e2 h1 h2 h3 st
    subst h1; subst h2; subst h3
    exact Or.inl ⟨v, (T.setVm vm₁).calling g' mk (Value.ref b :: As).toArray, t, U', L, hT, X', hL, e1, e2, hq, st⟩
  · dsimp only [Pt.U, Pt.locs, Pt.cells, Pt.slots] at X' e1 e2 h1 h2 h3 st hcl
    subst h1; subst h2; subst h3
    exact Or.inr ⟨q, (T.setVm vm₁).calling g' mk (Value.ref b :: As).toArray, t, U', L, E, ce, hT, X', hL, e1, e2, hq, hce, hcv, vx_cls hW₁ hcl, st⟩
theorem vx_runS (S : CallFix p m c cc nL s args Ts own) (hM : vx_Met l y ws rm Pc Qc XC mc ms free) (cw : CallB R s args own index y bytes maxL ret ws rm mc ms n ∧ (Cond.static y).before args s = true) (hp : PreS s H Pc As)
    (hg : g.method = m) (hn : As.length = n) (hsize : g.locals.size = nL) (hstack : g.stack = As.reverse ++ rest) (hW : 2 * g.monitorRoom + (rest.map fun v => v.category).sum ≤ 8) (hdg : decode cc g.pc = .ok (.invokestatic index, 3)) (hf : cells + mc ≤ R.cells ∧ slots + ms ≤ R.slots) :
    vx_Run p l e R s m args below meth c H locs cells slots mc ms g rest (Qc As.toArray) XC free := by
  have hK : vx_Back l R p e below s args y 3 8 (PreOf R mc ms Pc) (PostOf Qc mc ms free) (vx_Post XC mc ms free) := vx_callBack cw.1 hM hp.1
  obtain ⟨⟨-, -, -, -, -, -, hcode, hini, hy, hlen, hl⟩, hstt⟩ := cw
  obtain ⟨hx, hb, hml, ho, -⟩ := S
  intro T hT X
  rcases vx_callS X hx (bytes := bytes) (maxL := maxL) (ret := ret) ho hl hstt hini hcode hy hK hg (hsize.trans hml.symm) (argsL := As) (rest := rest) (fun sig h => hn.trans (hlen sig h)) hstack hW (by rw [hb]; exact hdg)
    (fun vm₁ hW₁ => ⟨hf.1, hf.2, hp.2 (T.setVm vm₁) hT hW₁⟩) with ⟨v, vm₁, ⟨U', l2, c2, s2⟩, hW₁, X', ⟨g', mk, t, L, e1, e2, hq, h1, hL, h2, h3⟩, st⟩ | ⟨q, vm₁, ⟨U', l2, c2, s2⟩, hW₁, X', ⟨g', mk, t, L, E, ce, e1, e2, hq, hce, hcv, hcl, h1, hL, h2, h3⟩, st⟩
  · dsimp only [Pt.U, Pt.locs, Pt.cells, Pt.slots] at X' e1 e2 h1 h2 h3 st
    subst h1; subst h2; subst h3
    exact Or.inl ⟨v, (T.setVm vm₁).calling g' mk As.toArray, t, U', L, hT, X', hL, e1, e2, hq, st⟩
  · dsimp only [Pt.U, Pt.locs, Pt.cells, Pt.slots] at X' e1 e2 h1 h2 h3 st hcl
    subst h1; subst h2; subst h3
    exact Or.inr ⟨q, (T.setVm vm₁).calling g' mk As.toArray, t, U', L, E, ce, hT, X', hL, e1, e2, hq, hce, hcv, vx_cls hW₁ hcl, st⟩
end Runs
section Rows
variable {p : Program} {l : Launch} {e : Env} {R : Room} {s : State} {m : MethodId} {args : Array Value} {below : List Frame} {meth : Method} {c : Code} {H : Heap} {locs : List Loc} {cells slots : Nat} {Q : State → Prop}
variable {mc ms : Nat} {free : Addr → Prop} {A0 A1 : Nat → Prop} {H0 : Heap} {a : Array Value} {pc : Nat} {ls : Array Slot} {st0 rest : List Value}
theorem vx_keep {st₀ t T' : State} {L : List Loc} (h0 : st₀.heap = H) (e1 : T'.heap = t.heap) (hS : va_S A0 H0 H locs) (hA : ∀ q, q < H.size → A1 q → A0 q) (hf : ∀ q, free q → A0 q) (hL : ∀ q ∈ L, free q.base) (hF : va_F A1 st₀ t) :
    H.size ≤ T'.heap.size ∧ (∀ q : Nat, q < H.size → ¬ A1 q → T'.heap[q]? = H[q]?) ∧ va_S A0 H0 T'.heap (locs ++ L) := by
  obtain ⟨hz, hk⟩ := hF
  rw [h0] at hz hk
  exact ⟨by rw [e1]; exact hz, fun q h1 h2 => by rw [e1]; exact hk q h1 h2,
    ⟨Nat.le_trans hS.1 (by rw [e1]; exact hz), fun q h1 h2 => by rw [e1, hk q (Nat.lt_of_lt_of_le h1 hS.1) (fun z => h2 (hA q (Nat.lt_of_lt_of_le h1 hS.1) z))]; exact hS.2.1 q h1 h2, fun q hq => by
      rcases List.mem_append.mp hq with h | h
      · exact hS.2.2 q h
      · exact hf _ (hL q h)⟩⟩
theorem vx_calli {S SX : Type} {post : Int32 → S → Prop} {px : SX → Prop} {B : S → State → Prop} {BX : String → SX → State → Prop} {AX : Nat → Prop} (hr : vx_Run p l e R s m args below meth c H locs cells slots mc ms (F0 m pc ls st0) rest (va_Qi post B A1 a) (vx_X px BX AX) free) (hS : va_S A0 H0 H locs) (hA : ∀ q, q < H.size → A1 q → A0 q) (hf : ∀ q, free q → A0 q) (hAX : ∀ q, q < H.size → AX q → A0 q)
    (kx : ∀ (E : String) (ce : Cell) (q9 : Addr) (u : SX) (t : State) (H1 : Heap) (locs1 : List Loc), t.heap = H1 → s.vm.Alike t.vm → px u → BX E u t → H.size ≤ H1.size → (∀ q : Nat, q < H.size → ¬ AX q → H1[q]? = H[q]?) → va_S A0 H0 H1 locs1 → H1[q9]? = some ce → ce.vm = .none → s.vm.findClass E = some ce.cls → vx_W p l e R s m args below meth c H1 locs1 (cells + mc) (slots + ms) Q (F0 m pc ls rest) q9)
    (kk : ∀ (r : Int32) (u : S) (t : State) (H1 : Heap) (locs1 : List Loc), t.heap = H1 → s.vm.Alike t.vm → post r u → B u t → H.size ≤ H1.size → (∀ q : Nat, q < H.size → ¬ A1 q → H1[q]? = H[q]?) → va_S A0 H0 H1 locs1 → W p l e R s m args below meth c H1 locs1 (cells + mc) (slots + ms) Q (F0 m (pc + 3) ls (.int r :: rest))) : W p l e R s m args below meth c H locs cells slots Q (F0 m pc ls st0) := by
  intro T hT X
  rcases hr T hT X with ⟨v, st₀, t, T', L, h0, X', hL, e1, e2, ⟨⟨r, u, hv, hp, hb⟩, hF⟩, st⟩ | ⟨q, st₀, t, T', L, E, ce, h0, X', hL, e1, e2, ⟨u, hp, hb, hF⟩, hce, hcv, hcl, st⟩
  · cases hv
    obtain ⟨k1, k2, k3⟩ := vx_keep h0 e1 hS hA hf hL hF
    obtain ⟨t2, a1, b1⟩ := kk r u t T'.heap (locs ++ L) e1.symm (by rw [← e2]; exact X'.warmed.alike) hp hb k1 k2 k3 T' rfl X'
    exact ⟨t2, st t2 a1, b1⟩
  · obtain ⟨k1, k2, k3⟩ := vx_keep h0 e1 hS hAX hf hL hF
    obtain ⟨t2, a1, b1⟩ := kx E ce q u t T'.heap (locs ++ L) e1.symm (by rw [← e2]; exact X'.warmed.alike) hp hb k1 k2 k3 (by rw [e1]; exact hce) hcv hcl T' rfl X'
    exact ⟨t2, st.trans a1, b1⟩
theorem vx_calll {S SX : Type} {post : Int64 → S → Prop} {px : SX → Prop} {B : S → State → Prop} {BX : String → SX → State → Prop} {AX : Nat → Prop} (hr : vx_Run p l e R s m args below meth c H locs cells slots mc ms (F0 m pc ls st0) rest (va_Ql post B A1 a) (vx_X px BX AX) free) (hS : va_S A0 H0 H locs) (hA : ∀ q, q < H.size → A1 q → A0 q) (hf : ∀ q, free q → A0 q) (hAX : ∀ q, q < H.size → AX q → A0 q)
    (kx : ∀ (E : String) (ce : Cell) (q9 : Addr) (u : SX) (t : State) (H1 : Heap) (locs1 : List Loc), t.heap = H1 → s.vm.Alike t.vm → px u → BX E u t → H.size ≤ H1.size → (∀ q : Nat, q < H.size → ¬ AX q → H1[q]? = H[q]?) → va_S A0 H0 H1 locs1 → H1[q9]? = some ce → ce.vm = .none → s.vm.findClass E = some ce.cls → vx_W p l e R s m args below meth c H1 locs1 (cells + mc) (slots + ms) Q (F0 m pc ls rest) q9)
    (kk : ∀ (r : Int64) (u : S) (t : State) (H1 : Heap) (locs1 : List Loc), t.heap = H1 → s.vm.Alike t.vm → post r u → B u t → H.size ≤ H1.size → (∀ q : Nat, q < H.size → ¬ A1 q → H1[q]? = H[q]?) → va_S A0 H0 H1 locs1 → W p l e R s m args below meth c H1 locs1 (cells + mc) (slots + ms) Q (F0 m (pc + 3) ls (.long r :: rest))) : W p l e R s m args below meth c H locs cells slots Q (F0 m pc ls st0) := by
  intro T hT X
  rcases hr T hT X with ⟨v, st₀, t, T', L, h0, X', hL, e1, e2, ⟨⟨r, u, hv, hp, hb⟩, hF⟩, st⟩ | ⟨q, st₀, t, T', L, E, ce, h0, X', hL, e1, e2, ⟨u, hp, hb, hF⟩, hce, hcv, hcl, st⟩
  · cases hv
    obtain ⟨k1, k2, k3⟩ := vx_keep h0 e1 hS hA hf hL hF
    obtain ⟨t2, a1, b1⟩ := kk r u t T'.heap (locs ++ L) e1.symm (by rw [← e2]; exact X'.warmed.alike) hp hb k1 k2 k3 T' rfl X'
    exact ⟨t2, st t2 a1, b1⟩
  · obtain ⟨k1, k2, k3⟩ := vx_keep h0 e1 hS hAX hf hL hF
    obtain ⟨t2, a1, b1⟩ := kx E ce q u t T'.heap (locs ++ L) e1.symm (by rw [← e2]; exact X'.warmed.alike) hp hb k1 k2 k3 (by rw [e1]; exact hce) hcv hcl T' rfl X'
    exact ⟨t2, st.trans a1, b1⟩
theorem vx_callf {S SX : Type} {post : UInt32 → S → Prop} {px : SX → Prop} {B : S → State → Prop} {BX : String → SX → State → Prop} {AX : Nat → Prop} (hr : vx_Run p l e R s m args below meth c H locs cells slots mc ms (F0 m pc ls st0) rest (va_Qf post B A1 a) (vx_X px BX AX) free) (hS : va_S A0 H0 H locs) (hA : ∀ q, q < H.size → A1 q → A0 q) (hf : ∀ q, free q → A0 q) (hAX : ∀ q, q < H.size → AX q → A0 q)
    (kx : ∀ (E : String) (ce : Cell) (q9 : Addr) (u : SX) (t : State) (H1 : Heap) (locs1 : List Loc), t.heap = H1 → s.vm.Alike t.vm → px u → BX E u t → H.size ≤ H1.size → (∀ q : Nat, q < H.size → ¬ AX q → H1[q]? = H[q]?) → va_S A0 H0 H1 locs1 → H1[q9]? = some ce → ce.vm = .none → s.vm.findClass E = some ce.cls → vx_W p l e R s m args below meth c H1 locs1 (cells + mc) (slots + ms) Q (F0 m pc ls rest) q9)
    (kk : ∀ (r : UInt32) (u : S) (t : State) (H1 : Heap) (locs1 : List Loc), t.heap = H1 → s.vm.Alike t.vm → post r u → B u t → H.size ≤ H1.size → (∀ q : Nat, q < H.size → ¬ A1 q → H1[q]? = H[q]?) → va_S A0 H0 H1 locs1 → W p l e R s m args below meth c H1 locs1 (cells + mc) (slots + ms) Q (F0 m (pc + 3) ls (.float r :: rest))) : W p l e R s m args below meth c H locs cells slots Q (F0 m pc ls st0) := by
  intro T hT X
  rcases hr T hT X with ⟨v, st₀, t, T', L, h0, X', hL, e1, e2, ⟨⟨r, u, hv, hp, hb⟩, hF⟩, st⟩ | ⟨q, st₀, t, T', L, E, ce, h0, X', hL, e1, e2, ⟨u, hp, hb, hF⟩, hce, hcv, hcl, st⟩
  · cases hv
    obtain ⟨k1, k2, k3⟩ := vx_keep h0 e1 hS hA hf hL hF
    obtain ⟨t2, a1, b1⟩ := kk r u t T'.heap (locs ++ L) e1.symm (by rw [← e2]; exact X'.warmed.alike) hp hb k1 k2 k3 T' rfl X'
    exact ⟨t2, st t2 a1, b1⟩
  · obtain ⟨k1, k2, k3⟩ := vx_keep h0 e1 hS hAX hf hL hF
    obtain ⟨t2, a1, b1⟩ := kx E ce q u t T'.heap (locs ++ L) e1.symm (by rw [← e2]; exact X'.warmed.alike) hp hb k1 k2 k3 (by rw [e1]; exact hce) hcv hcl T' rfl X'
    exact ⟨t2, st.trans a1, b1⟩
theorem vx_calld {S SX : Type} {post : UInt64 → S → Prop} {px : SX → Prop} {B : S → State → Prop} {BX : String → SX → State → Prop} {AX : Nat → Prop} (hr : vx_Run p l e R s m args below meth c H locs cells slots mc ms (F0 m pc ls st0) rest (va_Qd post B A1 a) (vx_X px BX AX) free) (hS : va_S A0 H0 H locs) (hA : ∀ q, q < H.size → A1 q → A0 q) (hf : ∀ q, free q → A0 q) (hAX : ∀ q, q < H.size → AX q → A0 q)
    (kx : ∀ (E : String) (ce : Cell) (q9 : Addr) (u : SX) (t : State) (H1 : Heap) (locs1 : List Loc), t.heap = H1 → s.vm.Alike t.vm → px u → BX E u t → H.size ≤ H1.size → (∀ q : Nat, q < H.size → ¬ AX q → H1[q]? = H[q]?) → va_S A0 H0 H1 locs1 → H1[q9]? = some ce → ce.vm = .none → s.vm.findClass E = some ce.cls → vx_W p l e R s m args below meth c H1 locs1 (cells + mc) (slots + ms) Q (F0 m pc ls rest) q9)
    (kk : ∀ (r : UInt64) (u : S) (t : State) (H1 : Heap) (locs1 : List Loc), t.heap = H1 → s.vm.Alike t.vm → post r u → B u t → H.size ≤ H1.size → (∀ q : Nat, q < H.size → ¬ A1 q → H1[q]? = H[q]?) → va_S A0 H0 H1 locs1 → W p l e R s m args below meth c H1 locs1 (cells + mc) (slots + ms) Q (F0 m (pc + 3) ls (.double r :: rest))) : W p l e R s m args below meth c H locs cells slots Q (F0 m pc ls st0) := by
  intro T hT X
  rcases hr T hT X with ⟨v, st₀, t, T', L, h0, X', hL, e1, e2, ⟨⟨r, u, hv, hp, hb⟩, hF⟩, st⟩ | ⟨q, st₀, t, T', L, E, ce, h0, X', hL, e1, e2, ⟨u, hp, hb, hF⟩, hce, hcv, hcl, st⟩
  · cases hv
    obtain ⟨k1, k2, k3⟩ := vx_keep h0 e1 hS hA hf hL hF
    obtain ⟨t2, a1, b1⟩ := kk r u t T'.heap (locs ++ L) e1.symm (by rw [← e2]; exact X'.warmed.alike) hp hb k1 k2 k3 T' rfl X'
    exact ⟨t2, st t2 a1, b1⟩
  · obtain ⟨k1, k2, k3⟩ := vx_keep h0 e1 hS hAX hf hL hF
    obtain ⟨t2, a1, b1⟩ := kx E ce q u t T'.heap (locs ++ L) e1.symm (by rw [← e2]; exact X'.warmed.alike) hp hb k1 k2 k3 (by rw [e1]; exact hce) hcv hcl T' rfl X'
    exact ⟨t2, st.trans a1, b1⟩
theorem vx_callv {S SX : Type} {post : S → Prop} {px : SX → Prop} {B : S → State → Prop} {BX : String → SX → State → Prop} {AX : Nat → Prop} (hr : vx_Run p l e R s m args below meth c H locs cells slots mc ms (F0 m pc ls st0) rest (va_Qv post B A1 a) (vx_X px BX AX) free) (hS : va_S A0 H0 H locs) (hA : ∀ q, q < H.size → A1 q → A0 q) (hf : ∀ q, free q → A0 q) (hAX : ∀ q, q < H.size → AX q → A0 q)
    (kx : ∀ (E : String) (ce : Cell) (q9 : Addr) (u : SX) (t : State) (H1 : Heap) (locs1 : List Loc), t.heap = H1 → s.vm.Alike t.vm → px u → BX E u t → H.size ≤ H1.size → (∀ q : Nat, q < H.size → ¬ AX q → H1[q]? = H[q]?) → va_S A0 H0 H1 locs1 → H1[q9]? = some ce → ce.vm = .none → s.vm.findClass E = some ce.cls → vx_W p l e R s m args below meth c H1 locs1 (cells + mc) (slots + ms) Q (F0 m pc ls rest) q9)
    (kk : ∀ (u : S) (t : State) (H1 : Heap) (locs1 : List Loc), t.heap = H1 → s.vm.Alike t.vm → post u → B u t → H.size ≤ H1.size → (∀ q : Nat, q < H.size → ¬ A1 q → H1[q]? = H[q]?) → va_S A0 H0 H1 locs1 → W p l e R s m args below meth c H1 locs1 (cells + mc) (slots + ms) Q (F0 m (pc + 3) ls (rest))) : W p l e R s m args below meth c H locs cells slots Q (F0 m pc ls st0) := by
  intro T hT X
  rcases hr T hT X with ⟨v, st₀, t, T', L, h0, X', hL, e1, e2, ⟨⟨u, hv, hp, hb⟩, hF⟩, st⟩ | ⟨q, st₀, t, T', L, E, ce, h0, X', hL, e1, e2, ⟨u, hp, hb, hF⟩, hce, hcv, hcl, st⟩
  · cases hv
    obtain ⟨k1, k2, k3⟩ := vx_keep h0 e1 hS hA hf hL hF
    obtain ⟨t2, a1, b1⟩ := kk u t T'.heap (locs ++ L) e1.symm (by rw [← e2]; exact X'.warmed.alike) hp hb k1 k2 k3 T' rfl X'
    exact ⟨t2, st t2 a1, b1⟩
  · obtain ⟨k1, k2, k3⟩ := vx_keep h0 e1 hS hAX hf hL hF
    obtain ⟨t2, a1, b1⟩ := kx E ce q u t T'.heap (locs ++ L) e1.symm (by rw [← e2]; exact X'.warmed.alike) hp hb k1 k2 k3 (by rw [e1]; exact hce) hcv hcl T' rfl X'
    exact ⟨t2, st.trans a1, b1⟩
/-- caught by the row x of this method's table; the rows ahead don't take it -/
theorem vx_catch {own name : String} {E : String} {ce : Cell} {q : Addr} (hown : s.vm.findClass own = some m.cls) (pre : List ExceptionTableEntry) (x : ExceptionTableEntry) (suf : List ExceptionTableEntry) (hsplit : c.exceptionTable.toList = pre ++ x :: suf)
    (hpass : ∀ z ∈ pre, covers z pc = false ∨ (z.catchType ≠ 0 ∧ ∃ nm : String, (Cond.classLink own z.catchType nm).before args s = true ∧ va_Nc E nm s)) (hx : covers x pc = true) (h0 : x.catchType ≠ 0)
    (hlink : (Cond.classLink own x.catchType name).before args s = true) (hcast : (Cond.castable E name).before args s = true) (hcell : H[q]? = some ce) (hv : ce.vm = .none) (hcl : s.vm.findClass E = some ce.cls)
    (kk : W p l e R s m args below meth c H locs cells slots Q (F0 m x.handlerPc ls [.ref q])) : vx_W p l e R s m args below meth c H locs cells slots Q (F0 m pc ls rest) q := by
  intro T hT X
  have hpl : e.platform.magicAccessors = ({} : Platform).magicAccessors := by rw [X.admits.platform]
  obtain ⟨c3, c4, hc3, hc4, hasg⟩ := Cond.castable_spec hcast
  cases Option.some.inj (hc3.symm.trans hcl)
  obtain ⟨c5, hc5, hcl5⟩ := Cond.classLink_spec hown hlink e.platform hpl
  cases Option.some.inj (hc4.symm.trans hc5)
  obtain ⟨vm', X', st⟩ := X.thenCaughtThrough q (g := F0 m pc ls rest) rfl (Steps.refl _) (by rw [hT]; exact hcell) (by rw [hv]; rfl) (by obtain ⟨k9, h9, -⟩ := Vm.findClass_spec hcl; exact ⟨k9, h9⟩) pre x suf hsplit
    (fun z hz => by
      rcases hpass z hz with h | ⟨hz0, nm, hl1, hn1⟩
      · exact Or.inl h
      · obtain ⟨c6, hc6, hcl6⟩ := Cond.classLink_spec hown hl1 e.platform hpl
        obtain ⟨a8, b8, h1, h2, h3⟩ := hn1
        cases Option.some.inj (h1.symm.trans hcl)
        cases Option.some.inj (h2.symm.trans hc6)
        exact Or.inr ⟨hz0, _, hcl6, h3⟩) hx (Or.inr ⟨h0, c4, hcl5, hasg⟩)
  obtain ⟨t, a1, b1⟩ := kk (T.setVm vm') hT X'
  exact ⟨t, st.trans a1, b1⟩
end Rows
section Ends
variable {p : Program} {l : Launch} {e : Env} {R : Room} {s : State} {m : MethodId} {args : Array Value} {below : List Frame} {meth : Method} {c : Code} {H : Heap} {locs : List Loc} {cells slots : Nat} {Q : State → Prop}
variable {mc ms : Nat} {free : Addr → Prop} {A0 A1 : Nat → Prop} {H0 : Heap} {a : Array Value} {ls : Array Slot} {st0 rest : List Value}
variable {Qc : Array Value → State → Outcome → State → Prop} {XC : String → State → State → Prop}
/-- what a body that may throw owes at its end -/
def vx_MQ (below : List Frame) (Qc : Array Value → State → Outcome → State → Prop) (XC : String → State → State → Prop) (a : Array Value) (s : State) (mc ms : Nat) (free : Addr → Prop) : State → Prop := fun t =>
  ∃ o, t.status = .running ∧ Ended t below o ∧ vx_Q Qc XC mc ms free a s o t
theorem vx_ret {g : JFrame} {mc ms : Nat} (k : W p l e R s m args below meth c H locs cells slots (MQ below Qc args s mc ms free) g) : W p l e R s m args below meth c H locs cells slots (vx_MQ below Qc XC args s mc ms free) g := by
  intro T hT X
  obtain ⟨t, a1, o, b1, b2, b3, b4⟩ := k T hT X
  exact ⟨t, a1, o, b1, b2, Or.inl ⟨b3, b4⟩⟩
/-- not caught here: it goes on to the caller -/
theorem vx_widen {g : JFrame} {q : Addr} {k n : Nat} (h1 : cells ≤ k) (h2 : slots ≤ n) (kk : vx_W p l e R s m args below meth c H locs k n Q g q) : vx_W p l e R s m args below meth c H locs cells slots Q g q := fun T hT X => kk T hT (stand_widen X h1 h2)
theorem vx_out {pc : Nat} {E : String} {ce : Cell} {q : Addr} {mc ms : Nat} (hout : ∀ x ∈ c.exceptionTable.toList, covers x pc = false) (hlocks : meth.locks = false) (hcell : H[q]? = some ce) (hv : ce.vm = .none) (hcl : s.vm.findClass E = some ce.cls)
    (hx : ∀ t : State, t.heap = H → s.vm.Alike t.vm → XC E s t) (hf : ∀ z ∈ locs, free z.base) (hc : cells ≤ mc) (hs : slots ≤ ms) :
    vx_W p l e R s m args below meth c H locs cells slots (vx_MQ below Qc XC args s mc ms free) (F0 m pc ls rest) q := by
  intro T hT X
  obtain ⟨st1, hrun, hend, hW, hsm⟩ := X.leaveThrown q (g := F0 m pc ls rest) rfl rfl rfl hout hlocks
  have hcell9 : (T.setFrames (.throwing q :: below)).heap[q]? = some ce := by
    show T.heap[q]? = some ce
    rw [hT]; exact hcell
  exact ⟨_, st1, .threw q, hrun, hend, Or.inr ⟨q, rfl, E, ce, locs, hx _ hT hW.alike, hcell9, hv, hcl, hW, hsm.mono hc hs, hf⟩⟩
theorem vx_frame {U : State} {k n : Nat} (h : s.sameButNew ({ U with vm := s.vm } : State) locs k n) : s.heap.size ≤ U.heap.size ∧ ∀ q : Nat, q < s.heap.size → (∀ z ∈ locs, z.base ≠ q) → U.heap[q]? = s.heap[q]? := by
  obtain ⟨-, h2, -, -, -, h6⟩ := h
  refine ⟨h2, fun q hq hz => ?_⟩
  obtain ⟨c9, e1, e2, e3, e4⟩ := h6 q _ (Array.getElem?_eq_getElem hq)
  have hs : c9.slots = (s.heap[q]).slots := Array.ext_getElem? fun i => e4 i fun hm => hz _ hm rfl
  have h9 : c9 = s.heap[q] := by
    rw [hs] at e2
    exact e2
  have e5 : U.heap[q]? = some c9 := e1
  rw [e5, h9, Array.getElem?_eq_getElem hq]
/-- the words of a throw but the four that speak of the heap -/
def vx_no (w : Cond) : Bool := decide (w ≠ .isRef (.static Bundle.tN "UNASSIGNED_STACK" Bundle.steD)) && decide (w ≠ .isRef (.static Bundle.tN "SUPPRESSED_SENTINEL" Bundle.listD)) && decide (w ≠ .laysStatic Bundle.tN "UNASSIGNED_STACK" Bundle.steD) && decide (w ≠ .laysStatic Bundle.tN "SUPPRESSED_SENTINEL" Bundle.listD)
def vx_at0 (own : String) (ic : Nat) (X : String) (names : List String) : List Cond := (Bundle.ownAtoms0 own ic X names).filter vx_no
def vx_atS (own : String) (ic : Nat) (X : String) (names : List String) : List Cond := (Bundle.ownAtoms own ic X names).filter vx_no
/-- a word that the tables alone decide, or a good one -/
def vx_ot (w : Cond) : Bool := w.onTables || goodWord w
theorem vx_ot_at {args a' : Array Value} {s U : State} {w : Cond} (hW : s.WarmedH U.vm) (hvm : s.vm = U.vm) (hg : vx_ot w = true) (h : w.before args s = true) : w.before a' U = true := by
  simp only [vx_ot, Bool.or_eq_true] at hg
  rcases hg with hg | hg
  · exact va_tabs hg hvm h
  · exact word_at hW (good_of_word hg) h
/-- a list's words: the good ones out of the method's own list, the others by premises of their own -/
theorem vx_hat {args : Array Value} {s : State} {L B : List Cond} (h1 : ∀ w ∈ L.filter goodWord, w.before args s = true) (h2 : ∀ w ∈ L.filter (fun w => !goodWord w), w ∈ B) (h3 : ∀ w ∈ B, w.before args s = true) : ∀ w ∈ L, w.before args s = true := by
  intro w hw
  by_cases g : goodWord w = true
  · exact h1 w (List.mem_filter.mpr ⟨hw, g⟩)
  · refine h3 w (h2 w (List.mem_filter.mpr ⟨hw, ?_⟩))
    show (!goodWord w) = true
    cases hgw : goodWord w
    · rfl
    · exact absurd hgw g
theorem vx_c {args : Array Value} {s : State} {w : Cond} {B : List Cond} (h : w.before args s = true) (t : ∀ w ∈ B, w.before args s = true) : ∀ w' ∈ w :: B, w'.before args s = true := fun w' h' => (List.mem_cons.mp h').elim (fun e => by rw [e]; exact h) (t w')
theorem vx_n {args : Array Value} {s : State} : ∀ w ∈ ([] : List Cond), w.before args s = true := fun _ h => nomatch h
theorem vx_own {args : Array Value} {s : State} {L : List Cond} (h1 : ∀ w ∈ L.filter vx_no, w.before args s = true)
    (hU : (Cond.isRef (.static Bundle.tN "UNASSIGNED_STACK" Bundle.steD)).before args s = true) (hN : (Cond.isRef (.static Bundle.tN "SUPPRESSED_SENTINEL" Bundle.listD)).before args s = true)
    (lU : (Cond.laysStatic Bundle.tN "UNASSIGNED_STACK" Bundle.steD).before args s = true) (lN : (Cond.laysStatic Bundle.tN "SUPPRESSED_SENTINEL" Bundle.listD).before args s = true) : ∀ w ∈ L, w.before args s = true := by
  intro w hw
  by_cases e1 : w = .isRef (.static Bundle.tN "UNASSIGNED_STACK" Bundle.steD)
  · rw [e1]; exact hU
  · by_cases e2 : w = .isRef (.static Bundle.tN "SUPPRESSED_SENTINEL" Bundle.listD)
    · rw [e2]; exact hN
    · by_cases e3 : w = .laysStatic Bundle.tN "UNASSIGNED_STACK" Bundle.steD
      · rw [e3]; exact lU
      · by_cases e4 : w = .laysStatic Bundle.tN "SUPPRESSED_SENTINEL" Bundle.listD
        · rw [e4]; exact lN
        · exact h1 w (List.mem_filter.mpr ⟨hw, by unfold vx_no; rw [decide_eq_true e1, decide_eq_true e2, decide_eq_true e3, decide_eq_true e4]; rfl⟩)
/-- where a static field lies, its class's statics cell in H -/
def vx_L (C n d : String) (A : Nat → Prop) (U : State) (H : Heap) : Prop := ∃ (c : ClassId) (k : Class) (i : Nat) (f : Field) (a : Nat) (cell : Cell), U.vm.findClass C = some c ∧ U.fieldFound? C n d = some (c, k, i, f) ∧ f.isStatic = true ∧ k.statics = some a ∧ H[a]? = some cell ∧ cell.vm.isStatics = true ∧ cell.cls = c ∧ f.slot < cell.slots.size ∧ k.staticTypes[f.slot]? = some f.type ∧ ¬ A a
theorem vx_L.moved {C n d : String} {A : Nat → Prop} {u U : State} {H : Heap} (hvm : u.vm.Alike U.vm) (h : vx_L C n d A u H) : vx_L C n d A U H := by
  obtain ⟨c, k, i, f, a, cell, h1, h2, h3, h4, h5, h6, h7, h8, h9, h10⟩ := h
  obtain ⟨k', hi', he⟩ := State.fieldFound?_setVm hvm h2
  exact ⟨c, k', i, f, a, cell, by rw [hvm.findClass]; exact h1, hi', h3, by rw [he]; exact h4, h5, h6, h7, h8, by rw [he]; exact h9, h10⟩
theorem vx_L.kept {C n d : String} {A : Nat → Prop} {U : State} {H H1 : Heap} (h : vx_L C n d A U H) (hq : ∀ a : Nat, a < H.size → ¬ A a → H1[a]? = H[a]?) : vx_L C n d A U H1 := by
  obtain ⟨c, k, i, f, a, cell, h1, h2, h3, h4, h5, h6, h7, h8, h9, h10⟩ := h
  exact ⟨c, k, i, f, a, cell, h1, h2, h3, h4, by rw [hq a (Array.getElem?_eq_some_iff.mp h5).1 h10]; exact h5, h6, h7, h8, h9, h10⟩
theorem vx_L.narrow {C n d : String} {A B : Nat → Prop} {U : State} {H : Heap} (h : vx_L C n d A U H) (hAB : ∀ q, B q → A q) : vx_L C n d B U H := by
  obtain ⟨c, k, i, f, a, cell, h1, h2, h3, h4, h5, h6, h7, h8, h9, h10⟩ := h
  exact ⟨c, k, i, f, a, cell, h1, h2, h3, h4, h5, h6, h7, h8, h9, fun z => h10 (hAB _ z)⟩
theorem vx_L.word {C n d : String} {A : Nat → Prop} {s : State} {args : Array Value} (h : vx_L C n d A s s.heap) : (Cond.laysStatic C n d).before args s = true := by
  obtain ⟨c, k, i, f, a, cell, h1, h2, h3, h4, h5, h6, h7, h8, h9, -⟩ := h
  show (Cond.laysStatic C n d).holds args s none s [] = true
  exact Cond.laysStatic_of h1 h2 h3 h4 h5 h6 h7 h8 h9
/-- .. and what it holds: null or some reference -/
def vx_Zq (C n d : String) (A : Nat → Prop) (U : State) (H : Heap) : Prop := va_Zq C n d A U H ∧ vx_L C n d A U H
theorem vx_Zq.moved {C n d : String} {A : Nat → Prop} {u U : State} {H : Heap} (hvm : u.vm.Alike U.vm) (h : vx_Zq C n d A u H) : vx_Zq C n d A U H := ⟨va_Zq.moved hvm h.1, vx_L.moved hvm h.2⟩
theorem vx_Zq.kept {C n d : String} {A : Nat → Prop} {U : State} {H H1 : Heap} (h : vx_Zq C n d A U H) (hq : ∀ a : Nat, a < H.size → ¬ A a → H1[a]? = H[a]?) : vx_Zq C n d A U H1 := ⟨va_Zq.kept h.1 hq, vx_L.kept h.2 hq⟩
theorem vx_Zq.narrow {C n d : String} {A B : Nat → Prop} {U : State} {H : Heap} (h : vx_Zq C n d A U H) (hAB : ∀ q, B q → A q) : vx_Zq C n d B U H := ⟨va_Zq.narrow h.1 hAB, vx_L.narrow h.2 hAB⟩
theorem vx_Zqof {args : Array Value} {s : State} {C n d : String} {A : Nat → Prop} (hl : (Cond.laysStatic C n d).before args s = true) (hini : (Cond.initialized C).before args s = true) (h : (Cond.isRef (.static C n d)).before args s = true) (hA : ∀ a : Nat, a < s.heap.size → ¬ A a) : vx_Zq C n d A s s.heap := by
  refine ⟨va_Zqof hl hini h hA, ?_⟩
  obtain ⟨c, k, i, f, a, cell, h1, h2, h3, h4, h5, h6, h7, h8, h9⟩ := Cond.laysStatic_spec hl
  exact ⟨c, k, i, f, a, cell, h1, h2, h3, h4, h5, h6, h7, h8, h9, hA a (Array.getElem?_eq_some_iff.mp h5).1⟩
theorem vx_isRef {C n d : String} {v : Value} {A : Nat → Prop} {s : State} {args : Array Value} (h : va_Z C n d v A s s.heap) (hv : v.isRef = true) : (Cond.isRef (.static C n d)).before args s = true := by
  obtain ⟨cf, kf, fi, f, a, cell, h1, h2, h3, h4, h5, h6, h7, -⟩ := h
  have he : (Term.static C n d).eval args s none [] s = some v := by
    simp [Term.eval, State.fieldNamed?, h1, h2, h4, h5, h6, h7]
  simp only [Cond.before, Cond.holds, Cond.value, he]
  cases v <;> simp_all [Value.isRef]
theorem vx_isRefq {C n d : String} {A : Nat → Prop} {s : State} {args : Array Value} (h : va_Zq C n d A s s.heap) : (Cond.isRef (.static C n d)).before args s = true := by
  rcases h with h | ⟨t, h⟩
  · exact vx_isRef h rfl
  · exact vx_isRef h rfl
/-- the same frame, seen from here: as if the method were called anew in this heap -/
theorem vx_rebase {T : State} (X : Stand p l e R s m args below meth c T locs cells slots) {R' : Room} (hf : R'.frames ≤ R.frames) (hl : R'.locals ≤ R.locals) (hc : cells + R'.cells ≤ R.cells) (hs : slots + R'.slots ≤ R.slots) :
    Stand p l e R' ((T.setVm s.vm).setFrames (.invoking m args :: below)) m args below meth c T [] 0 0 := by
  have htop : (T.setVm s.vm).topJava?.isSome := X.here.top
  have hF : ((T.setVm s.vm).setFrames (.invoking m args :: below)).frames = .invoking m args :: below := State.frames_setFrames _ (State.cur_lt_of_top htop)
  obtain ⟨g₀, hg0⟩ := Option.isSome_iff_exists.mp htop
  obtain ⟨r, hr⟩ := State.topJava?_eq_some.mp hg0
  have hl9 : e.platform.stackLimits (T.setVm s.vm).me = e.platform.stackLimits s.me := X.limits
  have hb9 : (T.setVm s.vm).me.stackBytes = s.me.stackBytes := X.bytes
  refine ⟨X.admits, X.cas, X.clock, hF, ?_, X.hears, X.method, X.code, X.here, X.tail, X.warmed, ?_, ?_, ?_⟩
  · have h := X.room
    have hU : ((T.setVm s.vm).setFrames (.invoking m args :: below)).localsInUse = s.localsInUse := by
      rw [State.localsInUse_invoking hF (meth := meth) (c := c) X.method X.code, State.localsInUse_invoking X.frames X.method X.code]
    simp only [State.hasRoom, Bool.and_eq_true, decide_eq_true_eq] at h ⊢
    obtain ⟨⟨⟨⟨h1, h2, h3, h4, h5, h6⟩, h7⟩, h8⟩, h9⟩ := h
    rw [X.frames, List.length_cons] at h2 h3
    have q1 := X.heapSize
    have q2 := X.used
    simp only [hF, hU, List.length_cons, State.stackLimits_setFrames, State.stackBytes_setFrames, hl9, hb9]
    refine ⟨⟨⟨⟨by omega, by omega, by omega, by omega, by omega, h6⟩, ?_⟩, ?_⟩, X.book⟩
    · show T.heap.size + R'.cells ≤ e.platform.maxCells
      omega
    · show T.slotsUsed + R'.slots ≤ e.platform.maxSlots
      omega
  · rw [State.stackLimits_setFrames]; rfl
  · rw [State.stackBytes_setFrames]; rfl
  · refine ⟨?_, Nat.le_refl _, Nat.le_refl _, ?_, ?_, fun a c9 h9 => ⟨c9, h9, rfl, rfl, fun _ _ => rfl⟩⟩
    · obtain ⟨t, ht, -⟩ := State.frames_cons hr
      show T.setVm s.vm = { ((T.setVm s.vm).setFrames (.invoking m args :: below)).setFrames (T.setVm s.vm).frames with heap := T.heap, slotsUsed := T.slotsUsed }
      rw [State.setFrames_setFrames, State.setFrames_self ht]
      rfl
    · show T.slotsUsed = T.slotsUsed + ((T.heap.toList.drop T.heap.size).map (·.slots.size)).sum
      rw [List.drop_eq_nil_of_le (Nat.le_of_eq Array.length_toList)]
      rfl
    · show ((T.heap.toList.drop T.heap.size).map (·.slots.size)).sum ≤ 0
      rw [List.drop_eq_nil_of_le (Nat.le_of_eq Array.length_toList)]
      exact Nat.le_refl _
/-- 'throw new E()': new; dup; invokespecial; athrow -/
theorem vx_throw0 {cc : ByteArray} {pc : Nat} (hexec : p.tables.exec = Jvm.exec) (hb : c.code = cc) (hl : l.stackTraces = false) {own cls : String} {names : List String} {ik ic mc ms : Nat} {A : Nat → Prop}
    (hown : s.vm.findClass own = some m.cls) (hcls : Bundle.fit cls = true) (hnames : ∀ n ∈ names, Bundle.fit n = true)
    (hk : (Cond.classLink own ik cls).before args s = true) (hini : (Cond.initialized cls).before args s = true) (hat : ∀ w ∈ vx_at0 own ic cls names, w.before args s = true)
    (hgood : ∀ w ∈ Cond.classLink own ik cls :: Cond.initialized cls :: vx_at0 own ic cls names, vx_ot w = true)
    (hU : vx_Zq Bundle.tN "UNASSIGNED_STACK" Bundle.steD A s s.heap) (hN : vx_Zq Bundle.tN "SUPPRESSED_SENTINEL" Bundle.listD A s s.heap) (hS : va_S A s.heap H locs) (hsize : ls.size = c.maxLocals)
    (d0 : decode cc pc = .ok (.new ik, 3)) (d3 : decode cc (pc + 3) = .ok (.dup, 1)) (d4 : decode cc (pc + 4) = .ok (.invokespecial ic, 3)) (d7 : decode cc (pc + 7) = .ok (.athrow, 1))
    (hout : ∀ x ∈ c.exceptionTable.toList, covers x (pc + 7) = false)
    (hRframes : names.length + 3 < R.frames) (hRlocals : (rest.map fun v => v.category).sum + (13 * (names.length + 1) + 42) ≤ R.locals) (hRcells : cells + 1 ≤ R.cells) (hRslots : slots + 6 ≤ R.slots) (hlocks : meth.locks = false)
    (hx : ∀ t : State, s.vm.Alike t.vm → H.size ≤ t.heap.size → (∀ q : Nat, q < H.size → t.heap[q]? = H[q]?) → XC cls s t)
    (hf : ∀ z ∈ locs, free z.base) (hc : cells + 1 ≤ mc) (hs : slots + 6 ≤ ms) :
    W p l e R s m args below meth c H locs cells slots (vx_MQ below Qc XC args s mc ms free) (F0 m pc ls rest) := by
  intro T hT X
  have htr : e.platform.stackTraces = false := (show e.platform.stackTraces = l.stackTraces by rw [X.admits.platform]).trans hl
  have Y := vx_rebase X (R' := { frames := R.frames, locals := R.locals, cells := 1, slots := 6 }) (Nat.le_refl _) (Nat.le_refl _) hRcells hRslots
  obtain ⟨s', hA⟩ : ∃ z, z = (T.setVm s.vm).setFrames (.invoking m args :: below) := ⟨_, rfl⟩
  rw [← hA] at Y
  have hvm : s'.vm = s.vm := by rw [hA]; rfl
  have hhp : s'.heap = H := by rw [hA]; exact hT
  have hW0 : s.WarmedH s'.vm := by rw [hvm]; exact State.WarmedH.refl s
  have hat' : ∀ w ∈ vx_at0 own ic cls names, w.before args s' = true := fun w hw => vx_ot_at hW0 hvm.symm (hgood w (List.mem_cons_of_mem _ (List.mem_cons_of_mem _ hw))) (hat w hw)
  have hk' : (Cond.classLink own ik cls).before args s' = true := vx_ot_at hW0 hvm.symm (hgood _ List.mem_cons_self) hk
  have hini' : (Cond.initialized cls).before args s' = true := vx_ot_at hW0 hvm.symm (hgood _ (List.mem_cons_of_mem _ List.mem_cons_self)) hini
  have hU' : vx_Zq Bundle.tN "UNASSIGNED_STACK" Bundle.steD A s' s'.heap := by rw [hhp]; exact vx_Zq.moved hW0.alike (hU.kept hS.2.1)
  have hN' : vx_Zq Bundle.tN "SUPPRESSED_SENTINEL" Bundle.listD A s' s'.heap := by rw [hhp]; exact vx_Zq.moved hW0.alike (hN.kept hS.2.1)
  have h : ∀ w ∈ Bundle.ownAtoms0 own ic cls names, w.before args s' = true := vx_own hat' (vx_isRefq hU'.1) (vx_isRefq hN'.1) hU'.2.word hN'.2.word
  have hown' : s'.vm.findClass own = some m.cls := by rw [hvm]; exact hown
  have hins : (Cond.instantiable cls 6).before args s' = true := h _ (by simp [Bundle.ownAtoms0])
  obtain ⟨vm₁, cX, kX, hfX, hkX, -, -, X₁, st1⟩ := Y.newCold hexec (own := own) (C := cls) (index := ik) (n := 6) hown' hk' hins hini'
    (g := F0 m pc ls rest) rfl (by rw [hb]; exact d0) (Nat.le_refl _) (Nat.le_refl _)
  generalize hT1 : (T.setVm vm₁).pushCell { cls := cX, slots := kX.instanceTypes.map defaultValue, vm := .none } = T1 at X₁ st1
  have hcat : (Value.ref T.heap.size).category = 1 := rfl
  have hcellA : T1.heap[T.heap.size]? = some (freshCell cX kX) := by rw [← hT1]; exact State.heap_pushCell_size _ _
  have d3' : decode c.code (pc + 3) = .ok (.dup, 1) := by rw [hb]; exact d3
  obtain ⟨U, hsteps, hrun, hend, hW, hsame, ce, hce, hO⟩ := X₁.ctorThrow0 hexec htr (own := own) (cls := cls) (names := names) (ic := ic) hown' hcls hnames h (fun x hx => nomatch hx) hfX hkX hcellA (by rw [hhp, hT]; exact Nat.le_refl _)
    (g := { method := m, pc := pc + 4, locals := ls, stack := .ref T.heap.size :: .ref T.heap.size :: rest, locked := none }) rfl hsize rfl rfl (rest := rest) rfl
    (by rw [hb]; exact d4) (by rw [hb]; exact d7) hout hRframes (by simp only [List.map_cons, List.sum_cons, hcat]; omega) hlocks
  obtain ⟨f1, f2⟩ := vx_frame hsame
  rw [hhp] at f1 f2
  have hWs : s.WarmedH U.vm := State.WarmedH.trans hW0 hW
  have hcl : s.vm.findClass cls = some ce.cls := by
    have h9 := hO.cls
    rw [hvm] at h9
    exact h9
  have hall : s.sameButNew ({ U with vm := s.vm } : State) locs mc ms := by
    subst hA
    obtain ⟨e1, e2⟩ := hsame
    rw [State.setFrames_setFrames] at e1
    have h2 : (T.setVm s.vm).sameButNew ({ U with vm := s.vm } : State) [] (0 + 1) (0 + 6) := ⟨e1, e2⟩
    have h3 := X.same.trans h2
    rw [List.append_nil] at h3
    exact h3.mono hc hs
  refine ⟨U, ?_, .threw T.heap.size, hrun, hend, Or.inr ⟨T.heap.size, rfl, cls, ce, locs, hx U hWs.alike f1 (fun q hq => f2 q hq (fun z hz => nomatch hz)), hce, hO.vm, hcl, hWs, hall, hf⟩⟩
  refine st1 _ ?_
  show Steps p.tables e below (T1.setTop { method := m, pc := pc + 3, locals := ls, stack := .ref T.heap.size :: rest, locked := none }) _
  jvm_step X₁.here [X₁.here.top, hexec, d3', Value.category]
  exact hsteps
/-- 'throw new E("text")': new; dup; ldc; invokespecial; athrow -/
theorem vx_throwS {cc : ByteArray} {pc : Nat} (hexec : p.tables.exec = Jvm.exec) (hb : c.code = cc) (hl : l.stackTraces = false) {own cls text : String} {names : List String} {ik is ic mc ms sa : Nat} {A : Nat → Prop}
    (hown : s.vm.findClass own = some m.cls) (hcls : Bundle.fit cls = true) (hnames : ∀ n ∈ names, Bundle.fit n = true)
    (hk : (Cond.classLink own ik cls).before args s = true) (hini : (Cond.initialized cls).before args s = true) (hstr : vk_R own is text sa s) (hat : ∀ w ∈ vx_atS own ic cls names, w.before args s = true)
    (hgood : ∀ w ∈ Cond.classLink own ik cls :: Cond.initialized cls :: vx_atS own ic cls names, vx_ot w = true)
    (hU : vx_Zq Bundle.tN "UNASSIGNED_STACK" Bundle.steD A s s.heap) (hN : vx_Zq Bundle.tN "SUPPRESSED_SENTINEL" Bundle.listD A s s.heap) (hS : va_S A s.heap H locs) (hsize : ls.size = c.maxLocals)
    (d0 : decode cc pc = .ok (.new ik, 3)) (d3 : decode cc (pc + 3) = .ok (.dup, 1)) (d4 : decode cc (pc + 4) = .ok (.ldc is, 2)) (d6 : decode cc (pc + 6) = .ok (.invokespecial ic, 3)) (d9 : decode cc (pc + 9) = .ok (.athrow, 1))
    (hout : ∀ x ∈ c.exceptionTable.toList, covers x (pc + 9) = false)
    (hRframes : names.length + 3 < R.frames) (hRlocals : (rest.map fun v => v.category).sum + (13 * (names.length + 1) + 43) ≤ R.locals) (hRcells : cells + 1 ≤ R.cells) (hRslots : slots + 6 ≤ R.slots) (hlocks : meth.locks = false)
    (hx : ∀ t : State, s.vm.Alike t.vm → H.size ≤ t.heap.size → (∀ q : Nat, q < H.size → t.heap[q]? = H[q]?) → XC cls s t)
    (hf : ∀ z ∈ locs, free z.base) (hc : cells + 1 ≤ mc) (hs : slots + 6 ≤ ms) :
    W p l e R s m args below meth c H locs cells slots (vx_MQ below Qc XC args s mc ms free) (F0 m pc ls rest) := by
  intro T hT X
  have htr : e.platform.stackTraces = false := (show e.platform.stackTraces = l.stackTraces by rw [X.admits.platform]).trans hl
  have Y := vx_rebase X (R' := { frames := R.frames, locals := R.locals, cells := 1, slots := 6 }) (Nat.le_refl _) (Nat.le_refl _) hRcells hRslots
  obtain ⟨s', hA⟩ : ∃ z, z = (T.setVm s.vm).setFrames (.invoking m args :: below) := ⟨_, rfl⟩
  rw [← hA] at Y
  have hvm : s'.vm = s.vm := by rw [hA]; rfl
  have hhp : s'.heap = H := by rw [hA]; exact hT
  have hW0 : s.WarmedH s'.vm := by rw [hvm]; exact State.WarmedH.refl s
  have hat' : ∀ w ∈ vx_atS own ic cls names, w.before args s' = true := fun w hw => vx_ot_at hW0 hvm.symm (hgood w (List.mem_cons_of_mem _ (List.mem_cons_of_mem _ hw))) (hat w hw)
  have hk' : (Cond.classLink own ik cls).before args s' = true := vx_ot_at hW0 hvm.symm (hgood _ List.mem_cons_self) hk
  have hini' : (Cond.initialized cls).before args s' = true := vx_ot_at hW0 hvm.symm (hgood _ (List.mem_cons_of_mem _ List.mem_cons_self)) hini
  have hU' : vx_Zq Bundle.tN "UNASSIGNED_STACK" Bundle.steD A s' s'.heap := by rw [hhp]; exact vx_Zq.moved hW0.alike (hU.kept hS.2.1)
  have hN' : vx_Zq Bundle.tN "SUPPRESSED_SENTINEL" Bundle.listD A s' s'.heap := by rw [hhp]; exact vx_Zq.moved hW0.alike (hN.kept hS.2.1)
  have h : ∀ w ∈ Bundle.ownAtoms own ic cls names, w.before args s' = true := vx_own hat' (vx_isRefq hU'.1) (vx_isRefq hN'.1) hU'.2.word hN'.2.word
  have hown' : s'.vm.findClass own = some m.cls := by rw [hvm]; exact hown
  have hins : (Cond.instantiable cls 6).before args s' = true := h _ (by simp [Bundle.ownAtoms])
  obtain ⟨vm₁, cX, kX, hfX, hkX, -, -, X₁, st1⟩ := Y.newCold hexec (own := own) (C := cls) (index := ik) (n := 6) hown' hk' hins hini'
    (g := F0 m pc ls rest) rfl (by rw [hb]; exact d0) (Nat.le_refl _) (Nat.le_refl _)
  generalize hT1 : (T.setVm vm₁).pushCell { cls := cX, slots := kX.instanceTypes.map defaultValue, vm := .none } = T1 at X₁ st1
  have hcat : (Value.ref T.heap.size).category = 1 := rfl
  have hcellA : T1.heap[T.heap.size]? = some (freshCell cX kX) := by rw [← hT1]; exact State.heap_pushCell_size _ _
  have d3' : decode c.code (pc + 3) = .ok (.dup, 1) := by rw [hb]; exact d3
  have d4' : decode c.code (pc + 4) = .ok (.ldc is, 2) := by rw [hb]; exact d4
  have hstr' : vk_R own is text sa s' := vk_R.warm hW0 hstr
  obtain ⟨U, hsteps, hrun, hend, hW, hsame, ce, hce, hO⟩ := X₁.ctorThrowS hexec htr (own := own) (cls := cls) (names := names) (ic := ic) hown' hcls hnames h (fun x hx => nomatch hx) hfX hkX hcellA (by rw [hhp, hT]; exact Nat.le_refl _) (msg := .ref sa) rfl
    (g := { method := m, pc := pc + 6, locals := ls, stack := .ref sa :: .ref T.heap.size :: .ref T.heap.size :: rest, locked := none }) rfl hsize rfl rfl (rest := rest) rfl
    (by rw [hb]; exact d6) (by rw [hb]; exact d9) hout hRframes (by simp only [List.map_cons, List.sum_cons, hcat]; omega) hlocks
  obtain ⟨f1, f2⟩ := vx_frame hsame
  rw [hhp] at f1 f2
  have hWs : s.WarmedH U.vm := State.WarmedH.trans hW0 hW
  have hcl : s.vm.findClass cls = some ce.cls := by
    have h9 := hO.cls
    rw [hvm] at h9
    exact h9
  have hall : s.sameButNew ({ U with vm := s.vm } : State) locs mc ms := by
    subst hA
    obtain ⟨e1, e2⟩ := hsame
    rw [State.setFrames_setFrames] at e1
    have h2 : (T.setVm s.vm).sameButNew ({ U with vm := s.vm } : State) [] (0 + 1) (0 + 6) := ⟨e1, e2⟩
    have h3 := X.same.trans h2
    rw [List.append_nil] at h3
    exact h3.mono hc hs
  refine ⟨U, ?_, .threw T.heap.size, hrun, hend, Or.inr ⟨T.heap.size, rfl, cls, ce, locs, hx U hWs.alike f1 (fun q hq => f2 q hq (fun z hz => nomatch hz)), hce, hO.vm, hcl, hWs, hall, hf⟩⟩
  refine st1 _ ?_
  show Steps p.tables e below (T1.setTop { method := m, pc := pc + 3, locals := ls, stack := .ref T.heap.size :: rest, locked := none }) _
  jvm_step X₁.here [X₁.here.top, hexec, d3', Value.category]
  exact X₁.ldcString hexec (own := own) (text := text) (index := is) (a := sa) hown' hstr'.1 hstr'.2
    (g := { method := m, pc := pc + 4, locals := ls, stack := .ref T.heap.size :: .ref T.heap.size :: rest, locked := none }) rfl d4' _ hsteps
/-- 'throw new E("text")', the text by a wide index -/
theorem vx_throwSW {cc : ByteArray} {pc : Nat} (hexec : p.tables.exec = Jvm.exec) (hb : c.code = cc) (hl : l.stackTraces = false) {own cls text : String} {names : List String} {ik is ic mc ms sa : Nat} {A : Nat → Prop}
    (hown : s.vm.findClass own = some m.cls) (hcls : Bundle.fit cls = true) (hnames : ∀ n ∈ names, Bundle.fit n = true)
    (hk : (Cond.classLink own ik cls).before args s = true) (hini : (Cond.initialized cls).before args s = true) (hstr : vk_R own is text sa s) (hat : ∀ w ∈ vx_atS own ic cls names, w.before args s = true)
    (hgood : ∀ w ∈ Cond.classLink own ik cls :: Cond.initialized cls :: vx_atS own ic cls names, vx_ot w = true)
    (hU : vx_Zq Bundle.tN "UNASSIGNED_STACK" Bundle.steD A s s.heap) (hN : vx_Zq Bundle.tN "SUPPRESSED_SENTINEL" Bundle.listD A s s.heap) (hS : va_S A s.heap H locs) (hsize : ls.size = c.maxLocals)
    (d0 : decode cc pc = .ok (.new ik, 3)) (d3 : decode cc (pc + 3) = .ok (.dup, 1)) (d4 : decode cc (pc + 4) = .ok (.ldc_w is, 3)) (d7 : decode cc (pc + 7) = .ok (.invokespecial ic, 3)) (d10 : decode cc (pc + 10) = .ok (.athrow, 1))
    (hout : ∀ x ∈ c.exceptionTable.toList, covers x (pc + 10) = false)
    (hRframes : names.length + 3 < R.frames) (hRlocals : (rest.map fun v => v.category).sum + (13 * (names.length + 1) + 43) ≤ R.locals) (hRcells : cells + 1 ≤ R.cells) (hRslots : slots + 6 ≤ R.slots) (hlocks : meth.locks = false)
    (hx : ∀ t : State, s.vm.Alike t.vm → H.size ≤ t.heap.size → (∀ q : Nat, q < H.size → t.heap[q]? = H[q]?) → XC cls s t)
    (hf : ∀ z ∈ locs, free z.base) (hc : cells + 1 ≤ mc) (hs : slots + 6 ≤ ms) :
    W p l e R s m args below meth c H locs cells slots (vx_MQ below Qc XC args s mc ms free) (F0 m pc ls rest) := by
  intro T hT X
  have htr : e.platform.stackTraces = false := (show e.platform.stackTraces = l.stackTraces by rw [X.admits.platform]).trans hl
  have Y := vx_rebase X (R' := { frames := R.frames, locals := R.locals, cells := 1, slots := 6 }) (Nat.le_refl _) (Nat.le_refl _) hRcells hRslots
  obtain ⟨s', hA⟩ : ∃ z, z = (T.setVm s.vm).setFrames (.invoking m args :: below) := ⟨_, rfl⟩
  rw [← hA] at Y
  have hvm : s'.vm = s.vm := by rw [hA]; rfl
  have hhp : s'.heap = H := by rw [hA]; exact hT
  have hW0 : s.WarmedH s'.vm := by rw [hvm]; exact State.WarmedH.refl s
  have hat' : ∀ w ∈ vx_atS own ic cls names, w.before args s' = true := fun w hw => vx_ot_at hW0 hvm.symm (hgood w (List.mem_cons_of_mem _ (List.mem_cons_of_mem _ hw))) (hat w hw)
  have hk' : (Cond.classLink own ik cls).before args s' = true := vx_ot_at hW0 hvm.symm (hgood _ List.mem_cons_self) hk
  have hini' : (Cond.initialized cls).before args s' = true := vx_ot_at hW0 hvm.symm (hgood _ (List.mem_cons_of_mem _ List.mem_cons_self)) hini
  have hU' : vx_Zq Bundle.tN "UNASSIGNED_STACK" Bundle.steD A s' s'.heap := by rw [hhp]; exact vx_Zq.moved hW0.alike (hU.kept hS.2.1)
  have hN' : vx_Zq Bundle.tN "SUPPRESSED_SENTINEL" Bundle.listD A s' s'.heap := by rw [hhp]; exact vx_Zq.moved hW0.alike (hN.kept hS.2.1)
  have h : ∀ w ∈ Bundle.ownAtoms own ic cls names, w.before args s' = true := vx_own hat' (vx_isRefq hU'.1) (vx_isRefq hN'.1) hU'.2.word hN'.2.word
  have hown' : s'.vm.findClass own = some m.cls := by rw [hvm]; exact hown
  have hins : (Cond.instantiable cls 6).before args s' = true := h _ (by simp [Bundle.ownAtoms])
  obtain ⟨vm₁, cX, kX, hfX, hkX, -, -, X₁, st1⟩ := Y.newCold hexec (own := own) (C := cls) (index := ik) (n := 6) hown' hk' hins hini'
    (g := F0 m pc ls rest) rfl (by rw [hb]; exact d0) (Nat.le_refl _) (Nat.le_refl _)
  generalize hT1 : (T.setVm vm₁).pushCell { cls := cX, slots := kX.instanceTypes.map defaultValue, vm := .none } = T1 at X₁ st1
  have hcat : (Value.ref T.heap.size).category = 1 := rfl
  have hcellA : T1.heap[T.heap.size]? = some (freshCell cX kX) := by rw [← hT1]; exact State.heap_pushCell_size _ _
  have d3' : decode c.code (pc + 3) = .ok (.dup, 1) := by rw [hb]; exact d3
  have d4' : decode c.code (pc + 4) = .ok (.ldc_w is, 3) := by rw [hb]; exact d4
  have hstr' : vk_R own is text sa s' := vk_R.warm hW0 hstr
  obtain ⟨U, hsteps, hrun, hend, hW, hsame, ce, hce, hO⟩ := X₁.ctorThrowS hexec htr (own := own) (cls := cls) (names := names) (ic := ic) hown' hcls hnames h (fun x hx => nomatch hx) hfX hkX hcellA (by rw [hhp, hT]; exact Nat.le_refl _) (msg := .ref sa) rfl
    (g := { method := m, pc := pc + 7, locals := ls, stack := .ref sa :: .ref T.heap.size :: .ref T.heap.size :: rest, locked := none }) rfl hsize rfl rfl (rest := rest) rfl
    (by rw [hb]; exact d7) (by rw [hb]; exact d10) hout hRframes (by simp only [List.map_cons, List.sum_cons, hcat]; omega) hlocks
  obtain ⟨f1, f2⟩ := vx_frame hsame
  rw [hhp] at f1 f2
  have hWs : s.WarmedH U.vm := State.WarmedH.trans hW0 hW
  have hcl : s.vm.findClass cls = some ce.cls := by
    have h9 := hO.cls
    rw [hvm] at h9
    exact h9
  have hall : s.sameButNew ({ U with vm := s.vm } : State) locs mc ms := by
    subst hA
    obtain ⟨e1, e2⟩ := hsame
    rw [State.setFrames_setFrames] at e1
    have h2 : (T.setVm s.vm).sameButNew ({ U with vm := s.vm } : State) [] (0 + 1) (0 + 6) := ⟨e1, e2⟩
    have h3 := X.same.trans h2
    rw [List.append_nil] at h3
    exact h3.mono hc hs
  refine ⟨U, ?_, .threw T.heap.size, hrun, hend, Or.inr ⟨T.heap.size, rfl, cls, ce, locs, hx U hWs.alike f1 (fun q hq => f2 q hq (fun z hz => nomatch hz)), hce, hO.vm, hcl, hWs, hall, hf⟩⟩
  refine st1 _ ?_
  show Steps p.tables e below (T1.setTop { method := m, pc := pc + 3, locals := ls, stack := .ref T.heap.size :: rest, locked := none }) _
  jvm_step X₁.here [X₁.here.top, hexec, d3', Value.category]
  exact X₁.ldcStringW hexec (own := own) (text := text) (index := is) (a := sa) hown' hstr'.1 hstr'.2
    (g := { method := m, pc := pc + 4, locals := ls, stack := .ref T.heap.size :: .ref T.heap.size :: rest, locked := none }) rfl d4' _ hsteps
end Ends
section Bodies
variable {l : Launch}
theorem vx_ofW {y : MethodName} {ws ws' : List Cond} {rm : Room} {Pc : Array Value → State → Prop} {Qc : Array Value → State → Outcome → State → Prop} {XC : String → State → State → Prop} {mc ms : Nat} {free : Addr → Prop} {cc : ByteArray} {maxL : Nat} {ret : Option FieldType}
    (hy : plainName y.cls = true) (hw : ws = Cond.code y cc maxL ret :: ws')
    (body : ∀ p e s m args below meth c s₁, BodyLoose p l y (headSpec ws rm) cc maxL ret e s m args below meth c s₁ → c.maxLocals = maxL → (∀ x ∈ c.exceptionTable.toList, False) → Pc args s →
      W p l e (headSpec ws rm).room s m args below meth c s.heap [] 0 0 (vx_MQ below Qc XC args s mc ms free) (entryFrame m args maxL)) : vx_Met l y ws rm Pc Qc XC mc ms free := by
  refine MetFree.of_bodyS (code := cc) (maxLocals := maxL) (ret := ret) hy ?_ ?_
  · intro args s m h hn
    obtain ⟨meth, c, h1, h2, h3, h4, h5, h6, -, -⟩ := Cond.code_spec hn (atoms_spec (ws := ws) h _ (by rw [hw]; exact List.mem_cons_self))
    exact ⟨meth, c, h1, h2, h3, h4, h5, h6⟩
  · intro p e s m args below meth c s₁ B hml hP _
    have hh0 : s₁.heap = s.heap := by rw [B.state]; rfl
    have ht : ∀ x ∈ c.exceptionTable.toList, False := by
      obtain ⟨meth9, c9, h1, h2, -, -, -, -, h7, -⟩ := Cond.code_spec B.named (atoms_spec (ws := ws) B.pre _ (by rw [hw]; exact List.mem_cons_self))
      cases Option.some.inj (h1.symm.trans B.method)
      cases Option.some.inj (h2.symm.trans (Stand.of_body B).code)
      intro x hx
      rw [Array.isEmpty_iff.mp h7] at hx
      cases hx
    obtain ⟨t, a1, o, b1, b2, b3⟩ := body p e s m args below meth c s₁ B hml ht hP s₁ hh0 (Stand.of_body B)
    exact ⟨t, o, a1, b1, b2, b3⟩
/-- the table of a body with handlers -/
theorem vx_table {p : Program} {x y : MethodName} {S : Spec} {cc bytes : ByteArray} {maxL maxL' : Nat} {ret ret' : Option FieldType} {e : Env} {s s₁ : State} {m : MethodId} {args : Array Value} {below : List Frame} {meth : Method} {c : Code} {hh : List (Nat × Nat × Nat × Nat)}
    (B : BodyLoose p l y S cc maxL ret e s m args below meth c s₁) (h : (Cond.codeWith y bytes maxL' ret' hh).before args s = true) : c.exceptionTable.toList = tableOf hh := by
  obtain ⟨m9, meth9, c9, hn9, h1, h2, -, -, h6, -⟩ := Cond.codeWith_spec h
  cases Option.some.inj (hn9.symm.trans B.named)
  cases Option.some.inj (h1.symm.trans B.method)
  cases Option.some.inj (h2.symm.trans (Stand.of_body B).code)
  rw [← h6, table_eq]
end Bodies
end VXA
/-! ===== END ===== -/
/-! ===== BEGIN a static call of a method with an exception table ===== -/
section VXS
variable {p : Program} {l : Launch} {e : Env} {R : Room} {s : State} {m : MethodId} {args : Array Value} {below : List Frame} {meth : Method} {c : Code} {T : State} {H : Heap} {locs : List Loc} {cells slots : Nat}
abbrev vx_CSW (R : Room) (s : State) (args : Array Value) (own : String) (index : Nat) (y : MethodName) (bytes : ByteArray) (maxL : Nat) (ret : Option FieldType) (hh : List (Nat × Nat × Nat × Nat)) (ws : List Cond) (rm : Room) (mc ms n : Nat) : Prop :=
  (rm.cells = mc ∧ rm.slots = ms ∧ rm.frames + 1 ≤ R.frames ∧ 8 + (maxL + 11) + rm.locals ≤ R.locals ∧ (∀ w ∈ ws, ∀ (a' : Array Value) (U : State), s.WarmedH U.vm → w.before a' U = true) ∧ Cond.codeWith y bytes maxL ret hh ∈ ws) ∧
  (Cond.codeWith y bytes maxL ret hh).before args s = true ∧ (Cond.initialized y.cls).before args s = true ∧ (y.cls ≠ "java/lang/invoke/MethodHandle" ∧ y.cls ≠ "java/lang/invoke/VarHandle") ∧
  (∀ sig, parseMethodDescriptor y.desc = some sig → n = sig.parameters.length) ∧ (Cond.methodLink own index y).before args s = true ∧ (Cond.static y).before args s = true
theorem vx_cwSW {own : String} {index maxL mc ms : Nat} {y : MethodName} {bytes : ByteArray} {ret : Option FieldType} {hh : List (Nat × Nat × Nat × Nat)} {Ts ws ws' : List Cond} {rm : Room} (n : Nat) (ht : ∀ w ∈ Ts, w.before args s = true) (hT : GoodIn Ts (va_wsS own index y ws)) (hw : ws = Cond.codeWith y bytes maxL ret hh :: ws') (hrc : rm.cells = mc) (hrs : rm.slots = ms)
    (hd : y.cls ≠ "java/lang/invoke/MethodHandle" ∧ y.cls ≠ "java/lang/invoke/VarHandle" ∧ (parseMethodDescriptor y.desc).map (fun d => d.parameters.length) = some n) (hR : rm.frames + 1 ≤ R.frames ∧ 8 + (maxL + 11) + rm.locals ≤ R.locals) :
    vx_CSW R s args own index y bytes maxL ret hh ws rm mc ms n := by
  have ok : ∀ w ∈ va_wsS own index y ws, w.before args s = true := fun w h => ht w (hT w h).1
  have hG : GoodIn Ts ws := fun w h => hT w (by unfold va_wsS; exact List.mem_append_right _ h)
  have hc : Cond.codeWith y bytes maxL ret hh ∈ ws := by rw [hw]; exact List.mem_cons_self
  refine ⟨⟨hrc, hrs, hR.1, hR.2, pay_in ht hG, hc⟩, ht _ (hG _ hc).1, ok _ (by simp [va_wsS]), ⟨hd.1, hd.2.1⟩, fun sig h => ?_, ok _ (by simp [va_wsS]), ok _ (by simp [va_wsS])⟩
  have h2 := hd.2.2
  rw [h] at h2
  exact (Option.some.inj h2).symm
theorem vx_callSW (X : Stand p l e R s m args below meth c T locs cells slots) (hexec : p.tables.exec = Jvm.exec) {own : String} {index : Nat} {y : MethodName} {bytes : ByteArray} {maxL : Nat} {ret : Option FieldType} {hh : List (Nat × Nat × Nat × Nat)}
    (hown : s.vm.findClass own = some m.cls) (hlink : (Cond.methodLink own index y).before args s = true) (hstat : (Cond.static y).before args s = true) (hinit : (Cond.initialized y.cls).before args s = true)
    (hcode : (Cond.codeWith y bytes maxL ret hh).before args s = true) (hy : y.cls ≠ "java/lang/invoke/MethodHandle" ∧ y.cls ≠ "java/lang/invoke/VarHandle")
    {W9 : Nat} {Pre : Pt → Array Value → Prop} {Post : Pt → Array Value → Option Value → Pt → Prop} (hK : Back l R p e below s args y 3 W9 Pre Post)
    {g : JFrame} (hg : g.method = m) (hsize : g.locals.size = c.maxLocals) {argsL rest : List Value} (hlen : ∀ sig, parseMethodDescriptor y.desc = some sig → argsL.length = sig.parameters.length)
    (hstack : g.stack = argsL.reverse ++ rest) (hW : 2 * g.monitorRoom + (rest.map fun v => v.category).sum ≤ W9) (hdg : decode c.code g.pc = .ok (.invokestatic index, 3))
    (hpre : ∀ vm₁, s.WarmedH vm₁ → Pre ⟨T.setVm vm₁, locs, cells, slots⟩ argsL.toArray) :
    ∃ (v : Option Value) (vm₁ : Vm) (B : Pt), s.WarmedH vm₁ ∧ Stand p l e R s m args below meth c B.U B.locs B.cells B.slots ∧ Post ⟨T.setVm vm₁, locs, cells, slots⟩ argsL.toArray v B ∧
      ∀ target, Steps p.tables e below (B.U.setTop { g with pc := g.pc + 3, stack := v.toList ++ rest }) target → Steps p.tables e below (T.setTop g) target := by
  obtain ⟨mk, methM, cM, hnamed, hmethM, -, -, -, -, -, -, hsigM⟩ := Cond.codeWith_spec hcode
  have hstatic : methM.isStatic = true := Cond.static_spec hnamed hmethM hstat
  obtain ⟨kP, hkP, -⟩ := className_of_methodNamed hnamed
  have hinitP : kP.init = .initialized := Cond.initialized_spec (findClass_of_methodNamed hnamed) hkP hinit
  obtain ⟨vm₁, X₁, hstep₁⟩ := X.invokestatic hexec hown hlink hnamed hmethM hstatic hkP hinitP hy (g := g) hg (argsL := argsL) (rest := rest) (hlen _ hsigM) hstack hdg
  obtain ⟨v, B, X', hpost, hsteps⟩ := hK m meth c ⟨T.setVm vm₁, locs, cells, slots⟩ { g with stack := rest } (.invokestatic index) mk argsL.toArray X₁ hg hsize hdg hW (X₁.named hnamed) (hpre vm₁ X₁.warmed)
  exact ⟨v, vm₁, B, X₁.warmed, X', hpost, fun target h => hstep₁ _ fun acts => by rw [doInvoke_state]; exact hsteps.trans h⟩
theorem vx_runSW {y : MethodName} {bytes cc : ByteArray} {maxL nL mc ms n index : Nat} {ret : Option FieldType} {hh : List (Nat × Nat × Nat × Nat)} {ws : List Cond} {rm : Room} {Pc : Array Value → State → Prop} {Qc : Array Value → State → Outcome → State → Prop} {free : Addr → Prop} {Ts : List Cond} {own : String} {As rest : List Value} {g : JFrame}
    (S : CallFix p m c cc nL s args Ts own) (hM : Met l y ws rm Pc Qc mc ms free) (cw : vx_CSW R s args own index y bytes maxL ret hh ws rm mc ms n) (hp : PreS s H Pc As)
    (hg : g.method = m) (hn : As.length = n) (hsize : g.locals.size = nL) (hstack : g.stack = As.reverse ++ rest) (hW : 2 * g.monitorRoom + (rest.map fun v => v.category).sum ≤ 8) (hdg : decode cc g.pc = .ok (.invokestatic index, 3)) (hf : cells + mc ≤ R.cells ∧ slots + ms ≤ R.slots) :
    va_Run p l e R s m args below meth c H locs cells slots mc ms g rest (Qc As.toArray) (free) := by
  obtain ⟨⟨hrc, hrs, hfr, hlo, hws, hcw⟩, hcode, hini, hy, hlen, hl, hstt⟩ := cw
  have hK : Back l R p e below s args y 3 8 (PreOf R mc ms Pc) (PostOf Qc mc ms free) := va_backW (hh := hh) (bytes := bytes) (maxL := maxL) (ret := ret) hM hp.1 hrc hrs hfr hlo hws hcw (fun a' U hW => word_at hW (Or.inl (by first | rfl | simp [Cond.onTables, Cond.keeps, Cond.steady])) hini)
  obtain ⟨hx, hb, hml, ho, -⟩ := S
  intro T hT X
  obtain ⟨v, vm₁, ⟨U', l2, c2, s2⟩, hW₁, X', ⟨g', mk, t, L, e1, e2, hq, h1, hL, h2, h3⟩, st⟩ := vx_callSW X hx (hh := hh) (bytes := bytes) (maxL := maxL) (ret := ret) ho hl hstt hini hcode hy hK hg (hsize.trans hml.symm) (argsL := As) (rest := rest) (fun sig h => hn.trans (hlen sig h)) hstack hW (by rw [hb]; exact hdg)
    (fun vm₁ hW₁ => ⟨hf.1, hf.2, hp.2 (T.setVm vm₁) hT hW₁⟩)
  dsimp only [Pt.U, Pt.locs, Pt.cells, Pt.slots] at X' e1 e2 h1 h2 h3 st
  subst h1; subst h2; subst h3
  exact ⟨v, (T.setVm vm₁).calling g' mk As.toArray, t, U', L, hT, X', hL, e1, e2, hq, st⟩
/-- not caught here, past rows that name other classes: it goes on to the caller -/
theorem vx_outP {p : Program} {l : Launch} {e : Env} {R : Room} {s : State} {m : MethodId} {args : Array Value} {below : List Frame} {meth : Method} {c : Code} {H : Heap} {locs : List Loc} {cells slots : Nat} {free : Addr → Prop} {ls : Array Slot} {rest : List Value} {Qc : Array Value → State → Outcome → State → Prop} {XC : String → State → State → Prop}
    {pc : Nat} {own E : String} {ce : Cell} {q : Addr} {mc ms : Nat} (hown : s.vm.findClass own = some m.cls) (hlocks : meth.locks = false)
    (hpass : ∀ z ∈ c.exceptionTable.toList, covers z pc = false ∨ (z.catchType ≠ 0 ∧ ∃ nm : String, (Cond.classLink own z.catchType nm).before args s = true ∧ va_Nc E nm s)) (hcell : H[q]? = some ce) (hv : ce.vm = .none) (hcl : s.vm.findClass E = some ce.cls)
    (hx : ∀ t : State, t.heap = H → s.vm.Alike t.vm → XC E s t) (hf : ∀ z ∈ locs, free z.base) (hc : cells ≤ mc) (hs : slots ≤ ms) :
    vx_W p l e R s m args below meth c H locs cells slots (vx_MQ below Qc XC args s mc ms free) (F0 m pc ls rest) q := by
  intro T hT X
  have hpl : e.platform.magicAccessors = ({} : Platform).magicAccessors := by rw [X.admits.platform]
  obtain ⟨vm', hW', X', st⟩ := X.outThrough hlocks q (g := F0 m pc ls rest) rfl rfl rfl (cell := ce) (by rw [hT]; exact hcell) (by rw [hv]; rfl)
    (by obtain ⟨k9, h9, -⟩ := Vm.findClass_spec hcl; exact ⟨k9, h9⟩) (fun z hz => by
      rcases hpass z hz with h | ⟨hz0, nm, hl1, hn1⟩
      · exact Or.inl h
      · obtain ⟨c6, hc6, hcl6⟩ := Cond.classLink_spec hown hl1 e.platform hpl
        obtain ⟨a8, b8, h1, h2, h3⟩ := hn1
        cases Option.some.inj (h1.symm.trans hcl)
        cases Option.some.inj (h2.symm.trans hc6)
        exact Or.inr ⟨hz0, _, hcl6, h3⟩)
  obtain ⟨g₀, hfr⟩ := X'.frames_eq
  have hcell9 : ((T.setVm vm').setFrames (.throwing q :: below)).heap[q]? = some ce := by
    show T.heap[q]? = some ce
    rw [hT]; exact hcell
  have hend : Ended ((T.setVm vm').setFrames (.throwing q :: below)) below (.threw q) := State.frames_setFrames _ (State.cur_lt_of_frames hfr)
  refine ⟨(T.setVm vm').setFrames (.throwing q :: below), ?_, .threw q, X'.here.running, hend, Or.inr ⟨q, rfl, E, ce, locs, hx _ hT (X'.ends _).1.alike, hcell9, hv, hcl, (X'.ends _).1, (X'.ends _).2.mono hc hs, hf⟩⟩
  rw [X.pushThrowing_eq]
  exact st
/-- a thing of a world lies in the heap -/
theorem vx_lt {D : va_G} {cl : List vw_C} {ws : va_W} {H1 : Heap} (h : va_P D cl ws H1) {k : Nat} {q : Nat × va_E} (hk : ws[k]? = some q) : q.1 < H1.size := (h k q hk).lt
end VXS
/-! ===== END ===== -/
/-! ===== BEGIN methods with a table of their own: called by a name, returning or throwing ===== -/
section VXH
/-! vx_backW, vx_callVX, vx_callSX, vx_callVW, vx_runVW, vx_runVX, vx_runSX, vx_ofWH follow the same proofs as their sisters above (Free/Laws.lean, Shelf42/LK1.lean); vx_outP calls Shelf42/NT130.lean (outThrough). -/
section
variable {l : Launch} {R : Room} {p : Program} {e : Env} {below : List Frame} {s : State} {sargs : Array Value} {y : MethodName} {len W9 : Nat}
theorem vx_backW {ws : List Cond} {rm : Room} {Pc : Array Value → State → Prop} {Qc : Array Value → State → Outcome → State → Prop} {XC : String → State → State → Prop} {mc ms : Nat} {free : Addr → Prop} {bytes : ByteArray} {maxL : Nat} {ret : Option FieldType} {hh : List (Nat × Nat × Nat × Nat)}
    (hM : vx_Met l y ws rm Pc Qc XC mc ms free) (hblind : FrameBlind Pc) (hrc : rm.cells = mc) (hrs : rm.slots = ms)
    (hframes : rm.frames + 1 ≤ R.frames) (hlocals : W9 + (maxL + 11) + rm.locals ≤ R.locals)
    (hws : ∀ w ∈ ws, ∀ a' U, s.WarmedH U.vm → w.before a' U = true) (hcode : Cond.codeWith y bytes maxL ret hh ∈ ws) (hinit : ∀ a' U, s.WarmedH U.vm → (Cond.initialized y.cls).before a' U = true) :
    vx_Back l R p e below s sargs y len W9 (PreOf R mc ms Pc) (PostOf Qc mc ms free) (vx_Post XC mc ms free) := by
  intro m meth c A g ig mk a X hg hsize hdg hW hn hp
  have h1 : (headSpec ws rm).pre.before a A.U = true := atoms_intro fun w hw => hws w hw _ _ X.warmed
  have h2 : (Cond.codeWith y bytes maxL ret hh).before a A.U = true := hws _ hcode _ _ X.warmed
  have h3 : (Cond.initialized y.cls).before a A.U = true := hinit _ _ X.warmed
  have h4 : A.cells + (headSpec ws rm).room.cells ≤ R.cells := by rw [show (headSpec ws rm).room.cells = mc from hrc]; exact hp.1
  have h5 : A.slots + (headSpec ws rm).room.slots ≤ R.slots := by rw [show (headSpec ws rm).room.slots = ms from hrs]; exact hp.2.1
  have hPc : Pc a (A.U.calling g mk a) := hblind _ _ _ _ hp.2.2
  obtain ⟨U, Ls, c0, s0⟩ := A
  dsimp only [Pt.U, Pt.locs, Pt.cells, Pt.slots] at h1 h2 h3 h4 h5 X hn hPc ⊢
  obtain ⟨m9, methY, cY, hn9, hmY, hcY, -, hlY, -⟩ := Cond.codeWith_spec h2
  cases Option.some.inj (hn9.symm.trans hn)
  obtain ⟨kY, hkY, -⟩ := className_of_methodNamed hn
  have hinitY : kY.init = .initialized := Cond.initialized_spec (findClass_of_methodNamed hn) hkY h3
  have h : At U g.method c below := by rw [hg]; exact X.here
  have hlocals9 : W9 + (maxL + 11) + (headSpec ws rm).room.locals ≤ R.locals := hlocals
  have happ : (headSpec ws rm).appliesLoose y e.platform (U.calling g mk a) = true :=
    Spec.appliesLoose_calling (g := g) h hdg hn hkY hinitY
      (X.room_calling (g := g) (R' := (headSpec ws rm).room) hsize hmY hcY hframes (by rw [hlY]; omega) h4 h5) h1
  obtain ⟨mid, hmid⟩ := h.above
  have hfr : (U.setTop g).frames = (.java g :: mid) ++ below := by rw [State.frames_setTop' g h.top, hmid]; rfl
  obtain ⟨o, s₂, hsteps, -, hend, hq⟩ := Steps.callFree hM p X.admits X.cas X.clock (acts := []) hfr happ hPc trivial
  have hq' : vx_Q Qc XC mc ms free a (U.calling g mk a) o s₂ := hq
  rw [State.frames_setTop' g h.top] at hend
  obtain ⟨g₀, hg0⟩ := Option.isSome_iff_exists.mp h.top
  obtain ⟨r, hr⟩ := State.topJava?_eq_some.mp hg0
  have hr' : (({ U with heap := s₂.heap, slotsUsed := s₂.slotsUsed } : State).setVm s₂.vm).frames = .java g₀ :: r := hr
  rcases hq' with ⟨hqc, L, hfe, hL⟩ | ⟨q, rfl, E, ce, L, hx, hce, hcv, hcl, hW₂, hsm, hL⟩
  · obtain ⟨⟨v, rfl⟩, hW₂, e2, q2, q3, q4, q5, q6⟩ := id hfe
    have e3 : s₂ = ({ (U.calling g mk a).setFrames s₂.frames with heap := s₂.heap, slotsUsed := s₂.slotsUsed } : State).setVm s₂.vm := by
      have : s₂ = ({ s₂ with vm := (U.calling g mk a).vm } : State).setVm s₂.vm := rfl
      rw [e2] at this
      exact this
    obtain ⟨c₂, i₂, len₂, hc₂, hd₂, hf₂⟩ := hend
    have hW' : U.WarmedH s₂.vm := hW₂
    have hcc : c₂ = c := by
      have h1 : s₂.code? g.method = U.code? g.method := by
        rw [State.code?_eq, State.code?_eq, hW'.alike.method?]
      exact Option.some.inj (hc₂.symm.trans (h1.trans h.code))
    subst hcc
    have hlen : len₂ = len := by rw [hdg] at hd₂; cases hd₂; rfl
    subst hlen
    have hs₂ : s₂ = (({ U with heap := s₂.heap, slotsUsed := s₂.slotsUsed } : State).setVm s₂.vm).setTop { g with pc := g.pc + len₂, stack := v.toList ++ g.stack } := by
      refine e3.trans ?_
      rw [hf₂, State.calling_eq h.top, State.setFrames_setFrames, State.setTop_of_frames _ hr', hr]
      rfl
    have hsame : U.sameButNew ({ U with heap := s₂.heap, slotsUsed := s₂.slotsUsed } : State) L mc ms := by
      refine ⟨?_, q2, q3, q4, q5, q6⟩
      obtain ⟨t, ht, -⟩ := State.frames_cons hr
      show ({ U with heap := s₂.heap, slotsUsed := s₂.slotsUsed } : State) = { U.setFrames U.frames with heap := s₂.heap, slotsUsed := s₂.slotsUsed }
      rw [State.setFrames_self ht]
    subst hg
    refine Or.inl ⟨v, ⟨(({ U with heap := s₂.heap, slotsUsed := s₂.slotsUsed } : State).setVm s₂.vm), Ls ++ L, c0 + mc, s0 + ms⟩,
      ⟨X.admits, X.cas, X.clock, X.frames, X.room, X.hears, X.method, X.code, (X.here.setHeapUsed s₂.heap s₂.slotsUsed).setVm hW'.alike, X.tail, State.WarmedH.trans X.warmed hW', X.limits, X.bytes, X.same.trans (hsame.setVm s.vm)⟩,
      ⟨g, mk, s₂, L, rfl, rfl, hqc, rfl, hL, rfl, rfl⟩, ?_⟩
    show Steps p.tables e below _ ((({ U with heap := s₂.heap, slotsUsed := s₂.slotsUsed } : State).setVm s₂.vm).setTop { g with pc := g.pc + len₂, stack := v.toList ++ g.stack })
    rw [← hs₂]
    exact hsteps
  · obtain ⟨e2, q2, q3, q4, q5, q6⟩ := id hsm
    have e3 : s₂ = ({ (U.calling g mk a).setFrames s₂.frames with heap := s₂.heap, slotsUsed := s₂.slotsUsed } : State).setVm s₂.vm := by
      have : s₂ = ({ s₂ with vm := (U.calling g mk a).vm } : State).setVm s₂.vm := rfl
      rw [e2] at this
      exact this
    have hf₂ : s₂.frames = .throwing q :: .java g :: U.frames.tail := hend
    have hW' : U.WarmedH s₂.vm := hW₂
    have hs₂ : s₂ = ((({ U with heap := s₂.heap, slotsUsed := s₂.slotsUsed } : State).setVm s₂.vm).setTop g).pushFrame (.throwing q) := by
      refine e3.trans ?_
      rw [hf₂, State.calling_eq h.top, State.setFrames_setFrames, State.pushFrame, State.frames_setTop _ hr', State.setTop_of_frames _ hr', State.setFrames_setFrames, hr]
      rfl
    have hsame : U.sameButNew ({ U with heap := s₂.heap, slotsUsed := s₂.slotsUsed } : State) L mc ms := by
      refine ⟨?_, q2, q3, q4, q5, q6⟩
      obtain ⟨t, ht, -⟩ := State.frames_cons hr
      show ({ U with heap := s₂.heap, slotsUsed := s₂.slotsUsed } : State) = { U.setFrames U.frames with heap := s₂.heap, slotsUsed := s₂.slotsUsed }
      rw [State.setFrames_self ht]
    subst hg
    refine Or.inr ⟨q, ⟨(({ U with heap := s₂.heap, slotsUsed := s₂.slotsUsed } : State).setVm s₂.vm), Ls ++ L, c0 + mc, s0 + ms⟩,
      ⟨X.admits, X.cas, X.clock, X.frames, X.room, X.hears, X.method, X.code, (X.here.setHeapUsed s₂.heap s₂.slotsUsed).setVm hW'.alike, X.tail, State.WarmedH.trans X.warmed hW', X.limits, X.bytes, X.same.trans (hsame.setVm s.vm)⟩,
      ⟨g, mk, s₂, L, E, ce, rfl, rfl, hx, hce, hcv, hcl, rfl, hL, rfl, rfl⟩, ?_⟩
    show Steps p.tables e below _ (((({ U with heap := s₂.heap, slotsUsed := s₂.slotsUsed } : State).setVm s₂.vm).setTop g).pushFrame (.throwing q))
    rw [← hs₂]
    exact hsteps
end
variable {p : Program} {l : Launch} {e : Env} {R : Room} {s : State} {m : MethodId} {args : Array Value} {below : List Frame} {meth : Method} {c : Code} {T : State} {H : Heap} {locs : List Loc} {cells slots : Nat}
theorem vx_callVX (X : Stand p l e R s m args below meth c T locs cells slots) (hexec : p.tables.exec = Jvm.exec) {own C : String} {index : Nat} {y : MethodName} {bytes : ByteArray} {maxL : Nat} {ret : Option FieldType} {hh : List (Nat × Nat × Nat × Nat)}
    (hown : s.vm.findClass own = some m.cls) (hlink : (Cond.methodLink own index y).before args s = true) (hinst : (Cond.instanceMethod y).before args s = true) (hsel : (Cond.selects C y y).before args s = true)
    (hcode : (Cond.codeWith y bytes maxL ret hh).before args s = true) (hy : y.cls ≠ "java/lang/invoke/MethodHandle" ∧ y.cls ≠ "java/lang/invoke/VarHandle")
    {W9 : Nat} {Pre : Pt → Array Value → Prop} {Post : Pt → Array Value → Option Value → Pt → Prop} {PostX : Pt → Array Value → Addr → Pt → Prop} (hK : vx_Back l R p e below s args y 3 W9 Pre Post PostX)
    {b : Addr} {cellB : Cell} (hcell : T.heap[b]? = some cellB) (hobj : cellB.vm.isStatics = false) (hcls : s.vm.findClass C = some cellB.cls)
    {g : JFrame} (hg : g.method = m) (hsize : g.locals.size = c.maxLocals) {argsL rest : List Value} (hlen : ∀ sig, parseMethodDescriptor y.desc = some sig → argsL.length = sig.parameters.length)
    (hstack : g.stack = argsL.reverse ++ .ref b :: rest) (hW : 2 * g.monitorRoom + (rest.map fun v => v.category).sum ≤ W9) (hdg : decode c.code g.pc = .ok (.invokevirtual index, 3))
    (hpre : ∀ vm₁, s.WarmedH vm₁ → Pre ⟨T.setVm vm₁, locs, cells, slots⟩ (Value.ref b :: argsL).toArray) :
    (∃ (v : Option Value) (vm₁ : Vm) (B : Pt), s.WarmedH vm₁ ∧ Stand p l e R s m args below meth c B.U B.locs B.cells B.slots ∧ Post ⟨T.setVm vm₁, locs, cells, slots⟩ (Value.ref b :: argsL).toArray v B ∧
      ∀ target, Steps p.tables e below (B.U.setTop { g with pc := g.pc + 3, stack := v.toList ++ rest }) target → Steps p.tables e below (T.setTop g) target) ∨
    (∃ (q : Addr) (vm₁ : Vm) (B : Pt), s.WarmedH vm₁ ∧ Stand p l e R s m args below meth c B.U B.locs B.cells B.slots ∧ PostX ⟨T.setVm vm₁, locs, cells, slots⟩ (Value.ref b :: argsL).toArray q B ∧
      Steps p.tables e below (T.setTop g) ((B.U.setTop { g with stack := rest }).pushFrame (.throwing q))) := by
  obtain ⟨mk, methM, hnamed, hmethM, hstM, habM⟩ := Cond.instanceMethod_spec hinst
  obtain ⟨m8, methM', cM, hn8, hmethM', -, -, -, -, -, -, hsigM⟩ := Cond.codeWith_spec hcode
  cases Option.some.inj (hn8.symm.trans hnamed)
  cases hmethM.symm.trans hmethM'
  obtain ⟨c2, r2, m2, q1, q2, q3, q4, kP, hkP, hkPi⟩ := Cond.selects_spec hsel
  cases hcls.symm.trans q1
  cases (State.methodFound?_of_named hnamed hy).symm.trans q2
  cases hnamed.symm.trans q3
  have hselP : selectMethod e.platform s.vm cellB.cls mk = .method mk := by rw [Launch.admits_selectMethod X.admits]; exact q4
  obtain ⟨vm₁, X₁, hstep₁⟩ := X.invokevirtual hexec hown hlink hnamed hmethM hstM hkP hkPi hy (a := b) (cell := cellB) hcell
    (fun z h => by rw [h] at hobj; cases hobj) hselP hmethM habM hkP hkPi (g := g) hg (argsL := argsL) (rest := rest) (hlen _ hsigM) hstack hdg
  rcases hK m meth c ⟨T.setVm vm₁, locs, cells, slots⟩ { g with stack := rest } (.invokevirtual index) mk (Value.ref b :: argsL).toArray X₁ hg hsize hdg hW (X₁.named hnamed) (hpre vm₁ X₁.warmed) with ⟨v, B, X', hpost, hsteps⟩ | ⟨q, B, X', hpost, hsteps⟩
  · exact Or.inl ⟨v, vm₁, B, X₁.warmed, X', hpost, fun target h => hstep₁ _ fun acts => by rw [doInvoke_state]; exact hsteps.trans h⟩
  · exact Or.inr ⟨q, vm₁, B, X₁.warmed, X', hpost, hstep₁ _ fun acts => by rw [doInvoke_state]; exact hsteps⟩
theorem vx_callSX (X : Stand p l e R s m args below meth c T locs cells slots) (hexec : p.tables.exec = Jvm.exec) {own : String} {index : Nat} {y : MethodName} {bytes : ByteArray} {maxL : Nat} {ret : Option FieldType} {hh : List (Nat × Nat × Nat × Nat)}
    (hown : s.vm.findClass own = some m.cls) (hlink : (Cond.methodLink own index y).before args s = true) (hstat : (Cond.static y).before args s = true) (hinit : (Cond.initialized y.cls).before args s = true)
    (hcode : (Cond.codeWith y bytes maxL ret hh).before args s = true) (hy : y.cls ≠ "java/lang/invoke/MethodHandle" ∧ y.cls ≠ "java/lang/invoke/VarHandle")
    {W9 : Nat} {Pre : Pt → Array Value → Prop} {Post : Pt → Array Value → Option Value → Pt → Prop} {PostX : Pt → Array Value → Addr → Pt → Prop} (hK : vx_Back l R p e below s args y 3 W9 Pre Post PostX)
    {g : JFrame} (hg : g.method = m) (hsize : g.locals.size = c.maxLocals) {argsL rest : List Value} (hlen : ∀ sig, parseMethodDescriptor y.desc = some sig → argsL.length = sig.parameters.length)
    (hstack : g.stack = argsL.reverse ++ rest) (hW : 2 * g.monitorRoom + (rest.map fun v => v.category).sum ≤ W9) (hdg : decode c.code g.pc = .ok (.invokestatic index, 3))
    (hpre : ∀ vm₁, s.WarmedH vm₁ → Pre ⟨T.setVm vm₁, locs, cells, slots⟩ argsL.toArray) :
    (∃ (v : Option Value) (vm₁ : Vm) (B : Pt), s.WarmedH vm₁ ∧ Stand p l e R s m args below meth c B.U B.locs B.cells B.slots ∧ Post ⟨T.setVm vm₁, locs, cells, slots⟩ argsL.toArray v B ∧
      ∀ target, Steps p.tables e below (B.U.setTop { g with pc := g.pc + 3, stack := v.toList ++ rest }) target → Steps p.tables e below (T.setTop g) target) ∨
    (∃ (q : Addr) (vm₁ : Vm) (B : Pt), s.WarmedH vm₁ ∧ Stand p l e R s m args below meth c B.U B.locs B.cells B.slots ∧ PostX ⟨T.setVm vm₁, locs, cells, slots⟩ argsL.toArray q B ∧
      Steps p.tables e below (T.setTop g) ((B.U.setTop { g with stack := rest }).pushFrame (.throwing q))) := by
  obtain ⟨mk, methM, cM, hnamed, hmethM, -, -, -, -, -, -, hsigM⟩ := Cond.codeWith_spec hcode
  have hstatic : methM.isStatic = true := Cond.static_spec hnamed hmethM hstat
  obtain ⟨kP, hkP, -⟩ := className_of_methodNamed hnamed
  have hinitP : kP.init = .initialized := Cond.initialized_spec (findClass_of_methodNamed hnamed) hkP hinit
  obtain ⟨vm₁, X₁, hstep₁⟩ := X.invokestatic hexec hown hlink hnamed hmethM hstatic hkP hinitP hy (g := g) hg (argsL := argsL) (rest := rest) (hlen _ hsigM) hstack hdg
  rcases hK m meth c ⟨T.setVm vm₁, locs, cells, slots⟩ { g with stack := rest } (.invokestatic index) mk argsL.toArray X₁ hg hsize hdg hW (X₁.named hnamed) (hpre vm₁ X₁.warmed) with ⟨v, B, X', hpost, hsteps⟩ | ⟨q, B, X', hpost, hsteps⟩
  · exact Or.inl ⟨v, vm₁, B, X₁.warmed, X', hpost, fun target h => hstep₁ _ fun acts => by rw [doInvoke_state]; exact hsteps.trans h⟩
  · exact Or.inr ⟨q, vm₁, B, X₁.warmed, X', hpost, hstep₁ _ fun acts => by rw [doInvoke_state]; exact hsteps⟩
theorem vx_callVW (X : Stand p l e R s m args below meth c T locs cells slots) (hexec : p.tables.exec = Jvm.exec) {own C : String} {index : Nat} {y : MethodName} {bytes : ByteArray} {maxL : Nat} {ret : Option FieldType} {hh : List (Nat × Nat × Nat × Nat)}
    (hown : s.vm.findClass own = some m.cls) (hlink : (Cond.methodLink own index y).before args s = true) (hinst : (Cond.instanceMethod y).before args s = true) (hsel : (Cond.selects C y y).before args s = true)
    (hcode : (Cond.codeWith y bytes maxL ret hh).before args s = true) (hy : y.cls ≠ "java/lang/invoke/MethodHandle" ∧ y.cls ≠ "java/lang/invoke/VarHandle")
    {W9 : Nat} {Pre : Pt → Array Value → Prop} {Post : Pt → Array Value → Option Value → Pt → Prop} (hK : Back l R p e below s args y 3 W9 Pre Post)
    {b : Addr} {cellB : Cell} (hcell : T.heap[b]? = some cellB) (hobj : cellB.vm.isStatics = false) (hcls : s.vm.findClass C = some cellB.cls)
    {g : JFrame} (hg : g.method = m) (hsize : g.locals.size = c.maxLocals) {argsL rest : List Value} (hlen : ∀ sig, parseMethodDescriptor y.desc = some sig → argsL.length = sig.parameters.length)
    (hstack : g.stack = argsL.reverse ++ .ref b :: rest) (hW : 2 * g.monitorRoom + (rest.map fun v => v.category).sum ≤ W9) (hdg : decode c.code g.pc = .ok (.invokevirtual index, 3))
    (hpre : ∀ vm₁, s.WarmedH vm₁ → Pre ⟨T.setVm vm₁, locs, cells, slots⟩ (Value.ref b :: argsL).toArray) :
    ∃ (v : Option Value) (vm₁ : Vm) (B : Pt), s.WarmedH vm₁ ∧ Stand p l e R s m args below meth c B.U B.locs B.cells B.slots ∧ Post ⟨T.setVm vm₁, locs, cells, slots⟩ (Value.ref b :: argsL).toArray v B ∧
      ∀ target, Steps p.tables e below (B.U.setTop { g with pc := g.pc + 3, stack := v.toList ++ rest }) target → Steps p.tables e below (T.setTop g) target := by
  obtain ⟨mk, methM, hnamed, hmethM, hstM, habM⟩ := Cond.instanceMethod_spec hinst
  obtain ⟨m8, methM', cM, hn8, hmethM', -, -, -, -, -, -, hsigM⟩ := Cond.codeWith_spec hcode
  cases Option.some.inj (hn8.symm.trans hnamed)
  cases hmethM.symm.trans hmethM'
  obtain ⟨c2, r2, m2, q1, q2, q3, q4, kP, hkP, hkPi⟩ := Cond.selects_spec hsel
  cases hcls.symm.trans q1
  cases (State.methodFound?_of_named hnamed hy).symm.trans q2
  cases hnamed.symm.trans q3
  have hselP : selectMethod e.platform s.vm cellB.cls mk = .method mk := by rw [Launch.admits_selectMethod X.admits]; exact q4
  obtain ⟨vm₁, X₁, hstep₁⟩ := X.invokevirtual hexec hown hlink hnamed hmethM hstM hkP hkPi hy (a := b) (cell := cellB) hcell
    (fun z h => by rw [h] at hobj; cases hobj) hselP hmethM habM hkP hkPi (g := g) hg (argsL := argsL) (rest := rest) (hlen _ hsigM) hstack hdg
  obtain ⟨v, B, X', hpost, hsteps⟩ := hK m meth c ⟨T.setVm vm₁, locs, cells, slots⟩ { g with stack := rest } (.invokevirtual index) mk (Value.ref b :: argsL).toArray X₁ hg hsize hdg hW (X₁.named hnamed) (hpre vm₁ X₁.warmed)
  exact ⟨v, vm₁, B, X₁.warmed, X', hpost, fun target h => hstep₁ _ fun acts => by rw [doInvoke_state]; exact hsteps.trans h⟩
abbrev vx_CVW (R : Room) (s : State) (args : Array Value) (own C : String) (index : Nat) (y : MethodName) (bytes : ByteArray) (maxL : Nat) (ret : Option FieldType) (hh : List (Nat × Nat × Nat × Nat)) (ws : List Cond) (rm : Room) (mc ms n : Nat) : Prop :=
  (rm.cells = mc ∧ rm.slots = ms ∧ rm.frames + 1 ≤ R.frames ∧ 8 + (maxL + 11) + rm.locals ≤ R.locals ∧ (∀ w ∈ ws, ∀ (a' : Array Value) (U : State), s.WarmedH U.vm → w.before a' U = true) ∧ Cond.codeWith y bytes maxL ret hh ∈ ws) ∧
  (Cond.codeWith y bytes maxL ret hh).before args s = true ∧ (Cond.initialized y.cls).before args s = true ∧ (y.cls ≠ "java/lang/invoke/MethodHandle" ∧ y.cls ≠ "java/lang/invoke/VarHandle") ∧
  (∀ sig, parseMethodDescriptor y.desc = some sig → n = sig.parameters.length) ∧ (Cond.methodLink own index y).before args s = true ∧ (Cond.instanceMethod y).before args s = true ∧ (Cond.selects C y y).before args s = true
theorem vx_cwVW {own C : String} {index maxL mc ms : Nat} {y : MethodName} {bytes : ByteArray} {ret : Option FieldType} {hh : List (Nat × Nat × Nat × Nat)} {Ts ws ws' : List Cond} {rm : Room} (n : Nat) (ht : ∀ w ∈ Ts, w.before args s = true) (hT : GoodIn Ts (wsV own index C y ws)) (hw : ws = Cond.codeWith y bytes maxL ret hh :: ws') (hrc : rm.cells = mc) (hrs : rm.slots = ms)
    (hd : y.cls = C ∧ y.cls ≠ "java/lang/invoke/MethodHandle" ∧ y.cls ≠ "java/lang/invoke/VarHandle" ∧ (parseMethodDescriptor y.desc).map (fun d => d.parameters.length) = some n) (hR : rm.frames + 1 ≤ R.frames ∧ 8 + (maxL + 11) + rm.locals ≤ R.locals) :
    vx_CVW R s args own C index y bytes maxL ret hh ws rm mc ms n := by
  obtain ⟨hC, hd⟩ := hd
  subst hC
  have ok : ∀ w ∈ wsV own index y.cls y ws, w.before args s = true := fun w h => ht w (hT w h).1
  have hG : GoodIn Ts ws := fun w h => hT w (by unfold wsV; exact List.mem_append_right _ h)
  have hc : Cond.codeWith y bytes maxL ret hh ∈ ws := by rw [hw]; exact List.mem_cons_self
  refine ⟨⟨hrc, hrs, hR.1, hR.2, pay_in ht hG, hc⟩, ht _ (hG _ hc).1, ok _ (by simp [wsV]), ⟨hd.1, hd.2.1⟩, fun sig h => ?_, ok _ (by simp [wsV]), ok _ (by simp [wsV]), ok _ (by simp [wsV])⟩
  have h2 := hd.2.2
  rw [h] at h2
  exact (Option.some.inj h2).symm
theorem vx_runVW {y : MethodName} {bytes cc : ByteArray} {maxL nL mc ms n index : Nat} {ret : Option FieldType} {hh : List (Nat × Nat × Nat × Nat)} {ws : List Cond} {rm : Room} {Pc : Array Value → State → Prop} {Qc : Array Value → State → Outcome → State → Prop} {free : Addr → Prop} {Ts : List Cond} {own C : String} {b : Addr} {As rest : List Value} {g : JFrame}
    (S : CallFix p m c cc nL s args Ts own) (hM : Met l y ws rm Pc Qc mc ms free) (cw : vx_CVW R s args own C index y bytes maxL ret hh ws rm mc ms n) (hp : PreV s H C b Pc As)
    (hg : g.method = m) (hn : As.length = n) (hsize : g.locals.size = nL) (hstack : g.stack = As.reverse ++ .ref b :: rest) (hW : 2 * g.monitorRoom + (rest.map fun v => v.category).sum ≤ 8) (hdg : decode cc g.pc = .ok (.invokevirtual index, 3)) (hf : cells + mc ≤ R.cells ∧ slots + ms ≤ R.slots) :
    va_Run p l e R s m args below meth c H locs cells slots mc ms g rest (Qc (Value.ref b :: As).toArray) free := by
  obtain ⟨⟨hrc, hrs, hfr, hlo, hws, hcw⟩, hcode, hini, hy, hlen, hl, hin, hse⟩ := cw
  have hK : Back l R p e below s args y 3 8 (PreOf R mc ms Pc) (PostOf Qc mc ms free) := va_backW (hh := hh) (bytes := bytes) (maxL := maxL) (ret := ret) hM hp.1 hrc hrs hfr hlo hws hcw (fun a' U hW => word_at hW (Or.inl (by first | rfl | simp [Cond.onTables, Cond.keeps, Cond.steady])) hini)
  obtain ⟨hx, hb, hml, ho, -⟩ := S
  obtain ⟨-, ⟨cellB, hcB, hoB, hclB⟩, hPc⟩ := hp
  intro T hT X
  obtain ⟨v, vm₁, ⟨U', l2, c2, s2⟩, hW₁, X', ⟨g', mk, t, L, e1, e2, hq, h1, hL, h2, h3⟩, st⟩ := vx_callVW X hx (C := C) (hh := hh) (bytes := bytes) (maxL := maxL) (ret := ret) ho hl hin hse hcode hy hK (by rw [hT]; exact hcB) hoB hclB hg (hsize.trans hml.symm) (argsL := As) (rest := rest) (fun sig h => hn.trans (hlen sig h)) hstack hW (by rw [hb]; exact hdg)
    (fun vm₁ hW₁ => ⟨hf.1, hf.2, hPc (T.setVm vm₁) hT hW₁⟩)
  dsimp only [Pt.U, Pt.locs, Pt.cells, Pt.slots] at X' e1 e2 h1 h2 h3 st
  subst h1; subst h2; subst h3
  exact ⟨v, (T.setVm vm₁).calling g' mk (Value.ref b :: As).toArray, t, U', L, hT, X', hL, e1, e2, hq, st⟩
section
variable {y : MethodName} {bytes cc : ByteArray} {maxL nL mc ms n index : Nat} {ret : Option FieldType} {ws : List Cond} {rm : Room} {Pc : Array Value → State → Prop} {Qc : Array Value → State → Outcome → State → Prop} {XC : String → State → State → Prop} {free : Addr → Prop} {Ts : List Cond} {own C : String} {b : Addr} {As rest : List Value} {g : JFrame}
theorem vx_runVX {hh : List (Nat × Nat × Nat × Nat)} (S : CallFix p m c cc nL s args Ts own) (hM : vx_Met l y ws rm Pc Qc XC mc ms free) (cw : vx_CVW R s args own C index y bytes maxL ret hh ws rm mc ms n) (hp : PreV s H C b Pc As)
    (hg : g.method = m) (hn : As.length = n) (hsize : g.locals.size = nL) (hstack : g.stack = As.reverse ++ .ref b :: rest) (hW : 2 * g.monitorRoom + (rest.map fun v => v.category).sum ≤ 8) (hdg : decode cc g.pc = .ok (.invokevirtual index, 3)) (hf : cells + mc ≤ R.cells ∧ slots + ms ≤ R.slots) :
    vx_Run p l e R s m args below meth c H locs cells slots mc ms g rest (Qc (Value.ref b :: As).toArray) XC free := by
  obtain ⟨⟨hrc, hrs, hfr, hlo, hws, hcw⟩, hcode, hini, hy, hlen, hl, hin, hse⟩ := cw
  have hK : vx_Back l R p e below s args y 3 8 (PreOf R mc ms Pc) (PostOf Qc mc ms free) (vx_Post XC mc ms free) := vx_backW (hh := hh) (bytes := bytes) (maxL := maxL) (ret := ret) hM hp.1 hrc hrs hfr hlo hws hcw (fun a' U hW => word_at hW (Or.inl (by first | rfl | simp [Cond.onTables, Cond.keeps, Cond.steady])) hini)
  obtain ⟨hx, hb, hml, ho, -⟩ := S
  obtain ⟨-, ⟨cellB, hcB, hoB, hclB⟩, hPc⟩ := hp
  intro T hT X
  rcases vx_callVX X hx (C := C) (hh := hh) (bytes := bytes) (maxL := maxL) (ret := ret) ho hl hin hse hcode hy hK (by rw [hT]; exact hcB) hoB hclB hg (hsize.trans hml.symm) (argsL := As) (rest := rest) (fun sig h => hn.trans (hlen sig h)) hstack hW (by rw [hb]; exact hdg)
    (fun vm₁ hW₁ => ⟨hf.1, hf.2, hPc (T.setVm vm₁) hT hW₁⟩) with ⟨v, vm₁, ⟨U', l2, c2, s2⟩, hW₁, X', ⟨g', mk, t, L, e1, e2, hq, h1, hL, h2, h3⟩, st⟩ | ⟨q, vm₁, ⟨U', l2, c2, s2⟩, hW₁, X', ⟨g', mk, t, L, E, ce, e1, e2, hq, hce, hcv, hcl, h1, hL, h2, h3⟩, st⟩
  · dsimp only [Pt.U, Pt.locs, Pt.cells, Pt.slots] at X' e1 e2 h1 h2 h3 st
    subst h1; subst h2; subst h3
    exact Or.inl ⟨v, (T.setVm vm₁).calling g' mk (Value.ref b :: As).toArray, t, U', L, hT, X', hL, e1, e2, hq, st⟩
  · dsimp only [Pt.U, Pt.locs, Pt.cells, Pt.slots] at X' e1 e2 h1 h2 h3 st hcl
    subst h1; subst h2; subst h3
    exact Or.inr ⟨q, (T.setVm vm₁).calling g' mk (Value.ref b :: As).toArray, t, U', L, E, ce, hT, X', hL, e1, e2, hq, hce, hcv, vx_cls hW₁ hcl, st⟩
theorem vx_runSX {hh : List (Nat × Nat × Nat × Nat)} (S : CallFix p m c cc nL s args Ts own) (hM : vx_Met l y ws rm Pc Qc XC mc ms free) (cw : vx_CSW R s args own index y bytes maxL ret hh ws rm mc ms n) (hp : PreS s H Pc As)
    (hg : g.method = m) (hn : As.length = n) (hsize : g.locals.size = nL) (hstack : g.stack = As.reverse ++ rest) (hW : 2 * g.monitorRoom + (rest.map fun v => v.category).sum ≤ 8) (hdg : decode cc g.pc = .ok (.invokestatic index, 3)) (hf : cells + mc ≤ R.cells ∧ slots + ms ≤ R.slots) :
    vx_Run p l e R s m args below meth c H locs cells slots mc ms g rest (Qc As.toArray) XC free := by
  obtain ⟨⟨hrc, hrs, hfr, hlo, hws, hcw⟩, hcode, hini, hy, hlen, hl, hstt⟩ := cw
  have hK : vx_Back l R p e below s args y 3 8 (PreOf R mc ms Pc) (PostOf Qc mc ms free) (vx_Post XC mc ms free) := vx_backW (hh := hh) (bytes := bytes) (maxL := maxL) (ret := ret) hM hp.1 hrc hrs hfr hlo hws hcw (fun a' U hW => word_at hW (Or.inl (by first | rfl | simp [Cond.onTables, Cond.keeps, Cond.steady])) hini)
  obtain ⟨hx, hb, hml, ho, -⟩ := S
  intro T hT X
  rcases vx_callSX X hx (hh := hh) (bytes := bytes) (maxL := maxL) (ret := ret) ho hl hstt hini hcode hy hK hg (hsize.trans hml.symm) (argsL := As) (rest := rest) (fun sig h => hn.trans (hlen sig h)) hstack hW (by rw [hb]; exact hdg)
    (fun vm₁ hW₁ => ⟨hf.1, hf.2, hp.2 (T.setVm vm₁) hT hW₁⟩) with ⟨v, vm₁, ⟨U', l2, c2, s2⟩, hW₁, X', ⟨g', mk, t, L, e1, e2, hq, h1, hL, h2, h3⟩, st⟩ | ⟨q, vm₁, ⟨U', l2, c2, s2⟩, hW₁, X', ⟨g', mk, t, L, E, ce, e1, e2, hq, hce, hcv, hcl, h1, hL, h2, h3⟩, st⟩
  · dsimp only [Pt.U, Pt.locs, Pt.cells, Pt.slots] at X' e1 e2 h1 h2 h3 st
    subst h1; subst h2; subst h3
    exact Or.inl ⟨v, (T.setVm vm₁).calling g' mk As.toArray, t, U', L, hT, X', hL, e1, e2, hq, st⟩
  · dsimp only [Pt.U, Pt.locs, Pt.cells, Pt.slots] at X' e1 e2 h1 h2 h3 st hcl
    subst h1; subst h2; subst h3
    exact Or.inr ⟨q, (T.setVm vm₁).calling g' mk As.toArray, t, U', L, E, ce, hT, X', hL, e1, e2, hq, hce, hcv, vx_cls hW₁ hcl, st⟩
end
end VXH
theorem vx_ofWH {l : Launch} {y : MethodName} {ws ws' : List Cond} {rm : Room} {Pc : Array Value → State → Prop} {Qc : Array Value → State → Outcome → State → Prop} {XC : String → State → State → Prop} {mc ms : Nat} {free : Addr → Prop} {cc : ByteArray} {maxL : Nat} {ret : Option FieldType} {hh : List (Nat × Nat × Nat × Nat)}
    (hy : plainName y.cls = true) (hw : ws = Cond.codeWith y cc maxL ret hh :: ws')
    (body : ∀ p e s m args below meth c s₁, BodyLoose p l y (headSpec ws rm) cc maxL ret e s m args below meth c s₁ → c.maxLocals = maxL → Pc args s →
      W p l e (headSpec ws rm).room s m args below meth c s.heap [] 0 0 (vx_MQ below Qc XC args s mc ms free) (entryFrame m args maxL)) : vx_Met l y ws rm Pc Qc XC mc ms free := by
  refine MetFree.of_bodyS (code := cc) (maxLocals := maxL) (ret := ret) hy ?_ ?_
  · intro args s m h hn
    obtain ⟨m9, meth, c, hn9, h1, h2, h3, h4, -, h5, h6, -⟩ := Cond.codeWith_spec (atoms_spec (ws := ws) h _ (by rw [hw]; exact List.mem_cons_self))
    cases hn.symm.trans hn9
    exact ⟨meth, c, h1, h2, h3, h4, h5, h6⟩
  · intro p e s m args below meth c s₁ B hml hP _
    have hh0 : s₁.heap = s.heap := by rw [B.state]; rfl
    obtain ⟨t, a1, o, b1, b2, b3⟩ := body p e s m args below meth c s₁ B hml hP s₁ hh0 (Stand.of_body B)
    exact ⟨t, o, a1, b1, b2, b3⟩
/-! ===== END ===== -/
end
section
def RX0 : String := "OpalField$Claim"
def TX0 : u_T := fun k => match k with
  | 0 => ("OpalField$Claim", "owner", "I", true)
  | 1 => ("OpalField$Claim", "top", "I", true)
  | 2 => ("OpalField$Claim", "left", "I", true)
  | 3 => ("OpalField$Claim", "rows", "I", true)
  | 4 => ("OpalField$Claim", "columns", "I", true)
  | 5 => ("OpalField$Claim", "hour", "I", false)
  | 6 => ("OpalField$Claim", "lastWorked", "I", false)
  | 7 => ("OpalField$Claim", "shafts", "I", false)
  | 8 => ("OpalField$Claim", "shares", "[I", true)
  | _ => ("OpalField$Claim", "hoursTold", "[I", true)
def tyX0 : Nat → FieldType := fun k => match k with
  | 0 => .int
  | 1 => .int
  | 2 => .int
  | 3 => .int
  | 4 => .int
  | 5 => .int
  | 6 => .int
  | 7 => .int
  | 8 => .array .int
  | _ => .array .int
abbrev wsX00 : List Cond := u_ws RX0 TX0 10
theorem nmX0 : ∀ a, a < 10 → ∀ b, b < 10 → a ≠ b → (TX0 a).2.1 ≠ (TX0 b).2.1 := by decide +kernel
theorem tyX0_ok : ∀ k, k < 10 → parseFieldDescriptor (TX0 k).2.2.1 = some (tyX0 k) := by decide +kernel
abbrev cX0_init : ByteArray := prog_2_method_1_code
def yX0_init : MethodName := ⟨RX0, "<init>", "(IIIII)V"⟩
abbrev cX0_isOfPeople : ByteArray := prog_2_method_2_code
def yX0_isOfPeople : MethodName := ⟨RX0, "isOfPeople", "(I)Z"⟩
abbrev cX0_isLive : ByteArray := prog_2_method_3_code
def yX0_isLive : MethodName := ⟨RX0, "isLive", "(I)Z"⟩
abbrev cX0_hoursToLapse : ByteArray := prog_2_method_4_code
def yX0_hoursToLapse : MethodName := ⟨RX0, "hoursToLapse", "(I)I"⟩
abbrev cX0_covers : ByteArray := prog_2_method_5_code
def yX0_covers : MethodName := ⟨RX0, "covers", "(I)Z"⟩
abbrev cX0_overlaps : ByteArray := prog_2_method_6_code
def yX0_overlaps : MethodName := ⟨RX0, "overlaps", "(LOpalField$Claim;)Z"⟩
abbrev cX0_middleHourTold : ByteArray := prog_2_method_7_code
def yX0_middleHourTold : MethodName := ⟨RX0, "middleHourTold", "()I"⟩
abbrev cX0_isMiddle : ByteArray := prog_2_method_8_code
def yX0_isMiddle : MethodName := ⟨RX0, "isMiddle", "(I)Z"⟩
abbrev cX0_mostWanting : ByteArray := prog_2_method_9_code
def yX0_mostWanting : MethodName := ⟨RX0, "mostWanting", "(I[I)I"⟩
abbrev cX0_wanting : ByteArray := prog_2_method_10_code
def yX0_wanting : MethodName := ⟨RX0, "wanting", "(II[I)I"⟩
def RX1 : String := "OpalField$Ground"
def TX1 : u_T := fun k => match k with
  | 0 => ("OpalField$Ground", "state", "[I", true)
  | 1 => ("OpalField$Ground", "told", "[I", true)
  | 2 => ("OpalField$Ground", "carats", "[I", true)
  | 3 => ("OpalField$Ground", "depth", "[I", true)
  | 4 => ("OpalField$Ground", "propped", "[Z", true)
  | _ => ("OpalField$Ground", "trapper", "[I", true)
def tyX1 : Nat → FieldType := fun k => match k with
  | 0 => .array .int
  | 1 => .array .int
  | 2 => .array .int
  | 3 => .array .int
  | 4 => .array .boolean
  | _ => .array .int
abbrev wsX10 : List Cond := u_ws RX1 TX1 6
theorem nmX1 : ∀ a, a < 6 → ∀ b, b < 6 → a ≠ b → (TX1 a).2.1 ≠ (TX1 b).2.1 := by decide +kernel
theorem tyX1_ok : ∀ k, k < 6 → parseFieldDescriptor (TX1 k).2.2.1 = some (tyX1 k) := by decide +kernel
abbrev cX1_init : ByteArray := prog_3_method_1_code
def yX1_init : MethodName := ⟨RX1, "<init>", "()V"⟩
abbrev cX1_isOpen : ByteArray := prog_3_method_2_code
def yX1_isOpen : MethodName := ⟨RX1, "isOpen", "(I)Z"⟩
abbrev cX1_isLoose : ByteArray := prog_3_method_3_code
def yX1_isLoose : MethodName := ⟨RX1, "isLoose", "(I)Z"⟩
abbrev cX1_canBeDug : ByteArray := prog_3_method_4_code
def yX1_canBeDug : MethodName := ⟨RX1, "canBeDug", "(I)Z"⟩
abbrev cX1_canBeDugSafely : ByteArray := prog_3_method_5_code
def yX1_canBeDugSafely : MethodName := ⟨RX1, "canBeDugSafely", "(I)Z"⟩
abbrev cX1_openForNow : ByteArray := prog_3_method_6_code
def yX1_openForNow : MethodName := ⟨RX1, "openForNow", "(I)I"⟩
abbrev cX1_caratsAround : ByteArray := prog_3_method_7_code
def yX1_caratsAround : MethodName := ⟨RX1, "caratsAround", "(I)I"⟩
abbrev cX1_hasCarats : ByteArray := prog_3_method_8_code
def yX1_hasCarats : MethodName := ⟨RX1, "hasCarats", "(I)Z"⟩
abbrev cX1_trapsOf : ByteArray := prog_3_method_9_code
def yX1_trapsOf : MethodName := ⟨RX1, "trapsOf", "(I)I"⟩
abbrev cX1_looseInRow : ByteArray := prog_3_method_10_code
def yX1_looseInRow : MethodName := ⟨RX1, "looseInRow", "(I)I"⟩
abbrev cX1_looseInColumn : ByteArray := prog_3_method_11_code
def yX1_looseInColumn : MethodName := ⟨RX1, "looseInColumn", "(I)I"⟩
abbrev cX1_looseBeside : ByteArray := prog_3_method_12_code
def yX1_looseBeside : MethodName := ⟨RX1, "looseBeside", "(III)I"⟩
abbrev cX1_fall : ByteArray := prog_3_method_13_code
def yX1_fall : MethodName := ⟨RX1, "fall", "(I)V"⟩
abbrev cX1_bury : ByteArray := prog_3_method_14_code
def yX1_bury : MethodName := ⟨RX1, "bury", "(III)V"⟩
def RX2 : String := "OpalField$Stone"
def TX2 : u_T := fun k => match k with
  | 0 => ("OpalField$Stone", "cell", "I", true)
  | 1 => ("OpalField$Stone", "depth", "I", true)
  | 2 => ("OpalField$Stone", "claim", "I", true)
  | 3 => ("OpalField$Stone", "carats", "I", false)
  | 4 => ("OpalField$Stone", "lost", "I", false)
  | 5 => ("OpalField$Stone", "rubs", "I", false)
  | 6 => ("OpalField$Stone", "person", "I", false)
  | 7 => ("OpalField$Stone", "buyer", "I", false)
  | 8 => ("OpalField$Stone", "bids", "I", false)
  | 9 => ("OpalField$Stone", "prices", "[I", true)
  | _ => ("OpalField$Stone", "turns", "[I", true)
def tyX2 : Nat → FieldType := fun k => match k with
  | 0 => .int
  | 1 => .int
  | 2 => .int
  | 3 => .int
  | 4 => .int
  | 5 => .int
  | 6 => .int
  | 7 => .int
  | 8 => .int
  | 9 => .array .int
  | _ => .array .int
abbrev wsX20 : List Cond := u_ws RX2 TX2 11
theorem nmX2 : ∀ a, a < 11 → ∀ b, b < 11 → a ≠ b → (TX2 a).2.1 ≠ (TX2 b).2.1 := by decide +kernel
theorem tyX2_ok : ∀ k, k < 11 → parseFieldDescriptor (TX2 k).2.2.1 = some (tyX2 k) := by decide +kernel
abbrev cX2_init : ByteArray := prog_4_method_1_code
def yX2_init : MethodName := ⟨RX2, "<init>", "(IIIII)V"⟩
abbrev cX2_place : ByteArray := prog_4_method_2_code
def yX2_place : MethodName := ⟨RX2, "place", "()I"⟩
abbrev cX2_isInParcelOf : ByteArray := prog_4_method_3_code
def yX2_isInParcelOf : MethodName := ⟨RX2, "isInParcelOf", "(I)Z"⟩
abbrev cX2_lustre : ByteArray := prog_4_method_4_code
def yX2_lustre : MethodName := ⟨RX2, "lustre", "()I"⟩
abbrev cX2_value : ByteArray := prog_4_method_5_code
def yX2_value : MethodName := ⟨RX2, "value", "()I"⟩
abbrev cX2_bestBidder : ByteArray := prog_4_method_6_code
def yX2_bestBidder : MethodName := ⟨RX2, "bestBidder", "([I)I"⟩
abbrev cX2_isAhead : ByteArray := prog_4_method_7_code
def yX2_isAhead : MethodName := ⟨RX2, "isAhead", "(II)Z"⟩
def RX3 : String := "OpalField"
def TX3 : u_T := fun k => match k with
  | 0 => ("OpalField", "ground", "LOpalField$Ground;", true)
  | 1 => ("OpalField", "claims", "Ljava/util/ArrayList;", true)
  | 2 => ("OpalField", "stones", "Ljava/util/ArrayList;", true)
  | 3 => ("OpalField", "money", "[I", true)
  | 4 => ("OpalField", "barredTo", "[I", true)
  | 5 => ("OpalField", "caught", "[I", true)
  | 6 => ("OpalField", "purses", "[I", true)
  | 7 => ("OpalField", "given", "[I", true)
  | 8 => ("OpalField", "diggable", "[I", true)
  | _ => ("OpalField", "now", "I", false)
def tyX3 : Nat → FieldType := fun k => match k with
  | 0 => .object "OpalField$Ground"
  | 1 => .object "java/util/ArrayList"
  | 2 => .object "java/util/ArrayList"
  | 3 => .array .int
  | 4 => .array .int
  | 5 => .array .int
  | 6 => .array .int
  | 7 => .array .int
  | 8 => .array .int
  | _ => .int
abbrev wsX30 : List Cond := u_ws RX3 TX3 10
theorem nmX3 : ∀ a, a < 10 → ∀ b, b < 10 → a ≠ b → (TX3 a).2.1 ≠ (TX3 b).2.1 := by decide +kernel
theorem tyX3_ok : ∀ k, k < 10 → parseFieldDescriptor (TX3 k).2.2.1 = some (tyX3 k) := by decide +kernel
abbrev cX3_init : ByteArray := prog_1_method_1_code
def yX3_init : MethodName := ⟨RX3, "<init>", "()V"⟩
abbrev cX3_seam : ByteArray := prog_1_method_2_code
def yX3_seam : MethodName := ⟨RX3, "seam", "(III)V"⟩
abbrev cX3_pass : ByteArray := prog_1_method_3_code
def yX3_pass : MethodName := ⟨RX3, "pass", "(I)I"⟩
abbrev cX3_peg : ByteArray := prog_1_method_4_code
def yX3_peg : MethodName := ⟨RX3, "peg", "(IIII)I"⟩
abbrev cX3_witness : ByteArray := prog_1_method_5_code
def yX3_witness : MethodName := ⟨RX3, "witness", "(III)I"⟩
abbrev cX3_partner : ByteArray := prog_1_method_6_code
def yX3_partner : MethodName := ⟨RX3, "partner", "(III)I"⟩
abbrev cX3_dig : ByteArray := prog_1_method_7_code
def yX3_dig : MethodName := ⟨RX3, "dig", "(III)I"⟩
abbrev cX3_sink : ByteArray := prog_1_method_8_code
def yX3_sink : MethodName := ⟨RX3, "sink", "(III)I"⟩
abbrev cX3_prop : ByteArray := prog_1_method_9_code
def yX3_prop : MethodName := ⟨RX3, "prop", "(III)V"⟩
abbrev cX3_trap : ByteArray := prog_1_method_10_code
def yX3_trap : MethodName := ⟨RX3, "trap", "(III)I"⟩
abbrev cX3_rat : ByteArray := prog_1_method_11_code
def yX3_rat : MethodName := ⟨RX3, "rat", "(II)I"⟩
abbrev cX3_divide : ByteArray := prog_1_method_12_code
def yX3_divide : MethodName := ⟨RX3, "divide", "(I)I"⟩
abbrev cX3_rub : ByteArray := prog_1_method_13_code
def yX3_rub : MethodName := ⟨RX3, "rub", "(I)I"⟩
abbrev cX3_bid : ByteArray := prog_1_method_14_code
def yX3_bid : MethodName := ⟨RX3, "bid", "(III)I"⟩
abbrev cX3_sell : ByteArray := prog_1_method_15_code
def yX3_sell : MethodName := ⟨RX3, "sell", "(I)I"⟩
abbrev cX3_hour : ByteArray := prog_1_method_16_code
def yX3_hour : MethodName := ⟨RX3, "hour", "()I"⟩
abbrev cX3_bore : ByteArray := prog_1_method_17_code
def yX3_bore : MethodName := ⟨RX3, "bore", "(I)I"⟩
abbrev cX3_ofCell : ByteArray := prog_1_method_18_code
def yX3_ofCell : MethodName := ⟨RX3, "ofCell", "(II)I"⟩
abbrev cX3_ofClaim : ByteArray := prog_1_method_19_code
def yX3_ofClaim : MethodName := ⟨RX3, "ofClaim", "(II)I"⟩
abbrev cX3_share : ByteArray := prog_1_method_20_code
def yX3_share : MethodName := ⟨RX3, "share", "(II)I"⟩
abbrev cX3_verdict : ByteArray := prog_1_method_21_code
def yX3_verdict : MethodName := ⟨RX3, "verdict", "(II)I"⟩
abbrev cX3_ofPerson : ByteArray := prog_1_method_22_code
def yX3_ofPerson : MethodName := ⟨RX3, "ofPerson", "(II)I"⟩
abbrev cX3_ofStone : ByteArray := prog_1_method_23_code
def yX3_ofStone : MethodName := ⟨RX3, "ofStone", "(II)I"⟩
abbrev cX3_purse : ByteArray := prog_1_method_24_code
def yX3_purse : MethodName := ⟨RX3, "purse", "(I)I"⟩
abbrev cX3_carats : ByteArray := prog_1_method_25_code
def yX3_carats : MethodName := ⟨RX3, "carats", "(I)I"⟩
abbrev cX3_plan : ByteArray := prog_1_method_26_code
def yX3_plan : MethodName := ⟨RX3, "plan", "(II)I"⟩
abbrev cX3_planAnew : ByteArray := prog_1_method_27_code
def yX3_planAnew : MethodName := ⟨RX3, "planAnew", "(II)I"⟩
abbrev cX3_needCell : ByteArray := prog_1_method_28_code
def yX3_needCell : MethodName := ⟨RX3, "needCell", "(I)V"⟩
abbrev cX3_needPerson : ByteArray := prog_1_method_29_code
def yX3_needPerson : MethodName := ⟨RX3, "needPerson", "(I)V"⟩
abbrev cX3_needBuyer : ByteArray := prog_1_method_30_code
def yX3_needBuyer : MethodName := ⟨RX3, "needBuyer", "(I)V"⟩
abbrev cX3_claimAt : ByteArray := prog_1_method_31_code
def yX3_claimAt : MethodName := ⟨RX3, "claimAt", "(I)LOpalField$Claim;"⟩
abbrev cX3_stoneAt : ByteArray := prog_1_method_32_code
def yX3_stoneAt : MethodName := ⟨RX3, "stoneAt", "(I)LOpalField$Stone;"⟩
abbrev cX3_needRange : ByteArray := prog_1_method_33_code
def yX3_needRange : MethodName := ⟨RX3, "needRange", "(III)V"⟩
abbrev cX3_needFree : ByteArray := prog_1_method_34_code
def yX3_needFree : MethodName := ⟨RX3, "needFree", "(I)V"⟩
abbrev cX3_claimAtHand : ByteArray := prog_1_method_35_code
def yX3_claimAtHand : MethodName := ⟨RX3, "claimAtHand", "(III)LOpalField$Claim;"⟩
abbrev cX3_needOfPerson : ByteArray := prog_1_method_36_code
def yX3_needOfPerson : MethodName := ⟨RX3, "needOfPerson", "(LOpalField$Stone;)V"⟩
abbrev cX3_isCell : ByteArray := prog_1_method_37_code
def yX3_isCell : MethodName := ⟨RX3, "isCell", "(I)Z"⟩
abbrev cX3_oneIf : ByteArray := prog_1_method_38_code
def yX3_oneIf : MethodName := ⟨RX3, "oneIf", "(Z)I"⟩
abbrev cX3_sum : ByteArray := prog_1_method_39_code
def yX3_sum : MethodName := ⟨RX3, "sum", "([I)I"⟩
abbrev cX3_isNight : ByteArray := prog_1_method_40_code
def yX3_isNight : MethodName := ⟨RX3, "isNight", "()Z"⟩
abbrev cX3_hoursBarred : ByteArray := prog_1_method_41_code
def yX3_hoursBarred : MethodName := ⟨RX3, "hoursBarred", "(I)I"⟩
abbrev cX3_holderOf : ByteArray := prog_1_method_42_code
def yX3_holderOf : MethodName := ⟨RX3, "holderOf", "(I)I"⟩
abbrev cX3_cellsHeldBy : ByteArray := prog_1_method_43_code
def yX3_cellsHeldBy : MethodName := ⟨RX3, "cellsHeldBy", "(I)I"⟩
abbrev cX3_work : ByteArray := prog_1_method_44_code
def yX3_work : MethodName := ⟨RX3, "work", "(LOpalField$Claim;II)I"⟩
abbrev cX3_uncover : ByteArray := prog_1_method_45_code
def yX3_uncover : MethodName := ⟨RX3, "uncover", "(III)I"⟩
abbrev cX3_stonesInParcel : ByteArray := prog_1_method_46_code
def yX3_stonesInParcel : MethodName := ⟨RX3, "stonesInParcel", "(I)I"⟩
abbrev cX3_caratsInParcel : ByteArray := prog_1_method_47_code
def yX3_caratsInParcel : MethodName := ⟨RX3, "caratsInParcel", "(I)I"⟩
abbrev cX3_heaviestInParcel : ByteArray := prog_1_method_48_code
def yX3_heaviestInParcel : MethodName := ⟨RX3, "heaviestInParcel", "(I)I"⟩
abbrev cX3_stonesOfPerson : ByteArray := prog_1_method_49_code
def yX3_stonesOfPerson : MethodName := ⟨RX3, "stonesOfPerson", "(I)I"⟩
abbrev cX3_caratsOfStones : ByteArray := prog_1_method_50_code
def yX3_caratsOfStones : MethodName := ⟨RX3, "caratsOfStones", "(I)I"⟩
abbrev cX3_caratsLost : ByteArray := prog_1_method_51_code
def yX3_caratsLost : MethodName := ⟨RX3, "caratsLost", "()I"⟩
abbrev cX3_listDiggable : ByteArray := prog_1_method_52_code
def yX3_listDiggable : MethodName := ⟨RX3, "listDiggable", "(I)I"⟩
abbrev cX3_mostBySets : ByteArray := prog_1_method_53_code
def yX3_mostBySets : MethodName := ⟨RX3, "mostBySets", "(LOpalField$Ground;[IIII)I"⟩
abbrev cX3_mostByRows : ByteArray := prog_1_method_54_code
def yX3_mostByRows : MethodName := ⟨RX3, "mostByRows", "(LOpalField$Ground;[III)I"⟩
def RX4 : String := "OpalFieldModel"
def TX4 : u_T := fun k => match k with
  | 0 => ("OpalFieldModel", "thrown", "I", false)
  | 1 => ("OpalFieldModel", "now", "I", false)
  | 2 => ("OpalFieldModel", "state", "[I", true)
  | 3 => ("OpalFieldModel", "carats", "[I", true)
  | 4 => ("OpalFieldModel", "depth", "[I", true)
  | 5 => ("OpalFieldModel", "isTold", "[Z", true)
  | 6 => ("OpalFieldModel", "isPropped", "[Z", true)
  | 7 => ("OpalFieldModel", "trap", "[I", true)
  | 8 => ("OpalFieldModel", "falls", "[Z", true)
  | 9 => ("OpalFieldModel", "claims", "I", false)
  | 10 => ("OpalFieldModel", "owner", "[I", true)
  | 11 => ("OpalFieldModel", "cell", "[I", true)
  | 12 => ("OpalFieldModel", "rows", "[I", true)
  | 13 => ("OpalFieldModel", "columns", "[I", true)
  | 14 => ("OpalFieldModel", "pegged", "[I", true)
  | 15 => ("OpalFieldModel", "worked", "[I", true)
  | 16 => ("OpalFieldModel", "shafts", "[I", true)
  | 17 => ("OpalFieldModel", "twelfths", "[I", true)
  | 18 => ("OpalFieldModel", "hours", "[I", true)
  | 19 => ("OpalFieldModel", "barredTo", "[I", true)
  | 20 => ("OpalFieldModel", "money", "[I", true)
  | 21 => ("OpalFieldModel", "caught", "[I", true)
  | 22 => ("OpalFieldModel", "got", "[I", true)
  | 23 => ("OpalFieldModel", "stones", "I", false)
  | 24 => ("OpalFieldModel", "weighs", "[I", true)
  | 25 => ("OpalFieldModel", "deep", "[I", true)
  | 26 => ("OpalFieldModel", "rubbed", "[I", true)
  | 27 => ("OpalFieldModel", "has", "[I", true)
  | 28 => ("OpalFieldModel", "from", "[I", true)
  | 29 => ("OpalFieldModel", "where", "[I", true)
  | 30 => ("OpalFieldModel", "soldTo", "[I", true)
  | 31 => ("OpalFieldModel", "bids", "[I", true)
  | 32 => ("OpalFieldModel", "price", "[I", true)
  | 33 => ("OpalFieldModel", "turn", "[I", true)
  | 34 => ("OpalFieldModel", "purse", "[I", true)
  | 35 => ("OpalFieldModel", "told", "I", false)
  | _ => ("OpalFieldModel", "lost", "I", false)
def tyX4 : Nat → FieldType := fun k => match k with
  | 0 => .int
  | 1 => .int
  | 2 => .array .int
  | 3 => .array .int
  | 4 => .array .int
  | 5 => .array .boolean
  | 6 => .array .boolean
  | 7 => .array .int
  | 8 => .array .boolean
  | 9 => .int
  | 10 => .array .int
  | 11 => .array .int
  | 12 => .array .int
  | 13 => .array .int
  | 14 => .array .int
  | 15 => .array .int
  | 16 => .array .int
  | 17 => .array .int
  | 18 => .array .int
  | 19 => .array .int
  | 20 => .array .int
  | 21 => .array .int
  | 22 => .array .int
  | 23 => .int
  | 24 => .array .int
  | 25 => .array .int
  | 26 => .array .int
  | 27 => .array .int
  | 28 => .array .int
  | 29 => .array .int
  | 30 => .array .int
  | 31 => .array .int
  | 32 => .array .int
  | 33 => .array .int
  | 34 => .array .int
  | 35 => .int
  | _ => .int
abbrev wsX40 : List Cond := u_ws RX4 TX4 37
theorem nmX4 : ∀ a, a < 37 → ∀ b, b < 37 → a ≠ b → (TX4 a).2.1 ≠ (TX4 b).2.1 := by decide +kernel
theorem tyX4_ok : ∀ k, k < 37 → parseFieldDescriptor (TX4 k).2.2.1 = some (tyX4 k) := by decide +kernel
abbrev cX4_init : ByteArray := prog_6_method_1_code
def yX4_init : MethodName := ⟨RX4, "<init>", "()V"⟩
abbrev cX4_thrown : ByteArray := prog_6_method_2_code
def yX4_thrown : MethodName := ⟨RX4, "thrown", "()I"⟩
abbrev cX4_in : ByteArray := prog_6_method_3_code
def yX4_in : MethodName := ⟨RX4, "in", "(III)Z"⟩
abbrev cX4_isCell : ByteArray := prog_6_method_4_code
def yX4_isCell : MethodName := ⟨RX4, "isCell", "(I)Z"⟩
abbrev cX4_isPerson : ByteArray := prog_6_method_5_code
def yX4_isPerson : MethodName := ⟨RX4, "isPerson", "(I)Z"⟩
abbrev cX4_isClaim : ByteArray := prog_6_method_6_code
def yX4_isClaim : MethodName := ⟨RX4, "isClaim", "(I)Z"⟩
abbrev cX4_isStone : ByteArray := prog_6_method_7_code
def yX4_isStone : MethodName := ⟨RX4, "isStone", "(I)Z"⟩
abbrev cX4_isBarred : ByteArray := prog_6_method_8_code
def yX4_isBarred : MethodName := ⟨RX4, "isBarred", "(I)Z"⟩
abbrev cX4_beside : ByteArray := prog_6_method_9_code
def yX4_beside : MethodName := ⟨RX4, "beside", "(II)I"⟩
abbrev cX4_seam : ByteArray := prog_6_method_10_code
def yX4_seam : MethodName := ⟨RX4, "seam", "(III)V"⟩
abbrev cX4_pass : ByteArray := prog_6_method_11_code
def yX4_pass : MethodName := ⟨RX4, "pass", "(I)I"⟩
abbrev cX4_peg : ByteArray := prog_6_method_12_code
def yX4_peg : MethodName := ⟨RX4, "peg", "(IIII)I"⟩
abbrev cX4_ownersShare : ByteArray := prog_6_method_13_code
def yX4_ownersShare : MethodName := ⟨RX4, "ownersShare", "(I)I"⟩
abbrev cX4_shareOf : ByteArray := prog_6_method_14_code
def yX4_shareOf : MethodName := ⟨RX4, "shareOf", "(II)I"⟩
abbrev cX4_isLive : ByteArray := prog_6_method_15_code
def yX4_isLive : MethodName := ⟨RX4, "isLive", "(I)Z"⟩
abbrev cX4_upTo : ByteArray := prog_6_method_16_code
def yX4_upTo : MethodName := ⟨RX4, "upTo", "(II)I"⟩
abbrev cX4_hourOf : ByteArray := prog_6_method_17_code
def yX4_hourOf : MethodName := ⟨RX4, "hourOf", "(I)I"⟩
abbrev cX4_witness : ByteArray := prog_6_method_18_code
def yX4_witness : MethodName := ⟨RX4, "witness", "(III)I"⟩
abbrev cX4_partner : ByteArray := prog_6_method_19_code
def yX4_partner : MethodName := ⟨RX4, "partner", "(III)I"⟩
abbrev cX4_covers : ByteArray := prog_6_method_20_code
def yX4_covers : MethodName := ⟨RX4, "covers", "(II)Z"⟩
abbrev cX4_holder : ByteArray := prog_6_method_21_code
def yX4_holder : MethodName := ⟨RX4, "holder", "(I)I"⟩
abbrev cX4_isBesideOpen : ByteArray := prog_6_method_22_code
def yX4_isBesideOpen : MethodName := ⟨RX4, "isBesideOpen", "(I)Z"⟩
abbrev cX4_isLoose : ByteArray := prog_6_method_23_code
def yX4_isLoose : MethodName := ⟨RX4, "isLoose", "(I)Z"⟩
abbrev cX4_run : ByteArray := prog_6_method_24_code
def yX4_run : MethodName := ⟨RX4, "run", "(II)I"⟩
abbrev cX4_marks : ByteArray := prog_6_method_25_code
def yX4_marks : MethodName := ⟨RX4, "marks", "(II)V"⟩
abbrev cX4_isFall : ByteArray := prog_6_method_26_code
def yX4_isFall : MethodName := ⟨RX4, "isFall", "(I)Z"⟩
abbrev cX4_mayFall : ByteArray := prog_6_method_27_code
def yX4_mayFall : MethodName := ⟨RX4, "mayFall", "(I)V"⟩
abbrev cX4_opens : ByteArray := prog_6_method_28_code
def yX4_opens : MethodName := ⟨RX4, "opens", "(III)I"⟩
abbrev cX4_asks : ByteArray := prog_6_method_29_code
def yX4_asks : MethodName := ⟨RX4, "asks", "(III)V"⟩
abbrev cX4_dig : ByteArray := prog_6_method_30_code
def yX4_dig : MethodName := ⟨RX4, "dig", "(III)I"⟩
abbrev cX4_sink : ByteArray := prog_6_method_31_code
def yX4_sink : MethodName := ⟨RX4, "sink", "(III)I"⟩
abbrev cX4_prop : ByteArray := prog_6_method_32_code
def yX4_prop : MethodName := ⟨RX4, "prop", "(III)V"⟩
abbrev cX4_trapsOf : ByteArray := prog_6_method_33_code
def yX4_trapsOf : MethodName := ⟨RX4, "trapsOf", "(I)I"⟩
abbrev cX4_trap : ByteArray := prog_6_method_34_code
def yX4_trap : MethodName := ⟨RX4, "trap", "(III)I"⟩
abbrev cX4_isNight : ByteArray := prog_6_method_35_code
def yX4_isNight : MethodName := ⟨RX4, "isNight", "()Z"⟩
abbrev cX4_canRat : ByteArray := prog_6_method_36_code
def yX4_canRat : MethodName := ⟨RX4, "canRat", "(II)Z"⟩
abbrev cX4_rat : ByteArray := prog_6_method_37_code
def yX4_rat : MethodName := ⟨RX4, "rat", "(II)I"⟩
abbrev cX4_isIn : ByteArray := prog_6_method_38_code
def yX4_isIn : MethodName := ⟨RX4, "isIn", "(II)Z"⟩
abbrev cX4_parcel : ByteArray := prog_6_method_39_code
def yX4_parcel : MethodName := ⟨RX4, "parcel", "(I)I"⟩
abbrev cX4_greatest : ByteArray := prog_6_method_40_code
def yX4_greatest : MethodName := ⟨RX4, "greatest", "(I)I"⟩
abbrev cX4_next : ByteArray := prog_6_method_41_code
def yX4_next : MethodName := ⟨RX4, "next", "(II)I"⟩
abbrev cX4_divide : ByteArray := prog_6_method_42_code
def yX4_divide : MethodName := ⟨RX4, "divide", "(I)I"⟩
abbrev cX4_isInParcel : ByteArray := prog_6_method_43_code
def yX4_isInParcel : MethodName := ⟨RX4, "isInParcel", "(I)Z"⟩
abbrev cX4_looks : ByteArray := prog_6_method_44_code
def yX4_looks : MethodName := ⟨RX4, "looks", "(I)I"⟩
abbrev cX4_rub : ByteArray := prog_6_method_45_code
def yX4_rub : MethodName := ⟨RX4, "rub", "(I)I"⟩
abbrev cX4_isBuyer : ByteArray := prog_6_method_46_code
def yX4_isBuyer : MethodName := ⟨RX4, "isBuyer", "(I)Z"⟩
abbrev cX4_bid : ByteArray := prog_6_method_47_code
def yX4_bid : MethodName := ⟨RX4, "bid", "(III)I"⟩
abbrev cX4_highest : ByteArray := prog_6_method_48_code
def yX4_highest : MethodName := ⟨RX4, "highest", "(I)I"⟩
abbrev cX4_sell : ByteArray := prog_6_method_49_code
def yX4_sell : MethodName := ⟨RX4, "sell", "(I)I"⟩
abbrev cX4_hour : ByteArray := prog_6_method_50_code
def yX4_hour : MethodName := ⟨RX4, "hour", "()I"⟩
abbrev cX4_bore : ByteArray := prog_6_method_51_code
def yX4_bore : MethodName := ⟨RX4, "bore", "(I)I"⟩
abbrev cX4_ofCell : ByteArray := prog_6_method_52_code
def yX4_ofCell : MethodName := ⟨RX4, "ofCell", "(II)I"⟩
abbrev cX4_held : ByteArray := prog_6_method_53_code
def yX4_held : MethodName := ⟨RX4, "held", "(I)I"⟩
abbrev cX4_ofClaim : ByteArray := prog_6_method_54_code
def yX4_ofClaim : MethodName := ⟨RX4, "ofClaim", "(II)I"⟩
abbrev cX4_share : ByteArray := prog_6_method_55_code
def yX4_share : MethodName := ⟨RX4, "share", "(II)I"⟩
abbrev cX4_meet : ByteArray := prog_6_method_56_code
def yX4_meet : MethodName := ⟨RX4, "meet", "(II)Z"⟩
abbrev cX4_verdict : ByteArray := prog_6_method_57_code
def yX4_verdict : MethodName := ⟨RX4, "verdict", "(II)I"⟩
abbrev cX4_stonesOf : ByteArray := prog_6_method_58_code
def yX4_stonesOf : MethodName := ⟨RX4, "stonesOf", "(I)I"⟩
abbrev cX4_ofPerson : ByteArray := prog_6_method_59_code
def yX4_ofPerson : MethodName := ⟨RX4, "ofPerson", "(II)I"⟩
abbrev cX4_value : ByteArray := prog_6_method_60_code
def yX4_value : MethodName := ⟨RX4, "value", "(I)I"⟩
abbrev cX4_ofStone : ByteArray := prog_6_method_61_code
def yX4_ofStone : MethodName := ⟨RX4, "ofStone", "(II)I"⟩
abbrev cX4_purse : ByteArray := prog_6_method_62_code
def yX4_purse : MethodName := ⟨RX4, "purse", "(I)I"⟩
abbrev cX4_weighed : ByteArray := prog_6_method_63_code
def yX4_weighed : MethodName := ⟨RX4, "weighed", "(I)I"⟩
abbrev cX4_carats : ByteArray := prog_6_method_64_code
def yX4_carats : MethodName := ⟨RX4, "carats", "(I)I"⟩
abbrev cX4_canPlan : ByteArray := prog_6_method_65_code
def yX4_canPlan : MethodName := ⟨RX4, "canPlan", "(II)Z"⟩
abbrev cX4_digsOne : ByteArray := prog_6_method_66_code
def yX4_digsOne : MethodName := ⟨RX4, "digsOne", "(I)I"⟩
abbrev cX4_digsTwo : ByteArray := prog_6_method_67_code
def yX4_digsTwo : MethodName := ⟨RX4, "digsTwo", "(I)I"⟩
abbrev cX4_digsThree : ByteArray := prog_6_method_68_code
def yX4_digsThree : MethodName := ⟨RX4, "digsThree", "(I)I"⟩
abbrev cX4_plan : ByteArray := prog_6_method_69_code
def yX4_plan : MethodName := ⟨RX4, "plan", "(II)I"⟩
abbrev cX4_planAnew : ByteArray := prog_6_method_70_code
def yX4_planAnew : MethodName := ⟨RX4, "planAnew", "(II)I"⟩
def RJx145de : String := "java/io/Serializable"
def TJx145de : u_T := fun k => match k with
  | _ => ("", "", "", false)
def tyJx145de : Nat → FieldType := fun k => match k with
  | _ => .int
abbrev wsJx145de0 : List Cond := u_ws RJx145de TJx145de 0
theorem nmJx145de : ∀ a, a < 0 → ∀ b, b < 0 → a ≠ b → (TJx145de a).2.1 ≠ (TJx145de b).2.1 := by decide +kernel
theorem tyJx145de_ok : ∀ k, k < 0 → parseFieldDescriptor (TJx145de k).2.2.1 = some (tyJx145de k) := by decide +kernel
def RJx8e188 : String := "java/lang/Cloneable"
def TJx8e188 : u_T := fun k => match k with
  | _ => ("", "", "", false)
def tyJx8e188 : Nat → FieldType := fun k => match k with
  | _ => .int
abbrev wsJx8e1880 : List Cond := u_ws RJx8e188 TJx8e188 0
theorem nmJx8e188 : ∀ a, a < 0 → ∀ b, b < 0 → a ≠ b → (TJx8e188 a).2.1 ≠ (TJx8e188 b).2.1 := by decide +kernel
theorem tyJx8e188_ok : ∀ k, k < 0 → parseFieldDescriptor (TJx8e188 k).2.2.1 = some (tyJx8e188 k) := by decide +kernel
def RJxab1ab : String := "java/lang/Iterable"
def TJxab1ab : u_T := fun k => match k with
  | _ => ("", "", "", false)
def tyJxab1ab : Nat → FieldType := fun k => match k with
  | _ => .int
abbrev wsJxab1ab0 : List Cond := u_ws RJxab1ab TJxab1ab 0
theorem nmJxab1ab : ∀ a, a < 0 → ∀ b, b < 0 → a ≠ b → (TJxab1ab a).2.1 ≠ (TJxab1ab b).2.1 := by decide +kernel
theorem tyJxab1ab_ok : ∀ k, k < 0 → parseFieldDescriptor (TJxab1ab k).2.2.1 = some (tyJxab1ab k) := by decide +kernel
def RJ9 : String := "java/lang/Math"
def TJ9 : u_T := fun k => match k with
  | _ => ("", "", "", false)
def tyJ9 : Nat → FieldType := fun k => match k with
  | _ => .int
abbrev wsJ90 : List Cond := u_ws RJ9 TJ9 0
theorem nmJ9 : ∀ a, a < 0 → ∀ b, b < 0 → a ≠ b → (TJ9 a).2.1 ≠ (TJ9 b).2.1 := by decide +kernel
theorem tyJ9_ok : ∀ k, k < 0 → parseFieldDescriptor (TJ9 k).2.2.1 = some (tyJ9 k) := by decide +kernel
abbrev cJ9_max_7cf53 : ByteArray := prog_14_method_65_code
def yJ9_max_7cf53 : MethodName := ⟨RJ9, "max", "(II)I"⟩
abbrev cJ9_min_7cf53 : ByteArray := prog_14_method_69_code
def yJ9_min_7cf53 : MethodName := ⟨RJ9, "min", "(II)I"⟩
def RJ0 : String := "java/lang/String"
def TJ0 : u_T := fun k => match k with
  | _ => ("", "", "", false)
def tyJ0 : Nat → FieldType := fun k => match k with
  | _ => .int
abbrev wsJ00 : List Cond := u_ws RJ0 TJ0 0
theorem nmJ0 : ∀ a, a < 0 → ∀ b, b < 0 → a ≠ b → (TJ0 a).2.1 ≠ (TJ0 b).2.1 := by decide +kernel
theorem tyJ0_ok : ∀ k, k < 0 → parseFieldDescriptor (TJ0 k).2.2.1 = some (tyJ0 k) := by decide +kernel
def RJ10 : String := "java/lang/System"
def TJ10 : u_T := fun k => match k with
  | _ => ("", "", "", false)
def tyJ10 : Nat → FieldType := fun k => match k with
  | _ => .int
abbrev wsJ100 : List Cond := u_ws RJ10 TJ10 0
theorem nmJ10 : ∀ a, a < 0 → ∀ b, b < 0 → a ≠ b → (TJ10 a).2.1 ≠ (TJ10 b).2.1 := by decide +kernel
theorem tyJ10_ok : ∀ k, k < 0 → parseFieldDescriptor (TJ10 k).2.2.1 = some (tyJ10 k) := by decide +kernel
def RJxa1e45 : String := "java/util/AbstractCollection"
def TJxa1e45 : u_T := fun k => match k with
  | _ => ("", "", "", false)
def tyJxa1e45 : Nat → FieldType := fun k => match k with
  | _ => .int
abbrev wsJxa1e450 : List Cond := u_ws RJxa1e45 TJxa1e45 0
theorem nmJxa1e45 : ∀ a, a < 0 → ∀ b, b < 0 → a ≠ b → (TJxa1e45 a).2.1 ≠ (TJxa1e45 b).2.1 := by decide +kernel
theorem tyJxa1e45_ok : ∀ k, k < 0 → parseFieldDescriptor (TJxa1e45 k).2.2.1 = some (tyJxa1e45 k) := by decide +kernel
abbrev cJxa1e45_init_da8c8 : ByteArray := prog_19_method_1_code
def yJxa1e45_init_da8c8 : MethodName := ⟨RJxa1e45, "<init>", "()V"⟩
def RJxc12de : String := "java/util/AbstractList"
def TJxc12de : u_T := fun k => match k with
  | _ => ("", "", "", false)
def tyJxc12de : Nat → FieldType := fun k => match k with
  | _ => .int
abbrev wsJxc12de0 : List Cond := u_ws RJxc12de TJxc12de 0
theorem nmJxc12de : ∀ a, a < 0 → ∀ b, b < 0 → a ≠ b → (TJxc12de a).2.1 ≠ (TJxc12de b).2.1 := by decide +kernel
theorem tyJxc12de_ok : ∀ k, k < 0 → parseFieldDescriptor (TJxc12de k).2.2.1 = some (tyJxc12de k) := by decide +kernel
abbrev cJxc12de_init_da8c8 : ByteArray := prog_20_method_1_code
def yJxc12de_init_da8c8 : MethodName := ⟨RJxc12de, "<init>", "()V"⟩
def RJx4a65c : String := "java/util/ArrayList"
def TJx4a65c : u_T := fun k => match k with
  | 0 => ("java/util/AbstractList", "modCount", "I", false)
  | 1 => ("java/util/ArrayList", "elementData", "[Ljava/lang/Object;", false)
  | _ => ("java/util/ArrayList", "size", "I", false)
def tyJx4a65c : Nat → FieldType := fun k => match k with
  | 0 => .int
  | 1 => .array (.object "java/lang/Object")
  | _ => .int
abbrev wsJx4a65c0 : List Cond := u_ws RJx4a65c TJx4a65c 3
theorem nmJx4a65c : ∀ a, a < 3 → ∀ b, b < 3 → a ≠ b → (TJx4a65c a).2.1 ≠ (TJx4a65c b).2.1 := by decide +kernel
theorem tyJx4a65c_ok : ∀ k, k < 3 → parseFieldDescriptor (TJx4a65c k).2.2.1 = some (tyJx4a65c k) := by decide +kernel
abbrev cJx4a65c_init_da8c8 : ByteArray := prog_21_method_2_code
def yJx4a65c_init_da8c8 : MethodName := ⟨RJx4a65c, "<init>", "()V"⟩
abbrev cJx4a65c_grow_92f84 : ByteArray := prog_21_method_6_code
def yJx4a65c_grow_92f84 : MethodName := ⟨RJx4a65c, "grow", "(I)[Ljava/lang/Object;"⟩
abbrev cJx4a65c_grow_d5877 : ByteArray := prog_21_method_7_code
def yJx4a65c_grow_d5877 : MethodName := ⟨RJx4a65c, "grow", "()[Ljava/lang/Object;"⟩
abbrev cJx4a65c_size_8abf5 : ByteArray := prog_21_method_8_code
def yJx4a65c_size_8abf5 : MethodName := ⟨RJx4a65c, "size", "()I"⟩
abbrev cJx4a65c_elementData_915e3 : ByteArray := prog_21_method_18_code
def yJx4a65c_elementData_915e3 : MethodName := ⟨RJx4a65c, "elementData", "(I)Ljava/lang/Object;"⟩
abbrev cJx4a65c_get_915e3 : ByteArray := prog_21_method_20_code
def yJx4a65c_get_915e3 : MethodName := ⟨RJx4a65c, "get", "(I)Ljava/lang/Object;"⟩
abbrev cJx4a65c_add_72be8 : ByteArray := prog_21_method_24_code
def yJx4a65c_add_72be8 : MethodName := ⟨RJx4a65c, "add", "(Ljava/lang/Object;[Ljava/lang/Object;I)V"⟩
abbrev cJx4a65c_add_9ea2d : ByteArray := prog_21_method_25_code
def yJx4a65c_add_9ea2d : MethodName := ⟨RJx4a65c, "add", "(Ljava/lang/Object;)Z"⟩
def RJ7 : String := "java/util/Arrays"
def TJ7 : u_T := fun k => match k with
  | _ => ("", "", "", false)
def tyJ7 : Nat → FieldType := fun k => match k with
  | _ => .int
abbrev wsJ70 : List Cond := u_ws RJ7 TJ7 0
theorem nmJ7 : ∀ a, a < 0 → ∀ b, b < 0 → a ≠ b → (TJ7 a).2.1 ≠ (TJ7 b).2.1 := by decide +kernel
theorem tyJ7_ok : ∀ k, k < 0 → parseFieldDescriptor (TJ7 k).2.2.1 = some (tyJ7 k) := by decide +kernel
abbrev cJ7_fill_53178 : ByteArray := prog_22_method_103_code
def yJ7_fill_53178 : MethodName := ⟨RJ7, "fill", "([II)V"⟩
abbrev cJ7_copyOf_1904c : ByteArray := prog_22_method_119_code
def yJ7_copyOf_1904c : MethodName := ⟨RJ7, "copyOf", "([Ljava/lang/Object;I)[Ljava/lang/Object;"⟩
abbrev cJ7_copyOf_6403c : ByteArray := prog_22_method_120_code
def yJ7_copyOf_6403c : MethodName := ⟨RJ7, "copyOf", "([Ljava/lang/Object;ILjava/lang/Class;)[Ljava/lang/Object;"⟩
def RJx5ef63 : String := "java/util/Collection"
def TJx5ef63 : u_T := fun k => match k with
  | _ => ("", "", "", false)
def tyJx5ef63 : Nat → FieldType := fun k => match k with
  | _ => .int
abbrev wsJx5ef630 : List Cond := u_ws RJx5ef63 TJx5ef63 0
theorem nmJx5ef63 : ∀ a, a < 0 → ∀ b, b < 0 → a ≠ b → (TJx5ef63 a).2.1 ≠ (TJx5ef63 b).2.1 := by decide +kernel
theorem tyJx5ef63_ok : ∀ k, k < 0 → parseFieldDescriptor (TJx5ef63 k).2.2.1 = some (tyJx5ef63 k) := by decide +kernel
def RJxbd725 : String := "java/util/List"
def TJxbd725 : u_T := fun k => match k with
  | _ => ("", "", "", false)
def tyJxbd725 : Nat → FieldType := fun k => match k with
  | _ => .int
abbrev wsJxbd7250 : List Cond := u_ws RJxbd725 TJxbd725 0
theorem nmJxbd725 : ∀ a, a < 0 → ∀ b, b < 0 → a ≠ b → (TJxbd725 a).2.1 ≠ (TJxbd725 b).2.1 := by decide +kernel
theorem tyJxbd725_ok : ∀ k, k < 0 → parseFieldDescriptor (TJxbd725 k).2.2.1 = some (tyJxbd725 k) := by decide +kernel
def RJ15 : String := "java/util/Objects"
def TJ15 : u_T := fun k => match k with
  | _ => ("", "", "", false)
def tyJ15 : Nat → FieldType := fun k => match k with
  | _ => .int
abbrev wsJ150 : List Cond := u_ws RJ15 TJ15 0
theorem nmJ15 : ∀ a, a < 0 → ∀ b, b < 0 → a ≠ b → (TJ15 a).2.1 ≠ (TJ15 b).2.1 := by decide +kernel
theorem tyJ15_ok : ∀ k, k < 0 → parseFieldDescriptor (TJ15 k).2.2.1 = some (tyJ15 k) := by decide +kernel
abbrev cJ15_checkIndex_7cf53 : ByteArray := prog_25_method_17_code
def yJ15_checkIndex_7cf53 : MethodName := ⟨RJ15, "checkIndex", "(II)I"⟩
def RJxf0a74 : String := "java/util/RandomAccess"
def TJxf0a74 : u_T := fun k => match k with
  | _ => ("", "", "", false)
def tyJxf0a74 : Nat → FieldType := fun k => match k with
  | _ => .int
abbrev wsJxf0a740 : List Cond := u_ws RJxf0a74 TJxf0a74 0
theorem nmJxf0a74 : ∀ a, a < 0 → ∀ b, b < 0 → a ≠ b → (TJxf0a74 a).2.1 ≠ (TJxf0a74 b).2.1 := by decide +kernel
theorem tyJxf0a74_ok : ∀ k, k < 0 → parseFieldDescriptor (TJxf0a74 k).2.2.1 = some (tyJxf0a74 k) := by decide +kernel
def RJxa66e6 : String := "java/util/SequencedCollection"
def TJxa66e6 : u_T := fun k => match k with
  | _ => ("", "", "", false)
def tyJxa66e6 : Nat → FieldType := fun k => match k with
  | _ => .int
abbrev wsJxa66e60 : List Cond := u_ws RJxa66e6 TJxa66e6 0
theorem nmJxa66e6 : ∀ a, a < 0 → ∀ b, b < 0 → a ≠ b → (TJxa66e6 a).2.1 ≠ (TJxa66e6 b).2.1 := by decide +kernel
theorem tyJxa66e6_ok : ∀ k, k < 0 → parseFieldDescriptor (TJxa66e6 k).2.2.1 = some (tyJxa66e6 k) := by decide +kernel
def RJ8 : String := "jdk/internal/util/ArraysSupport"
def TJ8 : u_T := fun k => match k with
  | _ => ("", "", "", false)
def tyJ8 : Nat → FieldType := fun k => match k with
  | _ => .int
abbrev wsJ80 : List Cond := u_ws RJ8 TJ8 0
theorem nmJ8 : ∀ a, a < 0 → ∀ b, b < 0 → a ≠ b → (TJ8 a).2.1 ≠ (TJ8 b).2.1 := by decide +kernel
theorem tyJ8_ok : ∀ k, k < 0 → parseFieldDescriptor (TJ8 k).2.2.1 = some (tyJ8 k) := by decide +kernel
abbrev cJ8_newLength_cabcc : ByteArray := prog_28_method_27_code
def yJ8_newLength_cabcc : MethodName := ⟨RJ8, "newLength", "(III)I"⟩
abbrev cJ8_hugeLength_7cf53 : ByteArray := prog_28_method_28_code
def yJ8_hugeLength_7cf53 : MethodName := ⟨RJ8, "hugeLength", "(II)I"⟩
def RJ3 : String := "jdk/internal/util/Preconditions"
def TJ3 : u_T := fun k => match k with
  | _ => ("", "", "", false)
def tyJ3 : Nat → FieldType := fun k => match k with
  | _ => .int
abbrev wsJ30 : List Cond := u_ws RJ3 TJ3 0
theorem nmJ3 : ∀ a, a < 0 → ∀ b, b < 0 → a ≠ b → (TJ3 a).2.1 ≠ (TJ3 b).2.1 := by decide +kernel
theorem tyJ3_ok : ∀ k, k < 0 → parseFieldDescriptor (TJ3 k).2.2.1 = some (tyJ3 k) := by decide +kernel
abbrev cJ3_checkIndex_8e157 : ByteArray := prog_29_method_11_code
def yJ3_checkIndex_8e157 : MethodName := ⟨RJ3, "checkIndex", "(IILjava/util/function/BiFunction;)I"⟩
def RL : String := "OpalFieldLaw"
abbrev cL_seam : ByteArray := method_3_code
def yL_seam : MethodName := ⟨RL, "seam", "(LOpalField;III)I"⟩
abbrev cL_pass : ByteArray := method_4_code
def yL_pass : MethodName := ⟨RL, "pass", "(LOpalField;I[J)I"⟩
abbrev cL_peg : ByteArray := method_5_code
def yL_peg : MethodName := ⟨RL, "peg", "(LOpalField;IIII[J)I"⟩
abbrev cL_witness : ByteArray := method_6_code
def yL_witness : MethodName := ⟨RL, "witness", "(LOpalField;III[J)I"⟩
abbrev cL_partner : ByteArray := method_7_code
def yL_partner : MethodName := ⟨RL, "partner", "(LOpalField;III[J)I"⟩
abbrev cL_dig : ByteArray := method_8_code
def yL_dig : MethodName := ⟨RL, "dig", "(LOpalField;III[J)I"⟩
abbrev cL_sink : ByteArray := method_9_code
def yL_sink : MethodName := ⟨RL, "sink", "(LOpalField;III[J)I"⟩
abbrev cL_prop : ByteArray := method_10_code
def yL_prop : MethodName := ⟨RL, "prop", "(LOpalField;III)I"⟩
abbrev cL_trap : ByteArray := method_11_code
def yL_trap : MethodName := ⟨RL, "trap", "(LOpalField;III[J)I"⟩
abbrev cL_rat : ByteArray := method_12_code
def yL_rat : MethodName := ⟨RL, "rat", "(LOpalField;II[J)I"⟩
abbrev cL_divide : ByteArray := method_13_code
def yL_divide : MethodName := ⟨RL, "divide", "(LOpalField;I[J)I"⟩
abbrev cL_rub : ByteArray := method_14_code
def yL_rub : MethodName := ⟨RL, "rub", "(LOpalField;I[J)I"⟩
abbrev cL_bid : ByteArray := method_15_code
def yL_bid : MethodName := ⟨RL, "bid", "(LOpalField;III[J)I"⟩
abbrev cL_sell : ByteArray := method_16_code
def yL_sell : MethodName := ⟨RL, "sell", "(LOpalField;I[J)I"⟩
abbrev cL_bore : ByteArray := method_17_code
def yL_bore : MethodName := ⟨RL, "bore", "(LOpalField;I[J)I"⟩
abbrev cL_ofCell : ByteArray := method_18_code
def yL_ofCell : MethodName := ⟨RL, "ofCell", "(LOpalField;II[J)I"⟩
abbrev cL_ofClaim : ByteArray := method_19_code
def yL_ofClaim : MethodName := ⟨RL, "ofClaim", "(LOpalField;II[J)I"⟩
abbrev cL_share : ByteArray := method_20_code
def yL_share : MethodName := ⟨RL, "share", "(LOpalField;II[J)I"⟩
abbrev cL_verdict : ByteArray := method_21_code
def yL_verdict : MethodName := ⟨RL, "verdict", "(LOpalField;II[J)I"⟩
abbrev cL_ofPerson : ByteArray := method_22_code
def yL_ofPerson : MethodName := ⟨RL, "ofPerson", "(LOpalField;II[J)I"⟩
abbrev cL_ofStone : ByteArray := method_23_code
def yL_ofStone : MethodName := ⟨RL, "ofStone", "(LOpalField;II[J)I"⟩
abbrev cL_purse : ByteArray := method_24_code
def yL_purse : MethodName := ⟨RL, "purse", "(LOpalField;I[J)I"⟩
abbrev cL_carats : ByteArray := method_25_code
def yL_carats : MethodName := ⟨RL, "carats", "(LOpalField;I[J)I"⟩
abbrev cL_plan : ByteArray := method_26_code
def yL_plan : MethodName := ⟨RL, "plan", "(LOpalField;II[J)I"⟩
abbrev cL_planAnew : ByteArray := method_27_code
def yL_planAnew : MethodName := ⟨RL, "planAnew", "(LOpalField;II[J)I"⟩
abbrev cL_law : ByteArray := code
def yL_law : MethodName := ⟨RL, "law", "([I)Z"⟩
abbrev vwCl : List vw_C := [(RJx4a65c, TJx4a65c, 3), (RX0, TX0, 10), (RX1, TX1, 6), (RX2, TX2, 11), (RX3, TX3, 10), (RX4, TX4, 37)]
end
section
theorem dX0_init_0 : decode cX0_init 0 = .ok (.aload_n 0, 1) := by decide +kernel
theorem dX0_init_1 : decode cX0_init 1 = .ok (.invokespecial 3, 3) := by decide +kernel
theorem dX0_init_4 : decode cX0_init 4 = .ok (.aload_n 0, 1) := by decide +kernel
theorem dX0_init_5 : decode cX0_init 5 = .ok (.bipush 8, 2) := by decide +kernel
theorem dX0_init_7 : decode cX0_init 7 = .ok (.newarray .int, 2) := by decide +kernel
theorem dX0_init_9 : decode cX0_init 9 = .ok (.putfield 9, 3) := by decide +kernel
theorem dX0_init_12 : decode cX0_init 12 = .ok (.aload_n 0, 1) := by decide +kernel
theorem dX0_init_13 : decode cX0_init 13 = .ok (.bipush 8, 2) := by decide +kernel
theorem dX0_init_15 : decode cX0_init 15 = .ok (.newarray .int, 2) := by decide +kernel
theorem dX0_init_17 : decode cX0_init 17 = .ok (.putfield 15, 3) := by decide +kernel
theorem dX0_init_20 : decode cX0_init 20 = .ok (.aload_n 0, 1) := by decide +kernel
theorem dX0_init_21 : decode cX0_init 21 = .ok (.iload_n 1, 1) := by decide +kernel
theorem dX0_init_22 : decode cX0_init 22 = .ok (.putfield 18, 3) := by decide +kernel
theorem dX0_init_25 : decode cX0_init 25 = .ok (.aload_n 0, 1) := by decide +kernel
theorem dX0_init_26 : decode cX0_init 26 = .ok (.iload_n 2, 1) := by decide +kernel
theorem dX0_init_27 : decode cX0_init 27 = .ok (.bipush 10, 2) := by decide +kernel
theorem dX0_init_29 : decode cX0_init 29 = .ok (.idiv, 1) := by decide +kernel
theorem dX0_init_30 : decode cX0_init 30 = .ok (.putfield 22, 3) := by decide +kernel
theorem dX0_init_33 : decode cX0_init 33 = .ok (.aload_n 0, 1) := by decide +kernel
theorem dX0_init_34 : decode cX0_init 34 = .ok (.iload_n 2, 1) := by decide +kernel
theorem dX0_init_35 : decode cX0_init 35 = .ok (.bipush 10, 2) := by decide +kernel
theorem dX0_init_37 : decode cX0_init 37 = .ok (.irem, 1) := by decide +kernel
theorem dX0_init_38 : decode cX0_init 38 = .ok (.putfield 25, 3) := by decide +kernel
theorem dX0_init_41 : decode cX0_init 41 = .ok (.aload_n 0, 1) := by decide +kernel
theorem dX0_init_42 : decode cX0_init 42 = .ok (.iload_n 3, 1) := by decide +kernel
theorem dX0_init_43 : decode cX0_init 43 = .ok (.putfield 28, 3) := by decide +kernel
theorem dX0_init_46 : decode cX0_init 46 = .ok (.aload_n 0, 1) := by decide +kernel
theorem dX0_init_47 : decode cX0_init 47 = .ok (.iload 4, 2) := by decide +kernel
theorem dX0_init_49 : decode cX0_init 49 = .ok (.putfield 31, 3) := by decide +kernel
theorem dX0_init_52 : decode cX0_init 52 = .ok (.aload_n 0, 1) := by decide +kernel
theorem dX0_init_53 : decode cX0_init 53 = .ok (.iload 5, 2) := by decide +kernel
theorem dX0_init_55 : decode cX0_init 55 = .ok (.putfield 34, 3) := by decide +kernel
theorem dX0_init_58 : decode cX0_init 58 = .ok (.aload_n 0, 1) := by decide +kernel
theorem dX0_init_59 : decode cX0_init 59 = .ok (.iload 5, 2) := by decide +kernel
theorem dX0_init_61 : decode cX0_init 61 = .ok (.putfield 37, 3) := by decide +kernel
theorem dX0_init_64 : decode cX0_init 64 = .ok (.iload_n 1, 1) := by decide +kernel
theorem dX0_init_65 : decode cX0_init 65 = .ok (.ifCond .lt 17, 3) := by decide +kernel
theorem dX0_init_68 : decode cX0_init 68 = .ok (.iload_n 1, 1) := by decide +kernel
theorem dX0_init_69 : decode cX0_init 69 = .ok (.bipush 8, 2) := by decide +kernel
theorem dX0_init_71 : decode cX0_init 71 = .ok (.if_icmp .ge 11, 3) := by decide +kernel
theorem dX0_init_74 : decode cX0_init 74 = .ok (.aload_n 0, 1) := by decide +kernel
theorem dX0_init_75 : decode cX0_init 75 = .ok (.getfield 9, 3) := by decide +kernel
theorem dX0_init_78 : decode cX0_init 78 = .ok (.iload_n 1, 1) := by decide +kernel
theorem dX0_init_79 : decode cX0_init 79 = .ok (.bipush 12, 2) := by decide +kernel
theorem dX0_init_81 : decode cX0_init 81 = .ok (.iastore, 1) := by decide +kernel
theorem dX0_init_82 : decode cX0_init 82 = .ok (.aload_n 0, 1) := by decide +kernel
theorem dX0_init_83 : decode cX0_init 83 = .ok (.getfield 15, 3) := by decide +kernel
theorem dX0_init_86 : decode cX0_init 86 = .ok (.iconst (-1), 1) := by decide +kernel
theorem dX0_init_87 : decode cX0_init 87 = .ok (.invokestatic 40, 3) := by decide +kernel
theorem dX0_init_90 : decode cX0_init 90 = .ok (.return_, 1) := by decide +kernel
theorem dX0_isOfPeople_0 : decode cX0_isOfPeople 0 = .ok (.aload_n 0, 1) := by decide +kernel
theorem dX0_isOfPeople_1 : decode cX0_isOfPeople 1 = .ok (.getfield 9, 3) := by decide +kernel
theorem dX0_isOfPeople_4 : decode cX0_isOfPeople 4 = .ok (.iload_n 1, 1) := by decide +kernel
theorem dX0_isOfPeople_5 : decode cX0_isOfPeople 5 = .ok (.iaload, 1) := by decide +kernel
theorem dX0_isOfPeople_6 : decode cX0_isOfPeople 6 = .ok (.ifCond .le 7, 3) := by decide +kernel
theorem dX0_isOfPeople_9 : decode cX0_isOfPeople 9 = .ok (.iconst 1, 1) := by decide +kernel
theorem dX0_isOfPeople_10 : decode cX0_isOfPeople 10 = .ok (.goto 4, 3) := by decide +kernel
theorem dX0_isOfPeople_13 : decode cX0_isOfPeople 13 = .ok (.iconst 0, 1) := by decide +kernel
theorem dX0_isOfPeople_14 : decode cX0_isOfPeople 14 = .ok (.ireturn, 1) := by decide +kernel
theorem dX0_isLive_0 : decode cX0_isLive 0 = .ok (.aload_n 0, 1) := by decide +kernel
theorem dX0_isLive_1 : decode cX0_isLive 1 = .ok (.iload_n 1, 1) := by decide +kernel
theorem dX0_isLive_2 : decode cX0_isLive 2 = .ok (.invokevirtual 46, 3) := by decide +kernel
theorem dX0_isLive_5 : decode cX0_isLive 5 = .ok (.ifCond .le 7, 3) := by decide +kernel
theorem dX0_isLive_8 : decode cX0_isLive 8 = .ok (.iconst 1, 1) := by decide +kernel
theorem dX0_isLive_9 : decode cX0_isLive 9 = .ok (.goto 4, 3) := by decide +kernel
theorem dX0_isLive_12 : decode cX0_isLive 12 = .ok (.iconst 0, 1) := by decide +kernel
theorem dX0_isLive_13 : decode cX0_isLive 13 = .ok (.ireturn, 1) := by decide +kernel
theorem dX0_hoursToLapse_0 : decode cX0_hoursToLapse 0 = .ok (.iconst 0, 1) := by decide +kernel
theorem dX0_hoursToLapse_1 : decode cX0_hoursToLapse 1 = .ok (.bipush 72, 2) := by decide +kernel
theorem dX0_hoursToLapse_3 : decode cX0_hoursToLapse 3 = .ok (.iload_n 1, 1) := by decide +kernel
theorem dX0_hoursToLapse_4 : decode cX0_hoursToLapse 4 = .ok (.aload_n 0, 1) := by decide +kernel
theorem dX0_hoursToLapse_5 : decode cX0_hoursToLapse 5 = .ok (.getfield 37, 3) := by decide +kernel
theorem dX0_hoursToLapse_8 : decode cX0_hoursToLapse 8 = .ok (.isub, 1) := by decide +kernel
theorem dX0_hoursToLapse_9 : decode cX0_hoursToLapse 9 = .ok (.isub, 1) := by decide +kernel
theorem dX0_hoursToLapse_10 : decode cX0_hoursToLapse 10 = .ok (.invokestatic 50, 3) := by decide +kernel
theorem dX0_hoursToLapse_13 : decode cX0_hoursToLapse 13 = .ok (.ireturn, 1) := by decide +kernel
theorem dX0_covers_0 : decode cX0_covers 0 = .ok (.iload_n 1, 1) := by decide +kernel
theorem dX0_covers_1 : decode cX0_covers 1 = .ok (.bipush 10, 2) := by decide +kernel
theorem dX0_covers_3 : decode cX0_covers 3 = .ok (.idiv, 1) := by decide +kernel
theorem dX0_covers_4 : decode cX0_covers 4 = .ok (.istore_n 2, 1) := by decide +kernel
theorem dX0_covers_5 : decode cX0_covers 5 = .ok (.iload_n 1, 1) := by decide +kernel
theorem dX0_covers_6 : decode cX0_covers 6 = .ok (.bipush 10, 2) := by decide +kernel
theorem dX0_covers_8 : decode cX0_covers 8 = .ok (.irem, 1) := by decide +kernel
theorem dX0_covers_9 : decode cX0_covers 9 = .ok (.istore_n 3, 1) := by decide +kernel
theorem dX0_covers_10 : decode cX0_covers 10 = .ok (.iload_n 2, 1) := by decide +kernel
theorem dX0_covers_11 : decode cX0_covers 11 = .ok (.aload_n 0, 1) := by decide +kernel
theorem dX0_covers_12 : decode cX0_covers 12 = .ok (.getfield 22, 3) := by decide +kernel
theorem dX0_covers_15 : decode cX0_covers 15 = .ok (.if_icmp .lt 41, 3) := by decide +kernel
theorem dX0_covers_18 : decode cX0_covers 18 = .ok (.iload_n 2, 1) := by decide +kernel
theorem dX0_covers_19 : decode cX0_covers 19 = .ok (.aload_n 0, 1) := by decide +kernel
theorem dX0_covers_20 : decode cX0_covers 20 = .ok (.getfield 22, 3) := by decide +kernel
theorem dX0_covers_23 : decode cX0_covers 23 = .ok (.aload_n 0, 1) := by decide +kernel
theorem dX0_covers_24 : decode cX0_covers 24 = .ok (.getfield 28, 3) := by decide +kernel
theorem dX0_covers_27 : decode cX0_covers 27 = .ok (.iadd, 1) := by decide +kernel
theorem dX0_covers_28 : decode cX0_covers 28 = .ok (.if_icmp .ge 28, 3) := by decide +kernel
theorem dX0_covers_31 : decode cX0_covers 31 = .ok (.iload_n 3, 1) := by decide +kernel
theorem dX0_covers_32 : decode cX0_covers 32 = .ok (.aload_n 0, 1) := by decide +kernel
theorem dX0_covers_33 : decode cX0_covers 33 = .ok (.getfield 25, 3) := by decide +kernel
theorem dX0_covers_36 : decode cX0_covers 36 = .ok (.if_icmp .lt 20, 3) := by decide +kernel
theorem dX0_covers_39 : decode cX0_covers 39 = .ok (.iload_n 3, 1) := by decide +kernel
theorem dX0_covers_40 : decode cX0_covers 40 = .ok (.aload_n 0, 1) := by decide +kernel
theorem dX0_covers_41 : decode cX0_covers 41 = .ok (.getfield 25, 3) := by decide +kernel
theorem dX0_covers_44 : decode cX0_covers 44 = .ok (.aload_n 0, 1) := by decide +kernel
theorem dX0_covers_45 : decode cX0_covers 45 = .ok (.getfield 31, 3) := by decide +kernel
theorem dX0_covers_48 : decode cX0_covers 48 = .ok (.iadd, 1) := by decide +kernel
theorem dX0_covers_49 : decode cX0_covers 49 = .ok (.if_icmp .ge 7, 3) := by decide +kernel
theorem dX0_covers_52 : decode cX0_covers 52 = .ok (.iconst 1, 1) := by decide +kernel
theorem dX0_covers_53 : decode cX0_covers 53 = .ok (.goto 4, 3) := by decide +kernel
theorem dX0_covers_56 : decode cX0_covers 56 = .ok (.iconst 0, 1) := by decide +kernel
theorem dX0_covers_57 : decode cX0_covers 57 = .ok (.ireturn, 1) := by decide +kernel
theorem dX0_overlaps_0 : decode cX0_overlaps 0 = .ok (.aload_n 0, 1) := by decide +kernel
theorem dX0_overlaps_1 : decode cX0_overlaps 1 = .ok (.getfield 22, 3) := by decide +kernel
theorem dX0_overlaps_4 : decode cX0_overlaps 4 = .ok (.aload_n 1, 1) := by decide +kernel
theorem dX0_overlaps_5 : decode cX0_overlaps 5 = .ok (.getfield 22, 3) := by decide +kernel
theorem dX0_overlaps_8 : decode cX0_overlaps 8 = .ok (.aload_n 1, 1) := by decide +kernel
theorem dX0_overlaps_9 : decode cX0_overlaps 9 = .ok (.getfield 28, 3) := by decide +kernel
theorem dX0_overlaps_12 : decode cX0_overlaps 12 = .ok (.iadd, 1) := by decide +kernel
theorem dX0_overlaps_13 : decode cX0_overlaps 13 = .ok (.if_icmp .ge 55, 3) := by decide +kernel
theorem dX0_overlaps_16 : decode cX0_overlaps 16 = .ok (.aload_n 1, 1) := by decide +kernel
theorem dX0_overlaps_17 : decode cX0_overlaps 17 = .ok (.getfield 22, 3) := by decide +kernel
theorem dX0_overlaps_20 : decode cX0_overlaps 20 = .ok (.aload_n 0, 1) := by decide +kernel
theorem dX0_overlaps_21 : decode cX0_overlaps 21 = .ok (.getfield 22, 3) := by decide +kernel
theorem dX0_overlaps_24 : decode cX0_overlaps 24 = .ok (.aload_n 0, 1) := by decide +kernel
theorem dX0_overlaps_25 : decode cX0_overlaps 25 = .ok (.getfield 28, 3) := by decide +kernel
theorem dX0_overlaps_28 : decode cX0_overlaps 28 = .ok (.iadd, 1) := by decide +kernel
theorem dX0_overlaps_29 : decode cX0_overlaps 29 = .ok (.if_icmp .ge 39, 3) := by decide +kernel
theorem dX0_overlaps_32 : decode cX0_overlaps 32 = .ok (.aload_n 0, 1) := by decide +kernel
theorem dX0_overlaps_33 : decode cX0_overlaps 33 = .ok (.getfield 25, 3) := by decide +kernel
theorem dX0_overlaps_36 : decode cX0_overlaps 36 = .ok (.aload_n 1, 1) := by decide +kernel
theorem dX0_overlaps_37 : decode cX0_overlaps 37 = .ok (.getfield 25, 3) := by decide +kernel
theorem dX0_overlaps_40 : decode cX0_overlaps 40 = .ok (.aload_n 1, 1) := by decide +kernel
theorem dX0_overlaps_41 : decode cX0_overlaps 41 = .ok (.getfield 31, 3) := by decide +kernel
theorem dX0_overlaps_44 : decode cX0_overlaps 44 = .ok (.iadd, 1) := by decide +kernel
theorem dX0_overlaps_45 : decode cX0_overlaps 45 = .ok (.if_icmp .ge 23, 3) := by decide +kernel
theorem dX0_overlaps_48 : decode cX0_overlaps 48 = .ok (.aload_n 1, 1) := by decide +kernel
theorem dX0_overlaps_49 : decode cX0_overlaps 49 = .ok (.getfield 25, 3) := by decide +kernel
theorem dX0_overlaps_52 : decode cX0_overlaps 52 = .ok (.aload_n 0, 1) := by decide +kernel
theorem dX0_overlaps_53 : decode cX0_overlaps 53 = .ok (.getfield 25, 3) := by decide +kernel
theorem dX0_overlaps_56 : decode cX0_overlaps 56 = .ok (.aload_n 0, 1) := by decide +kernel
theorem dX0_overlaps_57 : decode cX0_overlaps 57 = .ok (.getfield 31, 3) := by decide +kernel
theorem dX0_overlaps_60 : decode cX0_overlaps 60 = .ok (.iadd, 1) := by decide +kernel
theorem dX0_overlaps_61 : decode cX0_overlaps 61 = .ok (.if_icmp .ge 7, 3) := by decide +kernel
theorem dX0_overlaps_64 : decode cX0_overlaps 64 = .ok (.iconst 1, 1) := by decide +kernel
theorem dX0_overlaps_65 : decode cX0_overlaps 65 = .ok (.goto 4, 3) := by decide +kernel
theorem dX0_overlaps_68 : decode cX0_overlaps 68 = .ok (.iconst 0, 1) := by decide +kernel
theorem dX0_overlaps_69 : decode cX0_overlaps 69 = .ok (.ireturn, 1) := by decide +kernel
theorem dX0_middleHourTold_0 : decode cX0_middleHourTold 0 = .ok (.aload_n 0, 1) := by decide +kernel
theorem dX0_middleHourTold_1 : decode cX0_middleHourTold 1 = .ok (.getfield 34, 3) := by decide +kernel
theorem dX0_middleHourTold_4 : decode cX0_middleHourTold 4 = .ok (.istore_n 1, 1) := by decide +kernel
theorem dX0_middleHourTold_5 : decode cX0_middleHourTold 5 = .ok (.iconst 0, 1) := by decide +kernel
theorem dX0_middleHourTold_6 : decode cX0_middleHourTold 6 = .ok (.istore_n 2, 1) := by decide +kernel
theorem dX0_middleHourTold_7 : decode cX0_middleHourTold 7 = .ok (.iload_n 2, 1) := by decide +kernel
theorem dX0_middleHourTold_8 : decode cX0_middleHourTold 8 = .ok (.bipush 8, 2) := by decide +kernel
theorem dX0_middleHourTold_10 : decode cX0_middleHourTold 10 = .ok (.if_icmp .ge 39, 3) := by decide +kernel
theorem dX0_middleHourTold_13 : decode cX0_middleHourTold 13 = .ok (.aload_n 0, 1) := by decide +kernel
theorem dX0_middleHourTold_14 : decode cX0_middleHourTold 14 = .ok (.getfield 15, 3) := by decide +kernel
theorem dX0_middleHourTold_17 : decode cX0_middleHourTold 17 = .ok (.iload_n 2, 1) := by decide +kernel
theorem dX0_middleHourTold_18 : decode cX0_middleHourTold 18 = .ok (.iaload, 1) := by decide +kernel
theorem dX0_middleHourTold_19 : decode cX0_middleHourTold 19 = .ok (.iconst (-1), 1) := by decide +kernel
theorem dX0_middleHourTold_20 : decode cX0_middleHourTold 20 = .ok (.if_icmp .eq 23, 3) := by decide +kernel
theorem dX0_middleHourTold_23 : decode cX0_middleHourTold 23 = .ok (.aload_n 0, 1) := by decide +kernel
theorem dX0_middleHourTold_24 : decode cX0_middleHourTold 24 = .ok (.aload_n 0, 1) := by decide +kernel
theorem dX0_middleHourTold_25 : decode cX0_middleHourTold 25 = .ok (.getfield 15, 3) := by decide +kernel
theorem dX0_middleHourTold_28 : decode cX0_middleHourTold 28 = .ok (.iload_n 2, 1) := by decide +kernel
theorem dX0_middleHourTold_29 : decode cX0_middleHourTold 29 = .ok (.iaload, 1) := by decide +kernel
theorem dX0_middleHourTold_30 : decode cX0_middleHourTold 30 = .ok (.invokevirtual 56, 3) := by decide +kernel
theorem dX0_middleHourTold_33 : decode cX0_middleHourTold 33 = .ok (.ifCond .eq 10, 3) := by decide +kernel
theorem dX0_middleHourTold_36 : decode cX0_middleHourTold 36 = .ok (.aload_n 0, 1) := by decide +kernel
theorem dX0_middleHourTold_37 : decode cX0_middleHourTold 37 = .ok (.getfield 15, 3) := by decide +kernel
theorem dX0_middleHourTold_40 : decode cX0_middleHourTold 40 = .ok (.iload_n 2, 1) := by decide +kernel
theorem dX0_middleHourTold_41 : decode cX0_middleHourTold 41 = .ok (.iaload, 1) := by decide +kernel
theorem dX0_middleHourTold_42 : decode cX0_middleHourTold 42 = .ok (.istore_n 1, 1) := by decide +kernel
theorem dX0_middleHourTold_43 : decode cX0_middleHourTold 43 = .ok (.iinc 2 1, 3) := by decide +kernel
theorem dX0_middleHourTold_46 : decode cX0_middleHourTold 46 = .ok (.goto (-39), 3) := by decide +kernel
theorem dX0_middleHourTold_49 : decode cX0_middleHourTold 49 = .ok (.iload_n 1, 1) := by decide +kernel
theorem dX0_middleHourTold_50 : decode cX0_middleHourTold 50 = .ok (.ireturn, 1) := by decide +kernel
theorem dX0_isMiddle_0 : decode cX0_isMiddle 0 = .ok (.iconst 0, 1) := by decide +kernel
theorem dX0_isMiddle_1 : decode cX0_isMiddle 1 = .ok (.istore_n 2, 1) := by decide +kernel
theorem dX0_isMiddle_2 : decode cX0_isMiddle 2 = .ok (.iconst 0, 1) := by decide +kernel
theorem dX0_isMiddle_3 : decode cX0_isMiddle 3 = .ok (.istore_n 3, 1) := by decide +kernel
theorem dX0_isMiddle_4 : decode cX0_isMiddle 4 = .ok (.iconst 0, 1) := by decide +kernel
theorem dX0_isMiddle_5 : decode cX0_isMiddle 5 = .ok (.istore 4, 2) := by decide +kernel
theorem dX0_isMiddle_7 : decode cX0_isMiddle 7 = .ok (.iconst 0, 1) := by decide +kernel
theorem dX0_isMiddle_8 : decode cX0_isMiddle 8 = .ok (.istore 5, 2) := by decide +kernel
theorem dX0_isMiddle_10 : decode cX0_isMiddle 10 = .ok (.iload 5, 2) := by decide +kernel
theorem dX0_isMiddle_12 : decode cX0_isMiddle 12 = .ok (.bipush 8, 2) := by decide +kernel
theorem dX0_isMiddle_14 : decode cX0_isMiddle 14 = .ok (.if_icmp .ge 63, 3) := by decide +kernel
theorem dX0_isMiddle_17 : decode cX0_isMiddle 17 = .ok (.aload_n 0, 1) := by decide +kernel
theorem dX0_isMiddle_18 : decode cX0_isMiddle 18 = .ok (.getfield 15, 3) := by decide +kernel
theorem dX0_isMiddle_21 : decode cX0_isMiddle 21 = .ok (.iload 5, 2) := by decide +kernel
theorem dX0_isMiddle_23 : decode cX0_isMiddle 23 = .ok (.iaload, 1) := by decide +kernel
theorem dX0_isMiddle_24 : decode cX0_isMiddle 24 = .ok (.istore 6, 2) := by decide +kernel
theorem dX0_isMiddle_26 : decode cX0_isMiddle 26 = .ok (.iload 6, 2) := by decide +kernel
theorem dX0_isMiddle_28 : decode cX0_isMiddle 28 = .ok (.iconst (-1), 1) := by decide +kernel
theorem dX0_isMiddle_29 : decode cX0_isMiddle 29 = .ok (.if_icmp .eq 42, 3) := by decide +kernel
theorem dX0_isMiddle_32 : decode cX0_isMiddle 32 = .ok (.iinc 2 1, 3) := by decide +kernel
theorem dX0_isMiddle_35 : decode cX0_isMiddle 35 = .ok (.iload_n 3, 1) := by decide +kernel
theorem dX0_isMiddle_36 : decode cX0_isMiddle 36 = .ok (.iload 6, 2) := by decide +kernel
theorem dX0_isMiddle_38 : decode cX0_isMiddle 38 = .ok (.iload_n 1, 1) := by decide +kernel
theorem dX0_isMiddle_39 : decode cX0_isMiddle 39 = .ok (.if_icmp .ge 7, 3) := by decide +kernel
theorem dX0_isMiddle_42 : decode cX0_isMiddle 42 = .ok (.iconst 1, 1) := by decide +kernel
theorem dX0_isMiddle_43 : decode cX0_isMiddle 43 = .ok (.goto 4, 3) := by decide +kernel
theorem dX0_isMiddle_46 : decode cX0_isMiddle 46 = .ok (.iconst 0, 1) := by decide +kernel
theorem dX0_isMiddle_47 : decode cX0_isMiddle 47 = .ok (.invokestatic 60, 3) := by decide +kernel
theorem dX0_isMiddle_50 : decode cX0_isMiddle 50 = .ok (.iadd, 1) := by decide +kernel
theorem dX0_isMiddle_51 : decode cX0_isMiddle 51 = .ok (.istore_n 3, 1) := by decide +kernel
theorem dX0_isMiddle_52 : decode cX0_isMiddle 52 = .ok (.iload 4, 2) := by decide +kernel
theorem dX0_isMiddle_54 : decode cX0_isMiddle 54 = .ok (.iload 6, 2) := by decide +kernel
theorem dX0_isMiddle_56 : decode cX0_isMiddle 56 = .ok (.iload_n 1, 1) := by decide +kernel
theorem dX0_isMiddle_57 : decode cX0_isMiddle 57 = .ok (.if_icmp .gt 7, 3) := by decide +kernel
theorem dX0_isMiddle_60 : decode cX0_isMiddle 60 = .ok (.iconst 1, 1) := by decide +kernel
theorem dX0_isMiddle_61 : decode cX0_isMiddle 61 = .ok (.goto 4, 3) := by decide +kernel
theorem dX0_isMiddle_64 : decode cX0_isMiddle 64 = .ok (.iconst 0, 1) := by decide +kernel
theorem dX0_isMiddle_65 : decode cX0_isMiddle 65 = .ok (.invokestatic 60, 3) := by decide +kernel
theorem dX0_isMiddle_68 : decode cX0_isMiddle 68 = .ok (.iadd, 1) := by decide +kernel
theorem dX0_isMiddle_69 : decode cX0_isMiddle 69 = .ok (.istore 4, 2) := by decide +kernel
theorem dX0_isMiddle_71 : decode cX0_isMiddle 71 = .ok (.iinc 5 1, 3) := by decide +kernel
theorem dX0_isMiddle_74 : decode cX0_isMiddle 74 = .ok (.goto (-64), 3) := by decide +kernel
theorem dX0_isMiddle_77 : decode cX0_isMiddle 77 = .ok (.iload_n 2, 1) := by decide +kernel
theorem dX0_isMiddle_78 : decode cX0_isMiddle 78 = .ok (.iconst 1, 1) := by decide +kernel
theorem dX0_isMiddle_79 : decode cX0_isMiddle 79 = .ok (.isub, 1) := by decide +kernel
theorem dX0_isMiddle_80 : decode cX0_isMiddle 80 = .ok (.iconst 2, 1) := by decide +kernel
theorem dX0_isMiddle_81 : decode cX0_isMiddle 81 = .ok (.idiv, 1) := by decide +kernel
theorem dX0_isMiddle_82 : decode cX0_isMiddle 82 = .ok (.istore 5, 2) := by decide +kernel
theorem dX0_isMiddle_84 : decode cX0_isMiddle 84 = .ok (.iload_n 3, 1) := by decide +kernel
theorem dX0_isMiddle_85 : decode cX0_isMiddle 85 = .ok (.iload 5, 2) := by decide +kernel
theorem dX0_isMiddle_87 : decode cX0_isMiddle 87 = .ok (.if_icmp .gt 14, 3) := by decide +kernel
theorem dX0_isMiddle_90 : decode cX0_isMiddle 90 = .ok (.iload 5, 2) := by decide +kernel
theorem dX0_isMiddle_92 : decode cX0_isMiddle 92 = .ok (.iload 4, 2) := by decide +kernel
theorem dX0_isMiddle_94 : decode cX0_isMiddle 94 = .ok (.if_icmp .ge 7, 3) := by decide +kernel
theorem dX0_isMiddle_97 : decode cX0_isMiddle 97 = .ok (.iconst 1, 1) := by decide +kernel
theorem dX0_isMiddle_98 : decode cX0_isMiddle 98 = .ok (.goto 4, 3) := by decide +kernel
theorem dX0_isMiddle_101 : decode cX0_isMiddle 101 = .ok (.iconst 0, 1) := by decide +kernel
theorem dX0_isMiddle_102 : decode cX0_isMiddle 102 = .ok (.ireturn, 1) := by decide +kernel
theorem dX0_mostWanting_0 : decode cX0_mostWanting 0 = .ok (.aload_n 0, 1) := by decide +kernel
theorem dX0_mostWanting_1 : decode cX0_mostWanting 1 = .ok (.getfield 18, 3) := by decide +kernel
theorem dX0_mostWanting_4 : decode cX0_mostWanting 4 = .ok (.istore_n 3, 1) := by decide +kernel
theorem dX0_mostWanting_5 : decode cX0_mostWanting 5 = .ok (.aload_n 0, 1) := by decide +kernel
theorem dX0_mostWanting_6 : decode cX0_mostWanting 6 = .ok (.aload_n 0, 1) := by decide +kernel
theorem dX0_mostWanting_7 : decode cX0_mostWanting 7 = .ok (.getfield 18, 3) := by decide +kernel
theorem dX0_mostWanting_10 : decode cX0_mostWanting 10 = .ok (.iload_n 1, 1) := by decide +kernel
theorem dX0_mostWanting_11 : decode cX0_mostWanting 11 = .ok (.aload_n 2, 1) := by decide +kernel
theorem dX0_mostWanting_12 : decode cX0_mostWanting 12 = .ok (.invokevirtual 64, 3) := by decide +kernel
theorem dX0_mostWanting_15 : decode cX0_mostWanting 15 = .ok (.istore 4, 2) := by decide +kernel
theorem dX0_mostWanting_17 : decode cX0_mostWanting 17 = .ok (.iconst 0, 1) := by decide +kernel
theorem dX0_mostWanting_18 : decode cX0_mostWanting 18 = .ok (.istore 5, 2) := by decide +kernel
theorem dX0_mostWanting_20 : decode cX0_mostWanting 20 = .ok (.iload 5, 2) := by decide +kernel
theorem dX0_mostWanting_22 : decode cX0_mostWanting 22 = .ok (.bipush 8, 2) := by decide +kernel
theorem dX0_mostWanting_24 : decode cX0_mostWanting 24 = .ok (.if_icmp .ge 55, 3) := by decide +kernel
theorem dX0_mostWanting_27 : decode cX0_mostWanting 27 = .ok (.aload_n 0, 1) := by decide +kernel
theorem dX0_mostWanting_28 : decode cX0_mostWanting 28 = .ok (.iload 5, 2) := by decide +kernel
theorem dX0_mostWanting_30 : decode cX0_mostWanting 30 = .ok (.iload_n 1, 1) := by decide +kernel
theorem dX0_mostWanting_31 : decode cX0_mostWanting 31 = .ok (.aload_n 2, 1) := by decide +kernel
theorem dX0_mostWanting_32 : decode cX0_mostWanting 32 = .ok (.invokevirtual 64, 3) := by decide +kernel
theorem dX0_mostWanting_35 : decode cX0_mostWanting 35 = .ok (.istore 6, 2) := by decide +kernel
theorem dX0_mostWanting_37 : decode cX0_mostWanting 37 = .ok (.aload_n 0, 1) := by decide +kernel
theorem dX0_mostWanting_38 : decode cX0_mostWanting 38 = .ok (.iload 5, 2) := by decide +kernel
theorem dX0_mostWanting_40 : decode cX0_mostWanting 40 = .ok (.invokevirtual 68, 3) := by decide +kernel
theorem dX0_mostWanting_43 : decode cX0_mostWanting 43 = .ok (.ifCond .eq 30, 3) := by decide +kernel
theorem dX0_mostWanting_46 : decode cX0_mostWanting 46 = .ok (.iload 6, 2) := by decide +kernel
theorem dX0_mostWanting_48 : decode cX0_mostWanting 48 = .ok (.iload 4, 2) := by decide +kernel
theorem dX0_mostWanting_50 : decode cX0_mostWanting 50 = .ok (.if_icmp .gt 16, 3) := by decide +kernel
theorem dX0_mostWanting_53 : decode cX0_mostWanting 53 = .ok (.iload 6, 2) := by decide +kernel
theorem dX0_mostWanting_55 : decode cX0_mostWanting 55 = .ok (.iload 4, 2) := by decide +kernel
theorem dX0_mostWanting_57 : decode cX0_mostWanting 57 = .ok (.if_icmp .ne 16, 3) := by decide +kernel
theorem dX0_mostWanting_60 : decode cX0_mostWanting 60 = .ok (.iload 5, 2) := by decide +kernel
theorem dX0_mostWanting_62 : decode cX0_mostWanting 62 = .ok (.iload_n 3, 1) := by decide +kernel
theorem dX0_mostWanting_63 : decode cX0_mostWanting 63 = .ok (.if_icmp .ge 10, 3) := by decide +kernel
theorem dX0_mostWanting_66 : decode cX0_mostWanting 66 = .ok (.iload 5, 2) := by decide +kernel
theorem dX0_mostWanting_68 : decode cX0_mostWanting 68 = .ok (.istore_n 3, 1) := by decide +kernel
theorem dX0_mostWanting_69 : decode cX0_mostWanting 69 = .ok (.iload 6, 2) := by decide +kernel
theorem dX0_mostWanting_71 : decode cX0_mostWanting 71 = .ok (.istore 4, 2) := by decide +kernel
theorem dX0_mostWanting_73 : decode cX0_mostWanting 73 = .ok (.iinc 5 1, 3) := by decide +kernel
theorem dX0_mostWanting_76 : decode cX0_mostWanting 76 = .ok (.goto (-56), 3) := by decide +kernel
theorem dX0_mostWanting_79 : decode cX0_mostWanting 79 = .ok (.iload_n 3, 1) := by decide +kernel
theorem dX0_mostWanting_80 : decode cX0_mostWanting 80 = .ok (.ireturn, 1) := by decide +kernel
theorem dX0_wanting_0 : decode cX0_wanting 0 = .ok (.aload_n 0, 1) := by decide +kernel
theorem dX0_wanting_1 : decode cX0_wanting 1 = .ok (.getfield 9, 3) := by decide +kernel
theorem dX0_wanting_4 : decode cX0_wanting 4 = .ok (.iload_n 1, 1) := by decide +kernel
theorem dX0_wanting_5 : decode cX0_wanting 5 = .ok (.iaload, 1) := by decide +kernel
theorem dX0_wanting_6 : decode cX0_wanting 6 = .ok (.iload_n 2, 1) := by decide +kernel
theorem dX0_wanting_7 : decode cX0_wanting 7 = .ok (.imul, 1) := by decide +kernel
theorem dX0_wanting_8 : decode cX0_wanting 8 = .ok (.bipush 12, 2) := by decide +kernel
theorem dX0_wanting_10 : decode cX0_wanting 10 = .ok (.aload_n 3, 1) := by decide +kernel
theorem dX0_wanting_11 : decode cX0_wanting 11 = .ok (.iload_n 1, 1) := by decide +kernel
theorem dX0_wanting_12 : decode cX0_wanting 12 = .ok (.iaload, 1) := by decide +kernel
theorem dX0_wanting_13 : decode cX0_wanting 13 = .ok (.imul, 1) := by decide +kernel
theorem dX0_wanting_14 : decode cX0_wanting 14 = .ok (.isub, 1) := by decide +kernel
theorem dX0_wanting_15 : decode cX0_wanting 15 = .ok (.ireturn, 1) := by decide +kernel
theorem dX1_init_0 : decode cX1_init 0 = .ok (.aload_n 0, 1) := by decide +kernel
theorem dX1_init_1 : decode cX1_init 1 = .ok (.invokespecial 3, 3) := by decide +kernel
theorem dX1_init_4 : decode cX1_init 4 = .ok (.aload_n 0, 1) := by decide +kernel
theorem dX1_init_5 : decode cX1_init 5 = .ok (.bipush 100, 2) := by decide +kernel
theorem dX1_init_7 : decode cX1_init 7 = .ok (.newarray .int, 2) := by decide +kernel
theorem dX1_init_9 : decode cX1_init 9 = .ok (.putfield 9, 3) := by decide +kernel
theorem dX1_init_12 : decode cX1_init 12 = .ok (.aload_n 0, 1) := by decide +kernel
theorem dX1_init_13 : decode cX1_init 13 = .ok (.bipush 100, 2) := by decide +kernel
theorem dX1_init_15 : decode cX1_init 15 = .ok (.newarray .int, 2) := by decide +kernel
theorem dX1_init_17 : decode cX1_init 17 = .ok (.putfield 15, 3) := by decide +kernel
theorem dX1_init_20 : decode cX1_init 20 = .ok (.aload_n 0, 1) := by decide +kernel
theorem dX1_init_21 : decode cX1_init 21 = .ok (.bipush 100, 2) := by decide +kernel
theorem dX1_init_23 : decode cX1_init 23 = .ok (.newarray .int, 2) := by decide +kernel
theorem dX1_init_25 : decode cX1_init 25 = .ok (.putfield 18, 3) := by decide +kernel
theorem dX1_init_28 : decode cX1_init 28 = .ok (.aload_n 0, 1) := by decide +kernel
theorem dX1_init_29 : decode cX1_init 29 = .ok (.bipush 100, 2) := by decide +kernel
theorem dX1_init_31 : decode cX1_init 31 = .ok (.newarray .int, 2) := by decide +kernel
theorem dX1_init_33 : decode cX1_init 33 = .ok (.putfield 21, 3) := by decide +kernel
theorem dX1_init_36 : decode cX1_init 36 = .ok (.aload_n 0, 1) := by decide +kernel
theorem dX1_init_37 : decode cX1_init 37 = .ok (.bipush 100, 2) := by decide +kernel
theorem dX1_init_39 : decode cX1_init 39 = .ok (.newarray .boolean, 2) := by decide +kernel
theorem dX1_init_41 : decode cX1_init 41 = .ok (.putfield 24, 3) := by decide +kernel
theorem dX1_init_44 : decode cX1_init 44 = .ok (.aload_n 0, 1) := by decide +kernel
theorem dX1_init_45 : decode cX1_init 45 = .ok (.bipush 100, 2) := by decide +kernel
theorem dX1_init_47 : decode cX1_init 47 = .ok (.newarray .int, 2) := by decide +kernel
theorem dX1_init_49 : decode cX1_init 49 = .ok (.putfield 28, 3) := by decide +kernel
theorem dX1_init_52 : decode cX1_init 52 = .ok (.aload_n 0, 1) := by decide +kernel
theorem dX1_init_53 : decode cX1_init 53 = .ok (.getfield 28, 3) := by decide +kernel
theorem dX1_init_56 : decode cX1_init 56 = .ok (.iconst (-1), 1) := by decide +kernel
theorem dX1_init_57 : decode cX1_init 57 = .ok (.invokestatic 31, 3) := by decide +kernel
theorem dX1_init_60 : decode cX1_init 60 = .ok (.return_, 1) := by decide +kernel
theorem dX1_isOpen_0 : decode cX1_isOpen 0 = .ok (.iload_n 1, 1) := by decide +kernel
theorem dX1_isOpen_1 : decode cX1_isOpen 1 = .ok (.invokestatic 37, 3) := by decide +kernel
theorem dX1_isOpen_4 : decode cX1_isOpen 4 = .ok (.ifCond .eq 17, 3) := by decide +kernel
theorem dX1_isOpen_7 : decode cX1_isOpen 7 = .ok (.aload_n 0, 1) := by decide +kernel
theorem dX1_isOpen_8 : decode cX1_isOpen 8 = .ok (.getfield 9, 3) := by decide +kernel
theorem dX1_isOpen_11 : decode cX1_isOpen 11 = .ok (.iload_n 1, 1) := by decide +kernel
theorem dX1_isOpen_12 : decode cX1_isOpen 12 = .ok (.iaload, 1) := by decide +kernel
theorem dX1_isOpen_13 : decode cX1_isOpen 13 = .ok (.iconst 1, 1) := by decide +kernel
theorem dX1_isOpen_14 : decode cX1_isOpen 14 = .ok (.if_icmp .ne 7, 3) := by decide +kernel
theorem dX1_isOpen_17 : decode cX1_isOpen 17 = .ok (.iconst 1, 1) := by decide +kernel
theorem dX1_isOpen_18 : decode cX1_isOpen 18 = .ok (.goto 4, 3) := by decide +kernel
theorem dX1_isOpen_21 : decode cX1_isOpen 21 = .ok (.iconst 0, 1) := by decide +kernel
theorem dX1_isOpen_22 : decode cX1_isOpen 22 = .ok (.ireturn, 1) := by decide +kernel
theorem dX1_isLoose_0 : decode cX1_isLoose 0 = .ok (.iload_n 1, 1) := by decide +kernel
theorem dX1_isLoose_1 : decode cX1_isLoose 1 = .ok (.ifCond .lt 32, 3) := by decide +kernel
theorem dX1_isLoose_4 : decode cX1_isLoose 4 = .ok (.iload_n 1, 1) := by decide +kernel
theorem dX1_isLoose_5 : decode cX1_isLoose 5 = .ok (.bipush 100, 2) := by decide +kernel
theorem dX1_isLoose_7 : decode cX1_isLoose 7 = .ok (.if_icmp .ge 26, 3) := by decide +kernel
theorem dX1_isLoose_10 : decode cX1_isLoose 10 = .ok (.aload_n 0, 1) := by decide +kernel
theorem dX1_isLoose_11 : decode cX1_isLoose 11 = .ok (.getfield 9, 3) := by decide +kernel
theorem dX1_isLoose_14 : decode cX1_isLoose 14 = .ok (.iload_n 1, 1) := by decide +kernel
theorem dX1_isLoose_15 : decode cX1_isLoose 15 = .ok (.iaload, 1) := by decide +kernel
theorem dX1_isLoose_16 : decode cX1_isLoose 16 = .ok (.iconst 1, 1) := by decide +kernel
theorem dX1_isLoose_17 : decode cX1_isLoose 17 = .ok (.if_icmp .ne 16, 3) := by decide +kernel
theorem dX1_isLoose_20 : decode cX1_isLoose 20 = .ok (.aload_n 0, 1) := by decide +kernel
theorem dX1_isLoose_21 : decode cX1_isLoose 21 = .ok (.getfield 24, 3) := by decide +kernel
theorem dX1_isLoose_24 : decode cX1_isLoose 24 = .ok (.iload_n 1, 1) := by decide +kernel
theorem dX1_isLoose_25 : decode cX1_isLoose 25 = .ok (.baload, 1) := by decide +kernel
theorem dX1_isLoose_26 : decode cX1_isLoose 26 = .ok (.ifCond .ne 7, 3) := by decide +kernel
theorem dX1_isLoose_29 : decode cX1_isLoose 29 = .ok (.iconst 1, 1) := by decide +kernel
theorem dX1_isLoose_30 : decode cX1_isLoose 30 = .ok (.goto 4, 3) := by decide +kernel
theorem dX1_isLoose_33 : decode cX1_isLoose 33 = .ok (.iconst 0, 1) := by decide +kernel
theorem dX1_isLoose_34 : decode cX1_isLoose 34 = .ok (.ireturn, 1) := by decide +kernel
theorem dX1_canBeDug_0 : decode cX1_canBeDug 0 = .ok (.aload_n 0, 1) := by decide +kernel
theorem dX1_canBeDug_1 : decode cX1_canBeDug 1 = .ok (.iload_n 1, 1) := by decide +kernel
theorem dX1_canBeDug_2 : decode cX1_canBeDug 2 = .ok (.invokevirtual 41, 3) := by decide +kernel
theorem dX1_canBeDug_5 : decode cX1_canBeDug 5 = .ok (.ifCond .eq 5, 3) := by decide +kernel
theorem dX1_canBeDug_8 : decode cX1_canBeDug 8 = .ok (.iconst 0, 1) := by decide +kernel
theorem dX1_canBeDug_9 : decode cX1_canBeDug 9 = .ok (.ireturn, 1) := by decide +kernel
theorem dX1_canBeDug_10 : decode cX1_canBeDug 10 = .ok (.iload_n 1, 1) := by decide +kernel
theorem dX1_canBeDug_11 : decode cX1_canBeDug 11 = .ok (.bipush 10, 2) := by decide +kernel
theorem dX1_canBeDug_13 : decode cX1_canBeDug 13 = .ok (.irem, 1) := by decide +kernel
theorem dX1_canBeDug_14 : decode cX1_canBeDug 14 = .ok (.istore_n 2, 1) := by decide +kernel
theorem dX1_canBeDug_15 : decode cX1_canBeDug 15 = .ok (.aload_n 0, 1) := by decide +kernel
theorem dX1_canBeDug_16 : decode cX1_canBeDug 16 = .ok (.iload_n 1, 1) := by decide +kernel
theorem dX1_canBeDug_17 : decode cX1_canBeDug 17 = .ok (.bipush 10, 2) := by decide +kernel
theorem dX1_canBeDug_19 : decode cX1_canBeDug 19 = .ok (.isub, 1) := by decide +kernel
theorem dX1_canBeDug_20 : decode cX1_canBeDug 20 = .ok (.invokevirtual 41, 3) := by decide +kernel
theorem dX1_canBeDug_23 : decode cX1_canBeDug 23 = .ok (.ifCond .ne 44, 3) := by decide +kernel
theorem dX1_canBeDug_26 : decode cX1_canBeDug 26 = .ok (.aload_n 0, 1) := by decide +kernel
theorem dX1_canBeDug_27 : decode cX1_canBeDug 27 = .ok (.iload_n 1, 1) := by decide +kernel
theorem dX1_canBeDug_28 : decode cX1_canBeDug 28 = .ok (.bipush 10, 2) := by decide +kernel
theorem dX1_canBeDug_30 : decode cX1_canBeDug 30 = .ok (.iadd, 1) := by decide +kernel
theorem dX1_canBeDug_31 : decode cX1_canBeDug 31 = .ok (.invokevirtual 41, 3) := by decide +kernel
theorem dX1_canBeDug_34 : decode cX1_canBeDug 34 = .ok (.ifCond .ne 33, 3) := by decide +kernel
theorem dX1_canBeDug_37 : decode cX1_canBeDug 37 = .ok (.iload_n 2, 1) := by decide +kernel
theorem dX1_canBeDug_38 : decode cX1_canBeDug 38 = .ok (.ifCond .le 13, 3) := by decide +kernel
theorem dX1_canBeDug_41 : decode cX1_canBeDug 41 = .ok (.aload_n 0, 1) := by decide +kernel
theorem dX1_canBeDug_42 : decode cX1_canBeDug 42 = .ok (.iload_n 1, 1) := by decide +kernel
theorem dX1_canBeDug_43 : decode cX1_canBeDug 43 = .ok (.iconst 1, 1) := by decide +kernel
theorem dX1_canBeDug_44 : decode cX1_canBeDug 44 = .ok (.isub, 1) := by decide +kernel
theorem dX1_canBeDug_45 : decode cX1_canBeDug 45 = .ok (.invokevirtual 41, 3) := by decide +kernel
theorem dX1_canBeDug_48 : decode cX1_canBeDug 48 = .ok (.ifCond .ne 19, 3) := by decide +kernel
theorem dX1_canBeDug_51 : decode cX1_canBeDug 51 = .ok (.iload_n 2, 1) := by decide +kernel
theorem dX1_canBeDug_52 : decode cX1_canBeDug 52 = .ok (.bipush 9, 2) := by decide +kernel
theorem dX1_canBeDug_54 : decode cX1_canBeDug 54 = .ok (.if_icmp .ge 17, 3) := by decide +kernel
theorem dX1_canBeDug_57 : decode cX1_canBeDug 57 = .ok (.aload_n 0, 1) := by decide +kernel
theorem dX1_canBeDug_58 : decode cX1_canBeDug 58 = .ok (.iload_n 1, 1) := by decide +kernel
theorem dX1_canBeDug_59 : decode cX1_canBeDug 59 = .ok (.iconst 1, 1) := by decide +kernel
theorem dX1_canBeDug_60 : decode cX1_canBeDug 60 = .ok (.iadd, 1) := by decide +kernel
theorem dX1_canBeDug_61 : decode cX1_canBeDug 61 = .ok (.invokevirtual 41, 3) := by decide +kernel
theorem dX1_canBeDug_64 : decode cX1_canBeDug 64 = .ok (.ifCond .eq 7, 3) := by decide +kernel
theorem dX1_canBeDug_67 : decode cX1_canBeDug 67 = .ok (.iconst 1, 1) := by decide +kernel
theorem dX1_canBeDug_68 : decode cX1_canBeDug 68 = .ok (.goto 4, 3) := by decide +kernel
theorem dX1_canBeDug_71 : decode cX1_canBeDug 71 = .ok (.iconst 0, 1) := by decide +kernel
theorem dX1_canBeDug_72 : decode cX1_canBeDug 72 = .ok (.ireturn, 1) := by decide +kernel
theorem dX1_canBeDugSafely_0 : decode cX1_canBeDugSafely 0 = .ok (.aload_n 0, 1) := by decide +kernel
theorem dX1_canBeDugSafely_1 : decode cX1_canBeDugSafely 1 = .ok (.iload_n 1, 1) := by decide +kernel
theorem dX1_canBeDugSafely_2 : decode cX1_canBeDugSafely 2 = .ok (.invokevirtual 44, 3) := by decide +kernel
theorem dX1_canBeDugSafely_5 : decode cX1_canBeDugSafely 5 = .ok (.ifCond .eq 25, 3) := by decide +kernel
theorem dX1_canBeDugSafely_8 : decode cX1_canBeDugSafely 8 = .ok (.aload_n 0, 1) := by decide +kernel
theorem dX1_canBeDugSafely_9 : decode cX1_canBeDugSafely 9 = .ok (.iload_n 1, 1) := by decide +kernel
theorem dX1_canBeDugSafely_10 : decode cX1_canBeDugSafely 10 = .ok (.invokevirtual 47, 3) := by decide +kernel
theorem dX1_canBeDugSafely_13 : decode cX1_canBeDugSafely 13 = .ok (.iconst 3, 1) := by decide +kernel
theorem dX1_canBeDugSafely_14 : decode cX1_canBeDugSafely 14 = .ok (.if_icmp .gt 16, 3) := by decide +kernel
theorem dX1_canBeDugSafely_17 : decode cX1_canBeDugSafely 17 = .ok (.aload_n 0, 1) := by decide +kernel
theorem dX1_canBeDugSafely_18 : decode cX1_canBeDugSafely 18 = .ok (.iload_n 1, 1) := by decide +kernel
theorem dX1_canBeDugSafely_19 : decode cX1_canBeDugSafely 19 = .ok (.invokevirtual 51, 3) := by decide +kernel
theorem dX1_canBeDugSafely_22 : decode cX1_canBeDugSafely 22 = .ok (.iconst 3, 1) := by decide +kernel
theorem dX1_canBeDugSafely_23 : decode cX1_canBeDugSafely 23 = .ok (.if_icmp .gt 7, 3) := by decide +kernel
theorem dX1_canBeDugSafely_26 : decode cX1_canBeDugSafely 26 = .ok (.iconst 1, 1) := by decide +kernel
theorem dX1_canBeDugSafely_27 : decode cX1_canBeDugSafely 27 = .ok (.goto 4, 3) := by decide +kernel
theorem dX1_canBeDugSafely_30 : decode cX1_canBeDugSafely 30 = .ok (.iconst 0, 1) := by decide +kernel
theorem dX1_canBeDugSafely_31 : decode cX1_canBeDugSafely 31 = .ok (.ireturn, 1) := by decide +kernel
theorem dX1_openForNow_0 : decode cX1_openForNow 0 = .ok (.aload_n 0, 1) := by decide +kernel
theorem dX1_openForNow_1 : decode cX1_openForNow 1 = .ok (.getfield 9, 3) := by decide +kernel
theorem dX1_openForNow_4 : decode cX1_openForNow 4 = .ok (.iload_n 1, 1) := by decide +kernel
theorem dX1_openForNow_5 : decode cX1_openForNow 5 = .ok (.iaload, 1) := by decide +kernel
theorem dX1_openForNow_6 : decode cX1_openForNow 6 = .ok (.istore_n 2, 1) := by decide +kernel
theorem dX1_openForNow_7 : decode cX1_openForNow 7 = .ok (.aload_n 0, 1) := by decide +kernel
theorem dX1_openForNow_8 : decode cX1_openForNow 8 = .ok (.getfield 9, 3) := by decide +kernel
theorem dX1_openForNow_11 : decode cX1_openForNow 11 = .ok (.iload_n 1, 1) := by decide +kernel
theorem dX1_openForNow_12 : decode cX1_openForNow 12 = .ok (.iconst 1, 1) := by decide +kernel
theorem dX1_openForNow_13 : decode cX1_openForNow 13 = .ok (.iastore, 1) := by decide +kernel
theorem dX1_openForNow_14 : decode cX1_openForNow 14 = .ok (.iload_n 2, 1) := by decide +kernel
theorem dX1_openForNow_15 : decode cX1_openForNow 15 = .ok (.ireturn, 1) := by decide +kernel
theorem dX1_caratsAround_0 : decode cX1_caratsAround 0 = .ok (.iload_n 1, 1) := by decide +kernel
theorem dX1_caratsAround_1 : decode cX1_caratsAround 1 = .ok (.bipush 10, 2) := by decide +kernel
theorem dX1_caratsAround_3 : decode cX1_caratsAround 3 = .ok (.irem, 1) := by decide +kernel
theorem dX1_caratsAround_4 : decode cX1_caratsAround 4 = .ok (.istore_n 2, 1) := by decide +kernel
theorem dX1_caratsAround_5 : decode cX1_caratsAround 5 = .ok (.aload_n 0, 1) := by decide +kernel
theorem dX1_caratsAround_6 : decode cX1_caratsAround 6 = .ok (.iload_n 1, 1) := by decide +kernel
theorem dX1_caratsAround_7 : decode cX1_caratsAround 7 = .ok (.invokevirtual 54, 3) := by decide +kernel
theorem dX1_caratsAround_10 : decode cX1_caratsAround 10 = .ok (.invokestatic 57, 3) := by decide +kernel
theorem dX1_caratsAround_13 : decode cX1_caratsAround 13 = .ok (.aload_n 0, 1) := by decide +kernel
theorem dX1_caratsAround_14 : decode cX1_caratsAround 14 = .ok (.iload_n 1, 1) := by decide +kernel
theorem dX1_caratsAround_15 : decode cX1_caratsAround 15 = .ok (.bipush 10, 2) := by decide +kernel
theorem dX1_caratsAround_17 : decode cX1_caratsAround 17 = .ok (.isub, 1) := by decide +kernel
theorem dX1_caratsAround_18 : decode cX1_caratsAround 18 = .ok (.invokevirtual 54, 3) := by decide +kernel
theorem dX1_caratsAround_21 : decode cX1_caratsAround 21 = .ok (.invokestatic 57, 3) := by decide +kernel
theorem dX1_caratsAround_24 : decode cX1_caratsAround 24 = .ok (.iadd, 1) := by decide +kernel
theorem dX1_caratsAround_25 : decode cX1_caratsAround 25 = .ok (.aload_n 0, 1) := by decide +kernel
theorem dX1_caratsAround_26 : decode cX1_caratsAround 26 = .ok (.iload_n 1, 1) := by decide +kernel
theorem dX1_caratsAround_27 : decode cX1_caratsAround 27 = .ok (.bipush 10, 2) := by decide +kernel
theorem dX1_caratsAround_29 : decode cX1_caratsAround 29 = .ok (.iadd, 1) := by decide +kernel
theorem dX1_caratsAround_30 : decode cX1_caratsAround 30 = .ok (.invokevirtual 54, 3) := by decide +kernel
theorem dX1_caratsAround_33 : decode cX1_caratsAround 33 = .ok (.invokestatic 57, 3) := by decide +kernel
theorem dX1_caratsAround_36 : decode cX1_caratsAround 36 = .ok (.iadd, 1) := by decide +kernel
theorem dX1_caratsAround_37 : decode cX1_caratsAround 37 = .ok (.iload_n 2, 1) := by decide +kernel
theorem dX1_caratsAround_38 : decode cX1_caratsAround 38 = .ok (.ifCond .le 17, 3) := by decide +kernel
theorem dX1_caratsAround_41 : decode cX1_caratsAround 41 = .ok (.aload_n 0, 1) := by decide +kernel
theorem dX1_caratsAround_42 : decode cX1_caratsAround 42 = .ok (.iload_n 1, 1) := by decide +kernel
theorem dX1_caratsAround_43 : decode cX1_caratsAround 43 = .ok (.iconst 1, 1) := by decide +kernel
theorem dX1_caratsAround_44 : decode cX1_caratsAround 44 = .ok (.isub, 1) := by decide +kernel
theorem dX1_caratsAround_45 : decode cX1_caratsAround 45 = .ok (.invokevirtual 54, 3) := by decide +kernel
theorem dX1_caratsAround_48 : decode cX1_caratsAround 48 = .ok (.ifCond .eq 7, 3) := by decide +kernel
theorem dX1_caratsAround_51 : decode cX1_caratsAround 51 = .ok (.iconst 1, 1) := by decide +kernel
theorem dX1_caratsAround_52 : decode cX1_caratsAround 52 = .ok (.goto 4, 3) := by decide +kernel
theorem dX1_caratsAround_55 : decode cX1_caratsAround 55 = .ok (.iconst 0, 1) := by decide +kernel
theorem dX1_caratsAround_56 : decode cX1_caratsAround 56 = .ok (.invokestatic 57, 3) := by decide +kernel
theorem dX1_caratsAround_59 : decode cX1_caratsAround 59 = .ok (.iadd, 1) := by decide +kernel
theorem dX1_caratsAround_60 : decode cX1_caratsAround 60 = .ok (.iload_n 2, 1) := by decide +kernel
theorem dX1_caratsAround_61 : decode cX1_caratsAround 61 = .ok (.bipush 9, 2) := by decide +kernel
theorem dX1_caratsAround_63 : decode cX1_caratsAround 63 = .ok (.if_icmp .ge 17, 3) := by decide +kernel
theorem dX1_caratsAround_66 : decode cX1_caratsAround 66 = .ok (.aload_n 0, 1) := by decide +kernel
theorem dX1_caratsAround_67 : decode cX1_caratsAround 67 = .ok (.iload_n 1, 1) := by decide +kernel
theorem dX1_caratsAround_68 : decode cX1_caratsAround 68 = .ok (.iconst 1, 1) := by decide +kernel
theorem dX1_caratsAround_69 : decode cX1_caratsAround 69 = .ok (.iadd, 1) := by decide +kernel
theorem dX1_caratsAround_70 : decode cX1_caratsAround 70 = .ok (.invokevirtual 54, 3) := by decide +kernel
theorem dX1_caratsAround_73 : decode cX1_caratsAround 73 = .ok (.ifCond .eq 7, 3) := by decide +kernel
theorem dX1_caratsAround_76 : decode cX1_caratsAround 76 = .ok (.iconst 1, 1) := by decide +kernel
theorem dX1_caratsAround_77 : decode cX1_caratsAround 77 = .ok (.goto 4, 3) := by decide +kernel
theorem dX1_caratsAround_80 : decode cX1_caratsAround 80 = .ok (.iconst 0, 1) := by decide +kernel
theorem dX1_caratsAround_81 : decode cX1_caratsAround 81 = .ok (.invokestatic 57, 3) := by decide +kernel
theorem dX1_caratsAround_84 : decode cX1_caratsAround 84 = .ok (.iadd, 1) := by decide +kernel
theorem dX1_caratsAround_85 : decode cX1_caratsAround 85 = .ok (.ireturn, 1) := by decide +kernel
theorem dX1_hasCarats_0 : decode cX1_hasCarats 0 = .ok (.iload_n 1, 1) := by decide +kernel
theorem dX1_hasCarats_1 : decode cX1_hasCarats 1 = .ok (.invokestatic 37, 3) := by decide +kernel
theorem dX1_hasCarats_4 : decode cX1_hasCarats 4 = .ok (.ifCond .eq 16, 3) := by decide +kernel
theorem dX1_hasCarats_7 : decode cX1_hasCarats 7 = .ok (.aload_n 0, 1) := by decide +kernel
theorem dX1_hasCarats_8 : decode cX1_hasCarats 8 = .ok (.getfield 18, 3) := by decide +kernel
theorem dX1_hasCarats_11 : decode cX1_hasCarats 11 = .ok (.iload_n 1, 1) := by decide +kernel
theorem dX1_hasCarats_12 : decode cX1_hasCarats 12 = .ok (.iaload, 1) := by decide +kernel
theorem dX1_hasCarats_13 : decode cX1_hasCarats 13 = .ok (.ifCond .le 7, 3) := by decide +kernel
theorem dX1_hasCarats_16 : decode cX1_hasCarats 16 = .ok (.iconst 1, 1) := by decide +kernel
theorem dX1_hasCarats_17 : decode cX1_hasCarats 17 = .ok (.goto 4, 3) := by decide +kernel
theorem dX1_hasCarats_20 : decode cX1_hasCarats 20 = .ok (.iconst 0, 1) := by decide +kernel
theorem dX1_hasCarats_21 : decode cX1_hasCarats 21 = .ok (.ireturn, 1) := by decide +kernel
theorem dX1_trapsOf_0 : decode cX1_trapsOf 0 = .ok (.iconst 0, 1) := by decide +kernel
theorem dX1_trapsOf_1 : decode cX1_trapsOf 1 = .ok (.istore_n 2, 1) := by decide +kernel
theorem dX1_trapsOf_2 : decode cX1_trapsOf 2 = .ok (.iconst 0, 1) := by decide +kernel
theorem dX1_trapsOf_3 : decode cX1_trapsOf 3 = .ok (.istore_n 3, 1) := by decide +kernel
theorem dX1_trapsOf_4 : decode cX1_trapsOf 4 = .ok (.iload_n 3, 1) := by decide +kernel
theorem dX1_trapsOf_5 : decode cX1_trapsOf 5 = .ok (.bipush 100, 2) := by decide +kernel
theorem dX1_trapsOf_7 : decode cX1_trapsOf 7 = .ok (.if_icmp .ge 30, 3) := by decide +kernel
theorem dX1_trapsOf_10 : decode cX1_trapsOf 10 = .ok (.iload_n 2, 1) := by decide +kernel
theorem dX1_trapsOf_11 : decode cX1_trapsOf 11 = .ok (.aload_n 0, 1) := by decide +kernel
theorem dX1_trapsOf_12 : decode cX1_trapsOf 12 = .ok (.getfield 28, 3) := by decide +kernel
theorem dX1_trapsOf_15 : decode cX1_trapsOf 15 = .ok (.iload_n 3, 1) := by decide +kernel
theorem dX1_trapsOf_16 : decode cX1_trapsOf 16 = .ok (.iaload, 1) := by decide +kernel
theorem dX1_trapsOf_17 : decode cX1_trapsOf 17 = .ok (.iload_n 1, 1) := by decide +kernel
theorem dX1_trapsOf_18 : decode cX1_trapsOf 18 = .ok (.if_icmp .ne 7, 3) := by decide +kernel
theorem dX1_trapsOf_21 : decode cX1_trapsOf 21 = .ok (.iconst 1, 1) := by decide +kernel
theorem dX1_trapsOf_22 : decode cX1_trapsOf 22 = .ok (.goto 4, 3) := by decide +kernel
theorem dX1_trapsOf_25 : decode cX1_trapsOf 25 = .ok (.iconst 0, 1) := by decide +kernel
theorem dX1_trapsOf_26 : decode cX1_trapsOf 26 = .ok (.invokestatic 57, 3) := by decide +kernel
theorem dX1_trapsOf_29 : decode cX1_trapsOf 29 = .ok (.iadd, 1) := by decide +kernel
theorem dX1_trapsOf_30 : decode cX1_trapsOf 30 = .ok (.istore_n 2, 1) := by decide +kernel
theorem dX1_trapsOf_31 : decode cX1_trapsOf 31 = .ok (.iinc 3 1, 3) := by decide +kernel
theorem dX1_trapsOf_34 : decode cX1_trapsOf 34 = .ok (.goto (-30), 3) := by decide +kernel
theorem dX1_trapsOf_37 : decode cX1_trapsOf 37 = .ok (.iload_n 2, 1) := by decide +kernel
theorem dX1_trapsOf_38 : decode cX1_trapsOf 38 = .ok (.ireturn, 1) := by decide +kernel
theorem dX1_looseInRow_0 : decode cX1_looseInRow 0 = .ok (.aload_n 0, 1) := by decide +kernel
theorem dX1_looseInRow_1 : decode cX1_looseInRow 1 = .ok (.iload_n 1, 1) := by decide +kernel
theorem dX1_looseInRow_2 : decode cX1_looseInRow 2 = .ok (.iconst (-1), 1) := by decide +kernel
theorem dX1_looseInRow_3 : decode cX1_looseInRow 3 = .ok (.iload_n 1, 1) := by decide +kernel
theorem dX1_looseInRow_4 : decode cX1_looseInRow 4 = .ok (.bipush 10, 2) := by decide +kernel
theorem dX1_looseInRow_6 : decode cX1_looseInRow 6 = .ok (.irem, 1) := by decide +kernel
theorem dX1_looseInRow_7 : decode cX1_looseInRow 7 = .ok (.invokevirtual 61, 3) := by decide +kernel
theorem dX1_looseInRow_10 : decode cX1_looseInRow 10 = .ok (.iconst 1, 1) := by decide +kernel
theorem dX1_looseInRow_11 : decode cX1_looseInRow 11 = .ok (.iadd, 1) := by decide +kernel
theorem dX1_looseInRow_12 : decode cX1_looseInRow 12 = .ok (.aload_n 0, 1) := by decide +kernel
theorem dX1_looseInRow_13 : decode cX1_looseInRow 13 = .ok (.iload_n 1, 1) := by decide +kernel
theorem dX1_looseInRow_14 : decode cX1_looseInRow 14 = .ok (.iconst 1, 1) := by decide +kernel
theorem dX1_looseInRow_15 : decode cX1_looseInRow 15 = .ok (.bipush 9, 2) := by decide +kernel
theorem dX1_looseInRow_17 : decode cX1_looseInRow 17 = .ok (.iload_n 1, 1) := by decide +kernel
theorem dX1_looseInRow_18 : decode cX1_looseInRow 18 = .ok (.bipush 10, 2) := by decide +kernel
theorem dX1_looseInRow_20 : decode cX1_looseInRow 20 = .ok (.irem, 1) := by decide +kernel
theorem dX1_looseInRow_21 : decode cX1_looseInRow 21 = .ok (.isub, 1) := by decide +kernel
theorem dX1_looseInRow_22 : decode cX1_looseInRow 22 = .ok (.invokevirtual 61, 3) := by decide +kernel
theorem dX1_looseInRow_25 : decode cX1_looseInRow 25 = .ok (.iadd, 1) := by decide +kernel
theorem dX1_looseInRow_26 : decode cX1_looseInRow 26 = .ok (.ireturn, 1) := by decide +kernel
theorem dX1_looseInColumn_0 : decode cX1_looseInColumn 0 = .ok (.aload_n 0, 1) := by decide +kernel
theorem dX1_looseInColumn_1 : decode cX1_looseInColumn 1 = .ok (.iload_n 1, 1) := by decide +kernel
theorem dX1_looseInColumn_2 : decode cX1_looseInColumn 2 = .ok (.bipush (-10), 2) := by decide +kernel
theorem dX1_looseInColumn_4 : decode cX1_looseInColumn 4 = .ok (.iload_n 1, 1) := by decide +kernel
theorem dX1_looseInColumn_5 : decode cX1_looseInColumn 5 = .ok (.bipush 10, 2) := by decide +kernel
theorem dX1_looseInColumn_7 : decode cX1_looseInColumn 7 = .ok (.idiv, 1) := by decide +kernel
theorem dX1_looseInColumn_8 : decode cX1_looseInColumn 8 = .ok (.invokevirtual 61, 3) := by decide +kernel
theorem dX1_looseInColumn_11 : decode cX1_looseInColumn 11 = .ok (.iconst 1, 1) := by decide +kernel
theorem dX1_looseInColumn_12 : decode cX1_looseInColumn 12 = .ok (.iadd, 1) := by decide +kernel
theorem dX1_looseInColumn_13 : decode cX1_looseInColumn 13 = .ok (.aload_n 0, 1) := by decide +kernel
theorem dX1_looseInColumn_14 : decode cX1_looseInColumn 14 = .ok (.iload_n 1, 1) := by decide +kernel
theorem dX1_looseInColumn_15 : decode cX1_looseInColumn 15 = .ok (.bipush 10, 2) := by decide +kernel
theorem dX1_looseInColumn_17 : decode cX1_looseInColumn 17 = .ok (.bipush 9, 2) := by decide +kernel
theorem dX1_looseInColumn_19 : decode cX1_looseInColumn 19 = .ok (.iload_n 1, 1) := by decide +kernel
theorem dX1_looseInColumn_20 : decode cX1_looseInColumn 20 = .ok (.bipush 10, 2) := by decide +kernel
theorem dX1_looseInColumn_22 : decode cX1_looseInColumn 22 = .ok (.idiv, 1) := by decide +kernel
theorem dX1_looseInColumn_23 : decode cX1_looseInColumn 23 = .ok (.isub, 1) := by decide +kernel
theorem dX1_looseInColumn_24 : decode cX1_looseInColumn 24 = .ok (.invokevirtual 61, 3) := by decide +kernel
theorem dX1_looseInColumn_27 : decode cX1_looseInColumn 27 = .ok (.iadd, 1) := by decide +kernel
theorem dX1_looseInColumn_28 : decode cX1_looseInColumn 28 = .ok (.ireturn, 1) := by decide +kernel
theorem dX1_looseBeside_0 : decode cX1_looseBeside 0 = .ok (.iconst 0, 1) := by decide +kernel
theorem dX1_looseBeside_1 : decode cX1_looseBeside 1 = .ok (.istore 4, 2) := by decide +kernel
theorem dX1_looseBeside_3 : decode cX1_looseBeside 3 = .ok (.iload 4, 2) := by decide +kernel
theorem dX1_looseBeside_5 : decode cX1_looseBeside 5 = .ok (.iload_n 3, 1) := by decide +kernel
theorem dX1_looseBeside_6 : decode cX1_looseBeside 6 = .ok (.if_icmp .ge 24, 3) := by decide +kernel
theorem dX1_looseBeside_9 : decode cX1_looseBeside 9 = .ok (.aload_n 0, 1) := by decide +kernel
theorem dX1_looseBeside_10 : decode cX1_looseBeside 10 = .ok (.iload_n 1, 1) := by decide +kernel
theorem dX1_looseBeside_11 : decode cX1_looseBeside 11 = .ok (.iload 4, 2) := by decide +kernel
theorem dX1_looseBeside_13 : decode cX1_looseBeside 13 = .ok (.iconst 1, 1) := by decide +kernel
theorem dX1_looseBeside_14 : decode cX1_looseBeside 14 = .ok (.iadd, 1) := by decide +kernel
theorem dX1_looseBeside_15 : decode cX1_looseBeside 15 = .ok (.iload_n 2, 1) := by decide +kernel
theorem dX1_looseBeside_16 : decode cX1_looseBeside 16 = .ok (.imul, 1) := by decide +kernel
theorem dX1_looseBeside_17 : decode cX1_looseBeside 17 = .ok (.iadd, 1) := by decide +kernel
theorem dX1_looseBeside_18 : decode cX1_looseBeside 18 = .ok (.invokevirtual 65, 3) := by decide +kernel
theorem dX1_looseBeside_21 : decode cX1_looseBeside 21 = .ok (.ifCond .eq 9, 3) := by decide +kernel
theorem dX1_looseBeside_24 : decode cX1_looseBeside 24 = .ok (.iinc 4 1, 3) := by decide +kernel
theorem dX1_looseBeside_27 : decode cX1_looseBeside 27 = .ok (.goto (-24), 3) := by decide +kernel
theorem dX1_looseBeside_30 : decode cX1_looseBeside 30 = .ok (.iload 4, 2) := by decide +kernel
theorem dX1_looseBeside_32 : decode cX1_looseBeside 32 = .ok (.ireturn, 1) := by decide +kernel
theorem dX1_fall_0 : decode cX1_fall 0 = .ok (.aload_n 0, 1) := by decide +kernel
theorem dX1_fall_1 : decode cX1_fall 1 = .ok (.iload_n 1, 1) := by decide +kernel
theorem dX1_fall_2 : decode cX1_fall 2 = .ok (.invokevirtual 47, 3) := by decide +kernel
theorem dX1_fall_5 : decode cX1_fall 5 = .ok (.istore_n 2, 1) := by decide +kernel
theorem dX1_fall_6 : decode cX1_fall 6 = .ok (.aload_n 0, 1) := by decide +kernel
theorem dX1_fall_7 : decode cX1_fall 7 = .ok (.iload_n 1, 1) := by decide +kernel
theorem dX1_fall_8 : decode cX1_fall 8 = .ok (.invokevirtual 51, 3) := by decide +kernel
theorem dX1_fall_11 : decode cX1_fall 11 = .ok (.istore_n 3, 1) := by decide +kernel
theorem dX1_fall_12 : decode cX1_fall 12 = .ok (.iload_n 1, 1) := by decide +kernel
theorem dX1_fall_13 : decode cX1_fall 13 = .ok (.aload_n 0, 1) := by decide +kernel
theorem dX1_fall_14 : decode cX1_fall 14 = .ok (.iload_n 1, 1) := by decide +kernel
theorem dX1_fall_15 : decode cX1_fall 15 = .ok (.iconst (-1), 1) := by decide +kernel
theorem dX1_fall_16 : decode cX1_fall 16 = .ok (.iload_n 1, 1) := by decide +kernel
theorem dX1_fall_17 : decode cX1_fall 17 = .ok (.bipush 10, 2) := by decide +kernel
theorem dX1_fall_19 : decode cX1_fall 19 = .ok (.irem, 1) := by decide +kernel
theorem dX1_fall_20 : decode cX1_fall 20 = .ok (.invokevirtual 61, 3) := by decide +kernel
theorem dX1_fall_23 : decode cX1_fall 23 = .ok (.isub, 1) := by decide +kernel
theorem dX1_fall_24 : decode cX1_fall 24 = .ok (.istore 4, 2) := by decide +kernel
theorem dX1_fall_26 : decode cX1_fall 26 = .ok (.iload_n 1, 1) := by decide +kernel
theorem dX1_fall_27 : decode cX1_fall 27 = .ok (.aload_n 0, 1) := by decide +kernel
theorem dX1_fall_28 : decode cX1_fall 28 = .ok (.iload_n 1, 1) := by decide +kernel
theorem dX1_fall_29 : decode cX1_fall 29 = .ok (.bipush (-10), 2) := by decide +kernel
theorem dX1_fall_31 : decode cX1_fall 31 = .ok (.iload_n 1, 1) := by decide +kernel
theorem dX1_fall_32 : decode cX1_fall 32 = .ok (.bipush 10, 2) := by decide +kernel
theorem dX1_fall_34 : decode cX1_fall 34 = .ok (.idiv, 1) := by decide +kernel
theorem dX1_fall_35 : decode cX1_fall 35 = .ok (.invokevirtual 61, 3) := by decide +kernel
theorem dX1_fall_38 : decode cX1_fall 38 = .ok (.bipush 10, 2) := by decide +kernel
theorem dX1_fall_40 : decode cX1_fall 40 = .ok (.imul, 1) := by decide +kernel
theorem dX1_fall_41 : decode cX1_fall 41 = .ok (.isub, 1) := by decide +kernel
theorem dX1_fall_42 : decode cX1_fall 42 = .ok (.istore 5, 2) := by decide +kernel
theorem dX1_fall_44 : decode cX1_fall 44 = .ok (.iload_n 2, 1) := by decide +kernel
theorem dX1_fall_45 : decode cX1_fall 45 = .ok (.iconst 3, 1) := by decide +kernel
theorem dX1_fall_46 : decode cX1_fall 46 = .ok (.if_icmp .le 11, 3) := by decide +kernel
theorem dX1_fall_49 : decode cX1_fall 49 = .ok (.aload_n 0, 1) := by decide +kernel
theorem dX1_fall_50 : decode cX1_fall 50 = .ok (.iload 4, 2) := by decide +kernel
theorem dX1_fall_52 : decode cX1_fall 52 = .ok (.iconst 1, 1) := by decide +kernel
theorem dX1_fall_53 : decode cX1_fall 53 = .ok (.iload_n 2, 1) := by decide +kernel
theorem dX1_fall_54 : decode cX1_fall 54 = .ok (.invokevirtual 68, 3) := by decide +kernel
theorem dX1_fall_57 : decode cX1_fall 57 = .ok (.iload_n 3, 1) := by decide +kernel
theorem dX1_fall_58 : decode cX1_fall 58 = .ok (.iconst 3, 1) := by decide +kernel
theorem dX1_fall_59 : decode cX1_fall 59 = .ok (.if_icmp .le 12, 3) := by decide +kernel
theorem dX1_fall_62 : decode cX1_fall 62 = .ok (.aload_n 0, 1) := by decide +kernel
theorem dX1_fall_63 : decode cX1_fall 63 = .ok (.iload 5, 2) := by decide +kernel
theorem dX1_fall_65 : decode cX1_fall 65 = .ok (.bipush 10, 2) := by decide +kernel
theorem dX1_fall_67 : decode cX1_fall 67 = .ok (.iload_n 3, 1) := by decide +kernel
theorem dX1_fall_68 : decode cX1_fall 68 = .ok (.invokevirtual 68, 3) := by decide +kernel
theorem dX1_fall_71 : decode cX1_fall 71 = .ok (.return_, 1) := by decide +kernel
theorem dX1_bury_0 : decode cX1_bury 0 = .ok (.iconst 0, 1) := by decide +kernel
theorem dX1_bury_1 : decode cX1_bury 1 = .ok (.istore 4, 2) := by decide +kernel
theorem dX1_bury_3 : decode cX1_bury 3 = .ok (.iload 4, 2) := by decide +kernel
theorem dX1_bury_5 : decode cX1_bury 5 = .ok (.iload_n 3, 1) := by decide +kernel
theorem dX1_bury_6 : decode cX1_bury 6 = .ok (.if_icmp .ge 33, 3) := by decide +kernel
theorem dX1_bury_9 : decode cX1_bury 9 = .ok (.iload_n 1, 1) := by decide +kernel
theorem dX1_bury_10 : decode cX1_bury 10 = .ok (.iload 4, 2) := by decide +kernel
theorem dX1_bury_12 : decode cX1_bury 12 = .ok (.iload_n 2, 1) := by decide +kernel
theorem dX1_bury_13 : decode cX1_bury 13 = .ok (.imul, 1) := by decide +kernel
theorem dX1_bury_14 : decode cX1_bury 14 = .ok (.iadd, 1) := by decide +kernel
theorem dX1_bury_15 : decode cX1_bury 15 = .ok (.istore 5, 2) := by decide +kernel
theorem dX1_bury_17 : decode cX1_bury 17 = .ok (.iload 5, 2) := by decide +kernel
theorem dX1_bury_19 : decode cX1_bury 19 = .ok (.invokestatic 37, 3) := by decide +kernel
theorem dX1_bury_22 : decode cX1_bury 22 = .ok (.ifCond .eq 11, 3) := by decide +kernel
theorem dX1_bury_25 : decode cX1_bury 25 = .ok (.aload_n 0, 1) := by decide +kernel
theorem dX1_bury_26 : decode cX1_bury 26 = .ok (.getfield 9, 3) := by decide +kernel
theorem dX1_bury_29 : decode cX1_bury 29 = .ok (.iload 5, 2) := by decide +kernel
theorem dX1_bury_31 : decode cX1_bury 31 = .ok (.iconst 2, 1) := by decide +kernel
theorem dX1_bury_32 : decode cX1_bury 32 = .ok (.iastore, 1) := by decide +kernel
theorem dX1_bury_33 : decode cX1_bury 33 = .ok (.iinc 4 1, 3) := by decide +kernel
theorem dX1_bury_36 : decode cX1_bury 36 = .ok (.goto (-33), 3) := by decide +kernel
theorem dX1_bury_39 : decode cX1_bury 39 = .ok (.return_, 1) := by decide +kernel
theorem dX2_init_0 : decode cX2_init 0 = .ok (.aload_n 0, 1) := by decide +kernel
theorem dX2_init_1 : decode cX2_init 1 = .ok (.invokespecial 3, 3) := by decide +kernel
theorem dX2_init_4 : decode cX2_init 4 = .ok (.aload_n 0, 1) := by decide +kernel
theorem dX2_init_5 : decode cX2_init 5 = .ok (.iconst (-1), 1) := by decide +kernel
theorem dX2_init_6 : decode cX2_init 6 = .ok (.putfield 9, 3) := by decide +kernel
theorem dX2_init_9 : decode cX2_init 9 = .ok (.aload_n 0, 1) := by decide +kernel
theorem dX2_init_10 : decode cX2_init 10 = .ok (.iconst 5, 1) := by decide +kernel
theorem dX2_init_11 : decode cX2_init 11 = .ok (.newarray .int, 2) := by decide +kernel
theorem dX2_init_13 : decode cX2_init 13 = .ok (.putfield 15, 3) := by decide +kernel
theorem dX2_init_16 : decode cX2_init 16 = .ok (.aload_n 0, 1) := by decide +kernel
theorem dX2_init_17 : decode cX2_init 17 = .ok (.iconst 5, 1) := by decide +kernel
theorem dX2_init_18 : decode cX2_init 18 = .ok (.newarray .int, 2) := by decide +kernel
theorem dX2_init_20 : decode cX2_init 20 = .ok (.putfield 19, 3) := by decide +kernel
theorem dX2_init_23 : decode cX2_init 23 = .ok (.aload_n 0, 1) := by decide +kernel
theorem dX2_init_24 : decode cX2_init 24 = .ok (.iload_n 1, 1) := by decide +kernel
theorem dX2_init_25 : decode cX2_init 25 = .ok (.putfield 22, 3) := by decide +kernel
theorem dX2_init_28 : decode cX2_init 28 = .ok (.aload_n 0, 1) := by decide +kernel
theorem dX2_init_29 : decode cX2_init 29 = .ok (.iload_n 2, 1) := by decide +kernel
theorem dX2_init_30 : decode cX2_init 30 = .ok (.putfield 25, 3) := by decide +kernel
theorem dX2_init_33 : decode cX2_init 33 = .ok (.aload_n 0, 1) := by decide +kernel
theorem dX2_init_34 : decode cX2_init 34 = .ok (.iload_n 3, 1) := by decide +kernel
theorem dX2_init_35 : decode cX2_init 35 = .ok (.putfield 28, 3) := by decide +kernel
theorem dX2_init_38 : decode cX2_init 38 = .ok (.aload_n 0, 1) := by decide +kernel
theorem dX2_init_39 : decode cX2_init 39 = .ok (.iload 4, 2) := by decide +kernel
theorem dX2_init_41 : decode cX2_init 41 = .ok (.putfield 31, 3) := by decide +kernel
theorem dX2_init_44 : decode cX2_init 44 = .ok (.aload_n 0, 1) := by decide +kernel
theorem dX2_init_45 : decode cX2_init 45 = .ok (.iload 5, 2) := by decide +kernel
theorem dX2_init_47 : decode cX2_init 47 = .ok (.putfield 34, 3) := by decide +kernel
theorem dX2_init_50 : decode cX2_init 50 = .ok (.return_, 1) := by decide +kernel
theorem dX2_place_0 : decode cX2_place 0 = .ok (.aload_n 0, 1) := by decide +kernel
theorem dX2_place_1 : decode cX2_place 1 = .ok (.getfield 9, 3) := by decide +kernel
theorem dX2_place_4 : decode cX2_place 4 = .ok (.iconst (-1), 1) := by decide +kernel
theorem dX2_place_5 : decode cX2_place 5 = .ok (.if_icmp .eq 5, 3) := by decide +kernel
theorem dX2_place_8 : decode cX2_place 8 = .ok (.iconst 2, 1) := by decide +kernel
theorem dX2_place_9 : decode cX2_place 9 = .ok (.ireturn, 1) := by decide +kernel
theorem dX2_place_10 : decode cX2_place 10 = .ok (.aload_n 0, 1) := by decide +kernel
theorem dX2_place_11 : decode cX2_place 11 = .ok (.getfield 34, 3) := by decide +kernel
theorem dX2_place_14 : decode cX2_place 14 = .ok (.iconst (-1), 1) := by decide +kernel
theorem dX2_place_15 : decode cX2_place 15 = .ok (.if_icmp .ne 7, 3) := by decide +kernel
theorem dX2_place_18 : decode cX2_place 18 = .ok (.iconst 0, 1) := by decide +kernel
theorem dX2_place_19 : decode cX2_place 19 = .ok (.goto 4, 3) := by decide +kernel
theorem dX2_place_22 : decode cX2_place 22 = .ok (.iconst 1, 1) := by decide +kernel
theorem dX2_place_23 : decode cX2_place 23 = .ok (.ireturn, 1) := by decide +kernel
theorem dX2_isInParcelOf_0 : decode cX2_isInParcelOf 0 = .ok (.aload_n 0, 1) := by decide +kernel
theorem dX2_isInParcelOf_1 : decode cX2_isInParcelOf 1 = .ok (.getfield 31, 3) := by decide +kernel
theorem dX2_isInParcelOf_4 : decode cX2_isInParcelOf 4 = .ok (.iload_n 1, 1) := by decide +kernel
theorem dX2_isInParcelOf_5 : decode cX2_isInParcelOf 5 = .ok (.if_icmp .ne 14, 3) := by decide +kernel
theorem dX2_isInParcelOf_8 : decode cX2_isInParcelOf 8 = .ok (.aload_n 0, 1) := by decide +kernel
theorem dX2_isInParcelOf_9 : decode cX2_isInParcelOf 9 = .ok (.invokevirtual 37, 3) := by decide +kernel
theorem dX2_isInParcelOf_12 : decode cX2_isInParcelOf 12 = .ok (.ifCond .ne 7, 3) := by decide +kernel
theorem dX2_isInParcelOf_15 : decode cX2_isInParcelOf 15 = .ok (.iconst 1, 1) := by decide +kernel
theorem dX2_isInParcelOf_16 : decode cX2_isInParcelOf 16 = .ok (.goto 4, 3) := by decide +kernel
theorem dX2_isInParcelOf_19 : decode cX2_isInParcelOf 19 = .ok (.iconst 0, 1) := by decide +kernel
theorem dX2_isInParcelOf_20 : decode cX2_isInParcelOf 20 = .ok (.ireturn, 1) := by decide +kernel
theorem dX2_lustre_0 : decode cX2_lustre 0 = .ok (.aload_n 0, 1) := by decide +kernel
theorem dX2_lustre_1 : decode cX2_lustre 1 = .ok (.getfield 41, 3) := by decide +kernel
theorem dX2_lustre_4 : decode cX2_lustre 4 = .ok (.aload_n 0, 1) := by decide +kernel
theorem dX2_lustre_5 : decode cX2_lustre 5 = .ok (.getfield 28, 3) := by decide +kernel
theorem dX2_lustre_8 : decode cX2_lustre 8 = .ok (.if_icmp .ge 5, 3) := by decide +kernel
theorem dX2_lustre_11 : decode cX2_lustre 11 = .ok (.iconst 0, 1) := by decide +kernel
theorem dX2_lustre_12 : decode cX2_lustre 12 = .ok (.ireturn, 1) := by decide +kernel
theorem dX2_lustre_13 : decode cX2_lustre 13 = .ok (.aload_n 0, 1) := by decide +kernel
theorem dX2_lustre_14 : decode cX2_lustre 14 = .ok (.getfield 41, 3) := by decide +kernel
theorem dX2_lustre_17 : decode cX2_lustre 17 = .ok (.aload_n 0, 1) := by decide +kernel
theorem dX2_lustre_18 : decode cX2_lustre 18 = .ok (.getfield 28, 3) := by decide +kernel
theorem dX2_lustre_21 : decode cX2_lustre 21 = .ok (.iconst 2, 1) := by decide +kernel
theorem dX2_lustre_22 : decode cX2_lustre 22 = .ok (.iadd, 1) := by decide +kernel
theorem dX2_lustre_23 : decode cX2_lustre 23 = .ok (.if_icmp .gt 7, 3) := by decide +kernel
theorem dX2_lustre_26 : decode cX2_lustre 26 = .ok (.iconst 1, 1) := by decide +kernel
theorem dX2_lustre_27 : decode cX2_lustre 27 = .ok (.goto 4, 3) := by decide +kernel
theorem dX2_lustre_30 : decode cX2_lustre 30 = .ok (.iconst 2, 1) := by decide +kernel
theorem dX2_lustre_31 : decode cX2_lustre 31 = .ok (.ireturn, 1) := by decide +kernel
theorem dX2_value_0 : decode cX2_value 0 = .ok (.aload_n 0, 1) := by decide +kernel
theorem dX2_value_1 : decode cX2_value 1 = .ok (.invokevirtual 44, 3) := by decide +kernel
theorem dX2_value_4 : decode cX2_value 4 = .ok (.lookupswitch 43 #[(0, 28), (1, 35)], 28) := by decide +kernel
theorem dX2_value_32 : decode cX2_value 32 = .ok (.aload_n 0, 1) := by decide +kernel
theorem dX2_value_33 : decode cX2_value 33 = .ok (.getfield 25, 3) := by decide +kernel
theorem dX2_value_36 : decode cX2_value 36 = .ok (.iconst 2, 1) := by decide +kernel
theorem dX2_value_37 : decode cX2_value 37 = .ok (.imul, 1) := by decide +kernel
theorem dX2_value_38 : decode cX2_value 38 = .ok (.ireturn, 1) := by decide +kernel
theorem dX2_value_39 : decode cX2_value 39 = .ok (.aload_n 0, 1) := by decide +kernel
theorem dX2_value_40 : decode cX2_value 40 = .ok (.getfield 25, 3) := by decide +kernel
theorem dX2_value_43 : decode cX2_value 43 = .ok (.bipush 10, 2) := by decide +kernel
theorem dX2_value_45 : decode cX2_value 45 = .ok (.imul, 1) := by decide +kernel
theorem dX2_value_46 : decode cX2_value 46 = .ok (.ireturn, 1) := by decide +kernel
theorem dX2_value_47 : decode cX2_value 47 = .ok (.iconst 0, 1) := by decide +kernel
theorem dX2_value_48 : decode cX2_value 48 = .ok (.ireturn, 1) := by decide +kernel
theorem dX2_bestBidder_0 : decode cX2_bestBidder 0 = .ok (.iconst (-1), 1) := by decide +kernel
theorem dX2_bestBidder_1 : decode cX2_bestBidder 1 = .ok (.istore_n 2, 1) := by decide +kernel
theorem dX2_bestBidder_2 : decode cX2_bestBidder 2 = .ok (.iconst 0, 1) := by decide +kernel
theorem dX2_bestBidder_3 : decode cX2_bestBidder 3 = .ok (.istore_n 3, 1) := by decide +kernel
theorem dX2_bestBidder_4 : decode cX2_bestBidder 4 = .ok (.iload_n 3, 1) := by decide +kernel
theorem dX2_bestBidder_5 : decode cX2_bestBidder 5 = .ok (.iconst 5, 1) := by decide +kernel
theorem dX2_bestBidder_6 : decode cX2_bestBidder 6 = .ok (.if_icmp .ge 52, 3) := by decide +kernel
theorem dX2_bestBidder_9 : decode cX2_bestBidder 9 = .ok (.iload_n 3, 1) := by decide +kernel
theorem dX2_bestBidder_10 : decode cX2_bestBidder 10 = .ok (.aload_n 1, 1) := by decide +kernel
theorem dX2_bestBidder_11 : decode cX2_bestBidder 11 = .ok (.arraylength, 1) := by decide +kernel
theorem dX2_bestBidder_12 : decode cX2_bestBidder 12 = .ok (.if_icmp .ge 46, 3) := by decide +kernel
theorem dX2_bestBidder_15 : decode cX2_bestBidder 15 = .ok (.aload_n 0, 1) := by decide +kernel
theorem dX2_bestBidder_16 : decode cX2_bestBidder 16 = .ok (.getfield 15, 3) := by decide +kernel
theorem dX2_bestBidder_19 : decode cX2_bestBidder 19 = .ok (.iload_n 3, 1) := by decide +kernel
theorem dX2_bestBidder_20 : decode cX2_bestBidder 20 = .ok (.iaload, 1) := by decide +kernel
theorem dX2_bestBidder_21 : decode cX2_bestBidder 21 = .ok (.ifCond .le 31, 3) := by decide +kernel
theorem dX2_bestBidder_24 : decode cX2_bestBidder 24 = .ok (.aload_n 0, 1) := by decide +kernel
theorem dX2_bestBidder_25 : decode cX2_bestBidder 25 = .ok (.getfield 15, 3) := by decide +kernel
theorem dX2_bestBidder_28 : decode cX2_bestBidder 28 = .ok (.iload_n 3, 1) := by decide +kernel
theorem dX2_bestBidder_29 : decode cX2_bestBidder 29 = .ok (.iaload, 1) := by decide +kernel
theorem dX2_bestBidder_30 : decode cX2_bestBidder 30 = .ok (.aload_n 1, 1) := by decide +kernel
theorem dX2_bestBidder_31 : decode cX2_bestBidder 31 = .ok (.iload_n 3, 1) := by decide +kernel
theorem dX2_bestBidder_32 : decode cX2_bestBidder 32 = .ok (.iaload, 1) := by decide +kernel
theorem dX2_bestBidder_33 : decode cX2_bestBidder 33 = .ok (.if_icmp .gt 19, 3) := by decide +kernel
theorem dX2_bestBidder_36 : decode cX2_bestBidder 36 = .ok (.iload_n 2, 1) := by decide +kernel
theorem dX2_bestBidder_37 : decode cX2_bestBidder 37 = .ok (.iconst (-1), 1) := by decide +kernel
theorem dX2_bestBidder_38 : decode cX2_bestBidder 38 = .ok (.if_icmp .eq 12, 3) := by decide +kernel
theorem dX2_bestBidder_41 : decode cX2_bestBidder 41 = .ok (.aload_n 0, 1) := by decide +kernel
theorem dX2_bestBidder_42 : decode cX2_bestBidder 42 = .ok (.iload_n 3, 1) := by decide +kernel
theorem dX2_bestBidder_43 : decode cX2_bestBidder 43 = .ok (.iload_n 2, 1) := by decide +kernel
theorem dX2_bestBidder_44 : decode cX2_bestBidder 44 = .ok (.invokevirtual 47, 3) := by decide +kernel
theorem dX2_bestBidder_47 : decode cX2_bestBidder 47 = .ok (.ifCond .eq 5, 3) := by decide +kernel
theorem dX2_bestBidder_50 : decode cX2_bestBidder 50 = .ok (.iload_n 3, 1) := by decide +kernel
theorem dX2_bestBidder_51 : decode cX2_bestBidder 51 = .ok (.istore_n 2, 1) := by decide +kernel
theorem dX2_bestBidder_52 : decode cX2_bestBidder 52 = .ok (.iinc 3 1, 3) := by decide +kernel
theorem dX2_bestBidder_55 : decode cX2_bestBidder 55 = .ok (.goto (-51), 3) := by decide +kernel
theorem dX2_bestBidder_58 : decode cX2_bestBidder 58 = .ok (.iload_n 2, 1) := by decide +kernel
theorem dX2_bestBidder_59 : decode cX2_bestBidder 59 = .ok (.ireturn, 1) := by decide +kernel
theorem dX2_isAhead_0 : decode cX2_isAhead 0 = .ok (.aload_n 0, 1) := by decide +kernel
theorem dX2_isAhead_1 : decode cX2_isAhead 1 = .ok (.getfield 15, 3) := by decide +kernel
theorem dX2_isAhead_4 : decode cX2_isAhead 4 = .ok (.iload_n 1, 1) := by decide +kernel
theorem dX2_isAhead_5 : decode cX2_isAhead 5 = .ok (.iaload, 1) := by decide +kernel
theorem dX2_isAhead_6 : decode cX2_isAhead 6 = .ok (.aload_n 0, 1) := by decide +kernel
theorem dX2_isAhead_7 : decode cX2_isAhead 7 = .ok (.getfield 15, 3) := by decide +kernel
theorem dX2_isAhead_10 : decode cX2_isAhead 10 = .ok (.iload_n 2, 1) := by decide +kernel
theorem dX2_isAhead_11 : decode cX2_isAhead 11 = .ok (.iaload, 1) := by decide +kernel
theorem dX2_isAhead_12 : decode cX2_isAhead 12 = .ok (.if_icmp .gt 33, 3) := by decide +kernel
theorem dX2_isAhead_15 : decode cX2_isAhead 15 = .ok (.aload_n 0, 1) := by decide +kernel
theorem dX2_isAhead_16 : decode cX2_isAhead 16 = .ok (.getfield 15, 3) := by decide +kernel
theorem dX2_isAhead_19 : decode cX2_isAhead 19 = .ok (.iload_n 1, 1) := by decide +kernel
theorem dX2_isAhead_20 : decode cX2_isAhead 20 = .ok (.iaload, 1) := by decide +kernel
theorem dX2_isAhead_21 : decode cX2_isAhead 21 = .ok (.aload_n 0, 1) := by decide +kernel
theorem dX2_isAhead_22 : decode cX2_isAhead 22 = .ok (.getfield 15, 3) := by decide +kernel
theorem dX2_isAhead_25 : decode cX2_isAhead 25 = .ok (.iload_n 2, 1) := by decide +kernel
theorem dX2_isAhead_26 : decode cX2_isAhead 26 = .ok (.iaload, 1) := by decide +kernel
theorem dX2_isAhead_27 : decode cX2_isAhead 27 = .ok (.if_icmp .ne 22, 3) := by decide +kernel
theorem dX2_isAhead_30 : decode cX2_isAhead 30 = .ok (.aload_n 0, 1) := by decide +kernel
theorem dX2_isAhead_31 : decode cX2_isAhead 31 = .ok (.getfield 19, 3) := by decide +kernel
theorem dX2_isAhead_34 : decode cX2_isAhead 34 = .ok (.iload_n 1, 1) := by decide +kernel
theorem dX2_isAhead_35 : decode cX2_isAhead 35 = .ok (.iaload, 1) := by decide +kernel
theorem dX2_isAhead_36 : decode cX2_isAhead 36 = .ok (.aload_n 0, 1) := by decide +kernel
theorem dX2_isAhead_37 : decode cX2_isAhead 37 = .ok (.getfield 19, 3) := by decide +kernel
theorem dX2_isAhead_40 : decode cX2_isAhead 40 = .ok (.iload_n 2, 1) := by decide +kernel
theorem dX2_isAhead_41 : decode cX2_isAhead 41 = .ok (.iaload, 1) := by decide +kernel
theorem dX2_isAhead_42 : decode cX2_isAhead 42 = .ok (.if_icmp .ge 7, 3) := by decide +kernel
theorem dX2_isAhead_45 : decode cX2_isAhead 45 = .ok (.iconst 1, 1) := by decide +kernel
theorem dX2_isAhead_46 : decode cX2_isAhead 46 = .ok (.goto 4, 3) := by decide +kernel
theorem dX2_isAhead_49 : decode cX2_isAhead 49 = .ok (.iconst 0, 1) := by decide +kernel
theorem dX2_isAhead_50 : decode cX2_isAhead 50 = .ok (.ireturn, 1) := by decide +kernel
theorem dX3_init_0 : decode cX3_init 0 = .ok (.aload_n 0, 1) := by decide +kernel
theorem dX3_init_1 : decode cX3_init 1 = .ok (.invokespecial 3, 3) := by decide +kernel
theorem dX3_init_4 : decode cX3_init 4 = .ok (.aload_n 0, 1) := by decide +kernel
theorem dX3_init_5 : decode cX3_init 5 = .ok (.new 9, 3) := by decide +kernel
theorem dX3_init_8 : decode cX3_init 8 = .ok (.dup, 1) := by decide +kernel
theorem dX3_init_9 : decode cX3_init 9 = .ok (.invokespecial 11, 3) := by decide +kernel
theorem dX3_init_12 : decode cX3_init 12 = .ok (.putfield 12, 3) := by decide +kernel
theorem dX3_init_15 : decode cX3_init 15 = .ok (.aload_n 0, 1) := by decide +kernel
theorem dX3_init_16 : decode cX3_init 16 = .ok (.new 16, 3) := by decide +kernel
theorem dX3_init_19 : decode cX3_init 19 = .ok (.dup, 1) := by decide +kernel
theorem dX3_init_20 : decode cX3_init 20 = .ok (.invokespecial 18, 3) := by decide +kernel
theorem dX3_init_23 : decode cX3_init 23 = .ok (.putfield 19, 3) := by decide +kernel
theorem dX3_init_26 : decode cX3_init 26 = .ok (.aload_n 0, 1) := by decide +kernel
theorem dX3_init_27 : decode cX3_init 27 = .ok (.new 16, 3) := by decide +kernel
theorem dX3_init_30 : decode cX3_init 30 = .ok (.dup, 1) := by decide +kernel
theorem dX3_init_31 : decode cX3_init 31 = .ok (.invokespecial 18, 3) := by decide +kernel
theorem dX3_init_34 : decode cX3_init 34 = .ok (.putfield 23, 3) := by decide +kernel
theorem dX3_init_37 : decode cX3_init 37 = .ok (.aload_n 0, 1) := by decide +kernel
theorem dX3_init_38 : decode cX3_init 38 = .ok (.bipush 8, 2) := by decide +kernel
theorem dX3_init_40 : decode cX3_init 40 = .ok (.newarray .int, 2) := by decide +kernel
theorem dX3_init_42 : decode cX3_init 42 = .ok (.putfield 26, 3) := by decide +kernel
theorem dX3_init_45 : decode cX3_init 45 = .ok (.aload_n 0, 1) := by decide +kernel
theorem dX3_init_46 : decode cX3_init 46 = .ok (.bipush 8, 2) := by decide +kernel
theorem dX3_init_48 : decode cX3_init 48 = .ok (.newarray .int, 2) := by decide +kernel
theorem dX3_init_50 : decode cX3_init 50 = .ok (.putfield 30, 3) := by decide +kernel
theorem dX3_init_53 : decode cX3_init 53 = .ok (.aload_n 0, 1) := by decide +kernel
theorem dX3_init_54 : decode cX3_init 54 = .ok (.bipush 8, 2) := by decide +kernel
theorem dX3_init_56 : decode cX3_init 56 = .ok (.newarray .int, 2) := by decide +kernel
theorem dX3_init_58 : decode cX3_init 58 = .ok (.putfield 33, 3) := by decide +kernel
theorem dX3_init_61 : decode cX3_init 61 = .ok (.aload_n 0, 1) := by decide +kernel
theorem dX3_init_62 : decode cX3_init 62 = .ok (.iconst 5, 1) := by decide +kernel
theorem dX3_init_63 : decode cX3_init 63 = .ok (.newarray .int, 2) := by decide +kernel
theorem dX3_init_65 : decode cX3_init 65 = .ok (.putfield 36, 3) := by decide +kernel
theorem dX3_init_68 : decode cX3_init 68 = .ok (.aload_n 0, 1) := by decide +kernel
theorem dX3_init_69 : decode cX3_init 69 = .ok (.getfield 36, 3) := by decide +kernel
theorem dX3_init_72 : decode cX3_init 72 = .ok (.sipush 20000, 3) := by decide +kernel
theorem dX3_init_75 : decode cX3_init 75 = .ok (.invokestatic 39, 3) := by decide +kernel
theorem dX3_init_78 : decode cX3_init 78 = .ok (.aload_n 0, 1) := by decide +kernel
theorem dX3_init_79 : decode cX3_init 79 = .ok (.bipush 8, 2) := by decide +kernel
theorem dX3_init_81 : decode cX3_init 81 = .ok (.newarray .int, 2) := by decide +kernel
theorem dX3_init_83 : decode cX3_init 83 = .ok (.putfield 45, 3) := by decide +kernel
theorem dX3_init_86 : decode cX3_init 86 = .ok (.aload_n 0, 1) := by decide +kernel
theorem dX3_init_87 : decode cX3_init 87 = .ok (.bipush 16, 2) := by decide +kernel
theorem dX3_init_89 : decode cX3_init 89 = .ok (.newarray .int, 2) := by decide +kernel
theorem dX3_init_91 : decode cX3_init 91 = .ok (.putfield 48, 3) := by decide +kernel
theorem dX3_init_94 : decode cX3_init 94 = .ok (.return_, 1) := by decide +kernel
theorem dX3_seam_0 : decode cX3_seam 0 = .ok (.iload_n 1, 1) := by decide +kernel
theorem dX3_seam_1 : decode cX3_seam 1 = .ok (.invokestatic 51, 3) := by decide +kernel
theorem dX3_seam_4 : decode cX3_seam 4 = .ok (.iload_n 2, 1) := by decide +kernel
theorem dX3_seam_5 : decode cX3_seam 5 = .ok (.iconst 1, 1) := by decide +kernel
theorem dX3_seam_6 : decode cX3_seam 6 = .ok (.sipush 999, 3) := by decide +kernel
theorem dX3_seam_9 : decode cX3_seam 9 = .ok (.invokestatic 55, 3) := by decide +kernel
theorem dX3_seam_12 : decode cX3_seam 12 = .ok (.iload_n 3, 1) := by decide +kernel
theorem dX3_seam_13 : decode cX3_seam 13 = .ok (.iconst 0, 1) := by decide +kernel
theorem dX3_seam_14 : decode cX3_seam 14 = .ok (.bipush 9, 2) := by decide +kernel
theorem dX3_seam_16 : decode cX3_seam 16 = .ok (.invokestatic 55, 3) := by decide +kernel
theorem dX3_seam_19 : decode cX3_seam 19 = .ok (.aload_n 0, 1) := by decide +kernel
theorem dX3_seam_20 : decode cX3_seam 20 = .ok (.getfield 12, 3) := by decide +kernel
theorem dX3_seam_23 : decode cX3_seam 23 = .ok (.getfield 59, 3) := by decide +kernel
theorem dX3_seam_26 : decode cX3_seam 26 = .ok (.iload_n 1, 1) := by decide +kernel
theorem dX3_seam_27 : decode cX3_seam 27 = .ok (.iaload, 1) := by decide +kernel
theorem dX3_seam_28 : decode cX3_seam 28 = .ok (.ifCond .eq 13, 3) := by decide +kernel
theorem dX3_seam_31 : decode cX3_seam 31 = .ok (.new 62, 3) := by decide +kernel
theorem dX3_seam_34 : decode cX3_seam 34 = .ok (.dup, 1) := by decide +kernel
theorem dX3_seam_35 : decode cX3_seam 35 = .ok (.ldc 64, 2) := by decide +kernel
theorem dX3_seam_37 : decode cX3_seam 37 = .ok (.invokespecial 66, 3) := by decide +kernel
theorem dX3_seam_40 : decode cX3_seam 40 = .ok (.athrow, 1) := by decide +kernel
theorem dX3_seam_41 : decode cX3_seam 41 = .ok (.aload_n 0, 1) := by decide +kernel
theorem dX3_seam_42 : decode cX3_seam 42 = .ok (.getfield 12, 3) := by decide +kernel
theorem dX3_seam_45 : decode cX3_seam 45 = .ok (.getfield 69, 3) := by decide +kernel
theorem dX3_seam_48 : decode cX3_seam 48 = .ok (.iload_n 1, 1) := by decide +kernel
theorem dX3_seam_49 : decode cX3_seam 49 = .ok (.iaload, 1) := by decide +kernel
theorem dX3_seam_50 : decode cX3_seam 50 = .ok (.ifCond .le 13, 3) := by decide +kernel
theorem dX3_seam_53 : decode cX3_seam 53 = .ok (.new 62, 3) := by decide +kernel
theorem dX3_seam_56 : decode cX3_seam 56 = .ok (.dup, 1) := by decide +kernel
theorem dX3_seam_57 : decode cX3_seam 57 = .ok (.ldc 72, 2) := by decide +kernel
theorem dX3_seam_59 : decode cX3_seam 59 = .ok (.invokespecial 66, 3) := by decide +kernel
theorem dX3_seam_62 : decode cX3_seam 62 = .ok (.athrow, 1) := by decide +kernel
theorem dX3_seam_63 : decode cX3_seam 63 = .ok (.aload_n 0, 1) := by decide +kernel
theorem dX3_seam_64 : decode cX3_seam 64 = .ok (.getfield 12, 3) := by decide +kernel
theorem dX3_seam_67 : decode cX3_seam 67 = .ok (.getfield 69, 3) := by decide +kernel
theorem dX3_seam_70 : decode cX3_seam 70 = .ok (.iload_n 1, 1) := by decide +kernel
theorem dX3_seam_71 : decode cX3_seam 71 = .ok (.iload_n 2, 1) := by decide +kernel
theorem dX3_seam_72 : decode cX3_seam 72 = .ok (.iastore, 1) := by decide +kernel
theorem dX3_seam_73 : decode cX3_seam 73 = .ok (.aload_n 0, 1) := by decide +kernel
theorem dX3_seam_74 : decode cX3_seam 74 = .ok (.getfield 12, 3) := by decide +kernel
theorem dX3_seam_77 : decode cX3_seam 77 = .ok (.getfield 74, 3) := by decide +kernel
theorem dX3_seam_80 : decode cX3_seam 80 = .ok (.iload_n 1, 1) := by decide +kernel
theorem dX3_seam_81 : decode cX3_seam 81 = .ok (.iload_n 2, 1) := by decide +kernel
theorem dX3_seam_82 : decode cX3_seam 82 = .ok (.iastore, 1) := by decide +kernel
theorem dX3_seam_83 : decode cX3_seam 83 = .ok (.aload_n 0, 1) := by decide +kernel
theorem dX3_seam_84 : decode cX3_seam 84 = .ok (.getfield 12, 3) := by decide +kernel
theorem dX3_seam_87 : decode cX3_seam 87 = .ok (.getfield 77, 3) := by decide +kernel
theorem dX3_seam_90 : decode cX3_seam 90 = .ok (.iload_n 1, 1) := by decide +kernel
theorem dX3_seam_91 : decode cX3_seam 91 = .ok (.iload_n 3, 1) := by decide +kernel
theorem dX3_seam_92 : decode cX3_seam 92 = .ok (.iastore, 1) := by decide +kernel
theorem dX3_seam_93 : decode cX3_seam 93 = .ok (.return_, 1) := by decide +kernel
theorem dX3_pass_0 : decode cX3_pass 0 = .ok (.iload_n 1, 1) := by decide +kernel
theorem dX3_pass_1 : decode cX3_pass 1 = .ok (.iconst 1, 1) := by decide +kernel
theorem dX3_pass_2 : decode cX3_pass 2 = .ok (.bipush 99, 2) := by decide +kernel
theorem dX3_pass_4 : decode cX3_pass 4 = .ok (.invokestatic 55, 3) := by decide +kernel
theorem dX3_pass_7 : decode cX3_pass 7 = .ok (.aload_n 0, 1) := by decide +kernel
theorem dX3_pass_8 : decode cX3_pass 8 = .ok (.getfield 80, 3) := by decide +kernel
theorem dX3_pass_11 : decode cX3_pass 11 = .ok (.iload_n 1, 1) := by decide +kernel
theorem dX3_pass_12 : decode cX3_pass 12 = .ok (.iadd, 1) := by decide +kernel
theorem dX3_pass_13 : decode cX3_pass 13 = .ok (.sipush 5000, 3) := by decide +kernel
theorem dX3_pass_16 : decode cX3_pass 16 = .ok (.if_icmp .le 13, 3) := by decide +kernel
theorem dX3_pass_19 : decode cX3_pass 19 = .ok (.new 62, 3) := by decide +kernel
theorem dX3_pass_22 : decode cX3_pass 22 = .ok (.dup, 1) := by decide +kernel
theorem dX3_pass_23 : decode cX3_pass 23 = .ok (.ldc 84, 2) := by decide +kernel
theorem dX3_pass_25 : decode cX3_pass 25 = .ok (.invokespecial 66, 3) := by decide +kernel
theorem dX3_pass_28 : decode cX3_pass 28 = .ok (.athrow, 1) := by decide +kernel
theorem dX3_pass_29 : decode cX3_pass 29 = .ok (.aload_n 0, 1) := by decide +kernel
theorem dX3_pass_30 : decode cX3_pass 30 = .ok (.dup, 1) := by decide +kernel
theorem dX3_pass_31 : decode cX3_pass 31 = .ok (.getfield 80, 3) := by decide +kernel
theorem dX3_pass_34 : decode cX3_pass 34 = .ok (.iload_n 1, 1) := by decide +kernel
theorem dX3_pass_35 : decode cX3_pass 35 = .ok (.iadd, 1) := by decide +kernel
theorem dX3_pass_36 : decode cX3_pass 36 = .ok (.putfield 80, 3) := by decide +kernel
theorem dX3_pass_39 : decode cX3_pass 39 = .ok (.aload_n 0, 1) := by decide +kernel
theorem dX3_pass_40 : decode cX3_pass 40 = .ok (.getfield 80, 3) := by decide +kernel
theorem dX3_pass_43 : decode cX3_pass 43 = .ok (.ireturn, 1) := by decide +kernel
theorem dX3_peg_0 : decode cX3_peg 0 = .ok (.iload_n 1, 1) := by decide +kernel
theorem dX3_peg_1 : decode cX3_peg 1 = .ok (.invokestatic 86, 3) := by decide +kernel
theorem dX3_peg_4 : decode cX3_peg 4 = .ok (.iload_n 2, 1) := by decide +kernel
theorem dX3_peg_5 : decode cX3_peg 5 = .ok (.invokestatic 51, 3) := by decide +kernel
theorem dX3_peg_8 : decode cX3_peg 8 = .ok (.iload_n 3, 1) := by decide +kernel
theorem dX3_peg_9 : decode cX3_peg 9 = .ok (.iconst 1, 1) := by decide +kernel
theorem dX3_peg_10 : decode cX3_peg 10 = .ok (.iconst 4, 1) := by decide +kernel
theorem dX3_peg_11 : decode cX3_peg 11 = .ok (.invokestatic 55, 3) := by decide +kernel
theorem dX3_peg_14 : decode cX3_peg 14 = .ok (.iload 4, 2) := by decide +kernel
theorem dX3_peg_16 : decode cX3_peg 16 = .ok (.iconst 1, 1) := by decide +kernel
theorem dX3_peg_17 : decode cX3_peg 17 = .ok (.iconst 4, 1) := by decide +kernel
theorem dX3_peg_18 : decode cX3_peg 18 = .ok (.invokestatic 55, 3) := by decide +kernel
theorem dX3_peg_21 : decode cX3_peg 21 = .ok (.iload_n 2, 1) := by decide +kernel
theorem dX3_peg_22 : decode cX3_peg 22 = .ok (.bipush 10, 2) := by decide +kernel
theorem dX3_peg_24 : decode cX3_peg 24 = .ok (.idiv, 1) := by decide +kernel
theorem dX3_peg_25 : decode cX3_peg 25 = .ok (.iload_n 3, 1) := by decide +kernel
theorem dX3_peg_26 : decode cX3_peg 26 = .ok (.iadd, 1) := by decide +kernel
theorem dX3_peg_27 : decode cX3_peg 27 = .ok (.bipush 10, 2) := by decide +kernel
theorem dX3_peg_29 : decode cX3_peg 29 = .ok (.if_icmp .gt 15, 3) := by decide +kernel
theorem dX3_peg_32 : decode cX3_peg 32 = .ok (.iload_n 2, 1) := by decide +kernel
theorem dX3_peg_33 : decode cX3_peg 33 = .ok (.bipush 10, 2) := by decide +kernel
theorem dX3_peg_35 : decode cX3_peg 35 = .ok (.irem, 1) := by decide +kernel
theorem dX3_peg_36 : decode cX3_peg 36 = .ok (.iload 4, 2) := by decide +kernel
theorem dX3_peg_38 : decode cX3_peg 38 = .ok (.iadd, 1) := by decide +kernel
theorem dX3_peg_39 : decode cX3_peg 39 = .ok (.bipush 10, 2) := by decide +kernel
theorem dX3_peg_41 : decode cX3_peg 41 = .ok (.if_icmp .le 13, 3) := by decide +kernel
theorem dX3_peg_44 : decode cX3_peg 44 = .ok (.new 89, 3) := by decide +kernel
theorem dX3_peg_47 : decode cX3_peg 47 = .ok (.dup, 1) := by decide +kernel
theorem dX3_peg_48 : decode cX3_peg 48 = .ok (.ldc 91, 2) := by decide +kernel
theorem dX3_peg_50 : decode cX3_peg 50 = .ok (.invokespecial 93, 3) := by decide +kernel
theorem dX3_peg_53 : decode cX3_peg 53 = .ok (.athrow, 1) := by decide +kernel
theorem dX3_peg_54 : decode cX3_peg 54 = .ok (.aload_n 0, 1) := by decide +kernel
theorem dX3_peg_55 : decode cX3_peg 55 = .ok (.getfield 19, 3) := by decide +kernel
theorem dX3_peg_58 : decode cX3_peg 58 = .ok (.invokevirtual 94, 3) := by decide +kernel
theorem dX3_peg_61 : decode cX3_peg 61 = .ok (.bipush 12, 2) := by decide +kernel
theorem dX3_peg_63 : decode cX3_peg 63 = .ok (.if_icmp .lt 13, 3) := by decide +kernel
theorem dX3_peg_66 : decode cX3_peg 66 = .ok (.new 62, 3) := by decide +kernel
theorem dX3_peg_69 : decode cX3_peg 69 = .ok (.dup, 1) := by decide +kernel
theorem dX3_peg_70 : decode cX3_peg 70 = .ok (.ldc 98, 2) := by decide +kernel
theorem dX3_peg_72 : decode cX3_peg 72 = .ok (.invokespecial 66, 3) := by decide +kernel
theorem dX3_peg_75 : decode cX3_peg 75 = .ok (.athrow, 1) := by decide +kernel
theorem dX3_peg_76 : decode cX3_peg 76 = .ok (.aload_n 0, 1) := by decide +kernel
theorem dX3_peg_77 : decode cX3_peg 77 = .ok (.iload_n 1, 1) := by decide +kernel
theorem dX3_peg_78 : decode cX3_peg 78 = .ok (.invokevirtual 100, 3) := by decide +kernel
theorem dX3_peg_81 : decode cX3_peg 81 = .ok (.aload_n 0, 1) := by decide +kernel
theorem dX3_peg_82 : decode cX3_peg 82 = .ok (.getfield 19, 3) := by decide +kernel
theorem dX3_peg_85 : decode cX3_peg 85 = .ok (.new 103, 3) := by decide +kernel
theorem dX3_peg_88 : decode cX3_peg 88 = .ok (.dup, 1) := by decide +kernel
theorem dX3_peg_89 : decode cX3_peg 89 = .ok (.iload_n 1, 1) := by decide +kernel
theorem dX3_peg_90 : decode cX3_peg 90 = .ok (.iload_n 2, 1) := by decide +kernel
theorem dX3_peg_91 : decode cX3_peg 91 = .ok (.iload_n 3, 1) := by decide +kernel
theorem dX3_peg_92 : decode cX3_peg 92 = .ok (.iload 4, 2) := by decide +kernel
theorem dX3_peg_94 : decode cX3_peg 94 = .ok (.aload_n 0, 1) := by decide +kernel
theorem dX3_peg_95 : decode cX3_peg 95 = .ok (.getfield 80, 3) := by decide +kernel
theorem dX3_peg_98 : decode cX3_peg 98 = .ok (.invokespecial 105, 3) := by decide +kernel
theorem dX3_peg_101 : decode cX3_peg 101 = .ok (.invokevirtual 108, 3) := by decide +kernel
theorem dX3_peg_104 : decode cX3_peg 104 = .ok (.pop, 1) := by decide +kernel
theorem dX3_peg_105 : decode cX3_peg 105 = .ok (.aload_n 0, 1) := by decide +kernel
theorem dX3_peg_106 : decode cX3_peg 106 = .ok (.getfield 19, 3) := by decide +kernel
theorem dX3_peg_109 : decode cX3_peg 109 = .ok (.invokevirtual 94, 3) := by decide +kernel
theorem dX3_peg_112 : decode cX3_peg 112 = .ok (.iconst 1, 1) := by decide +kernel
theorem dX3_peg_113 : decode cX3_peg 113 = .ok (.isub, 1) := by decide +kernel
theorem dX3_peg_114 : decode cX3_peg 114 = .ok (.ireturn, 1) := by decide +kernel
theorem dX3_witness_0 : decode cX3_witness 0 = .ok (.aload_n 0, 1) := by decide +kernel
theorem dX3_witness_1 : decode cX3_witness 1 = .ok (.iload_n 1, 1) := by decide +kernel
theorem dX3_witness_2 : decode cX3_witness 2 = .ok (.invokevirtual 112, 3) := by decide +kernel
theorem dX3_witness_5 : decode cX3_witness 5 = .ok (.astore 4, 2) := by decide +kernel
theorem dX3_witness_7 : decode cX3_witness 7 = .ok (.iload_n 2, 1) := by decide +kernel
theorem dX3_witness_8 : decode cX3_witness 8 = .ok (.invokestatic 86, 3) := by decide +kernel
theorem dX3_witness_11 : decode cX3_witness 11 = .ok (.iload_n 3, 1) := by decide +kernel
theorem dX3_witness_12 : decode cX3_witness 12 = .ok (.iconst 0, 1) := by decide +kernel
theorem dX3_witness_13 : decode cX3_witness 13 = .ok (.aload_n 0, 1) := by decide +kernel
theorem dX3_witness_14 : decode cX3_witness 14 = .ok (.getfield 80, 3) := by decide +kernel
theorem dX3_witness_17 : decode cX3_witness 17 = .ok (.invokestatic 55, 3) := by decide +kernel
theorem dX3_witness_20 : decode cX3_witness 20 = .ok (.aload 4, 2) := by decide +kernel
theorem dX3_witness_22 : decode cX3_witness 22 = .ok (.iload_n 2, 1) := by decide +kernel
theorem dX3_witness_23 : decode cX3_witness 23 = .ok (.invokevirtual 116, 3) := by decide +kernel
theorem dX3_witness_26 : decode cX3_witness 26 = .ok (.ifCond .eq 13, 3) := by decide +kernel
theorem dX3_witness_29 : decode cX3_witness 29 = .ok (.new 62, 3) := by decide +kernel
theorem dX3_witness_32 : decode cX3_witness 32 = .ok (.dup, 1) := by decide +kernel
theorem dX3_witness_33 : decode cX3_witness 33 = .ok (.ldc 120, 2) := by decide +kernel
theorem dX3_witness_35 : decode cX3_witness 35 = .ok (.invokespecial 66, 3) := by decide +kernel
theorem dX3_witness_38 : decode cX3_witness 38 = .ok (.athrow, 1) := by decide +kernel
theorem dX3_witness_39 : decode cX3_witness 39 = .ok (.aload 4, 2) := by decide +kernel
theorem dX3_witness_41 : decode cX3_witness 41 = .ok (.getfield 122, 3) := by decide +kernel
theorem dX3_witness_44 : decode cX3_witness 44 = .ok (.iload_n 2, 1) := by decide +kernel
theorem dX3_witness_45 : decode cX3_witness 45 = .ok (.iaload, 1) := by decide +kernel
theorem dX3_witness_46 : decode cX3_witness 46 = .ok (.iconst (-1), 1) := by decide +kernel
theorem dX3_witness_47 : decode cX3_witness 47 = .ok (.if_icmp .eq 13, 3) := by decide +kernel
theorem dX3_witness_50 : decode cX3_witness 50 = .ok (.new 62, 3) := by decide +kernel
theorem dX3_witness_53 : decode cX3_witness 53 = .ok (.dup, 1) := by decide +kernel
theorem dX3_witness_54 : decode cX3_witness 54 = .ok (.ldc 125, 2) := by decide +kernel
theorem dX3_witness_56 : decode cX3_witness 56 = .ok (.invokespecial 66, 3) := by decide +kernel
theorem dX3_witness_59 : decode cX3_witness 59 = .ok (.athrow, 1) := by decide +kernel
theorem dX3_witness_60 : decode cX3_witness 60 = .ok (.aload 4, 2) := by decide +kernel
theorem dX3_witness_62 : decode cX3_witness 62 = .ok (.getfield 122, 3) := by decide +kernel
theorem dX3_witness_65 : decode cX3_witness 65 = .ok (.iload_n 2, 1) := by decide +kernel
theorem dX3_witness_66 : decode cX3_witness 66 = .ok (.iload_n 3, 1) := by decide +kernel
theorem dX3_witness_67 : decode cX3_witness 67 = .ok (.iastore, 1) := by decide +kernel
theorem dX3_witness_68 : decode cX3_witness 68 = .ok (.aload 4, 2) := by decide +kernel
theorem dX3_witness_70 : decode cX3_witness 70 = .ok (.aload 4, 2) := by decide +kernel
theorem dX3_witness_72 : decode cX3_witness 72 = .ok (.invokevirtual 127, 3) := by decide +kernel
theorem dX3_witness_75 : decode cX3_witness 75 = .ok (.putfield 130, 3) := by decide +kernel
theorem dX3_witness_78 : decode cX3_witness 78 = .ok (.aload 4, 2) := by decide +kernel
theorem dX3_witness_80 : decode cX3_witness 80 = .ok (.getfield 130, 3) := by decide +kernel
theorem dX3_witness_83 : decode cX3_witness 83 = .ok (.ireturn, 1) := by decide +kernel
theorem dX3_partner_0 : decode cX3_partner 0 = .ok (.aload_n 0, 1) := by decide +kernel
theorem dX3_partner_1 : decode cX3_partner 1 = .ok (.iload_n 1, 1) := by decide +kernel
theorem dX3_partner_2 : decode cX3_partner 2 = .ok (.invokevirtual 112, 3) := by decide +kernel
theorem dX3_partner_5 : decode cX3_partner 5 = .ok (.astore 4, 2) := by decide +kernel
theorem dX3_partner_7 : decode cX3_partner 7 = .ok (.iload_n 2, 1) := by decide +kernel
theorem dX3_partner_8 : decode cX3_partner 8 = .ok (.invokestatic 86, 3) := by decide +kernel
theorem dX3_partner_11 : decode cX3_partner 11 = .ok (.iload_n 3, 1) := by decide +kernel
theorem dX3_partner_12 : decode cX3_partner 12 = .ok (.iconst 1, 1) := by decide +kernel
theorem dX3_partner_13 : decode cX3_partner 13 = .ok (.bipush 11, 2) := by decide +kernel
theorem dX3_partner_15 : decode cX3_partner 15 = .ok (.invokestatic 55, 3) := by decide +kernel
theorem dX3_partner_18 : decode cX3_partner 18 = .ok (.aload 4, 2) := by decide +kernel
theorem dX3_partner_20 : decode cX3_partner 20 = .ok (.iload_n 2, 1) := by decide +kernel
theorem dX3_partner_21 : decode cX3_partner 21 = .ok (.invokevirtual 116, 3) := by decide +kernel
theorem dX3_partner_24 : decode cX3_partner 24 = .ok (.ifCond .eq 13, 3) := by decide +kernel
theorem dX3_partner_27 : decode cX3_partner 27 = .ok (.new 62, 3) := by decide +kernel
theorem dX3_partner_30 : decode cX3_partner 30 = .ok (.dup, 1) := by decide +kernel
theorem dX3_partner_31 : decode cX3_partner 31 = .ok (.ldc 120, 2) := by decide +kernel
theorem dX3_partner_33 : decode cX3_partner 33 = .ok (.invokespecial 66, 3) := by decide +kernel
theorem dX3_partner_36 : decode cX3_partner 36 = .ok (.athrow, 1) := by decide +kernel
theorem dX3_partner_37 : decode cX3_partner 37 = .ok (.aload 4, 2) := by decide +kernel
theorem dX3_partner_39 : decode cX3_partner 39 = .ok (.getfield 133, 3) := by decide +kernel
theorem dX3_partner_42 : decode cX3_partner 42 = .ok (.aload 4, 2) := by decide +kernel
theorem dX3_partner_44 : decode cX3_partner 44 = .ok (.getfield 136, 3) := by decide +kernel
theorem dX3_partner_47 : decode cX3_partner 47 = .ok (.iaload, 1) := by decide +kernel
theorem dX3_partner_48 : decode cX3_partner 48 = .ok (.iload_n 3, 1) := by decide +kernel
theorem dX3_partner_49 : decode cX3_partner 49 = .ok (.if_icmp .gt 13, 3) := by decide +kernel
theorem dX3_partner_52 : decode cX3_partner 52 = .ok (.new 62, 3) := by decide +kernel
theorem dX3_partner_55 : decode cX3_partner 55 = .ok (.dup, 1) := by decide +kernel
theorem dX3_partner_56 : decode cX3_partner 56 = .ok (.ldc 139, 2) := by decide +kernel
theorem dX3_partner_58 : decode cX3_partner 58 = .ok (.invokespecial 66, 3) := by decide +kernel
theorem dX3_partner_61 : decode cX3_partner 61 = .ok (.athrow, 1) := by decide +kernel
theorem dX3_partner_62 : decode cX3_partner 62 = .ok (.aload 4, 2) := by decide +kernel
theorem dX3_partner_64 : decode cX3_partner 64 = .ok (.getfield 133, 3) := by decide +kernel
theorem dX3_partner_67 : decode cX3_partner 67 = .ok (.aload 4, 2) := by decide +kernel
theorem dX3_partner_69 : decode cX3_partner 69 = .ok (.getfield 136, 3) := by decide +kernel
theorem dX3_partner_72 : decode cX3_partner 72 = .ok (.dup2, 1) := by decide +kernel
theorem dX3_partner_73 : decode cX3_partner 73 = .ok (.iaload, 1) := by decide +kernel
theorem dX3_partner_74 : decode cX3_partner 74 = .ok (.iload_n 3, 1) := by decide +kernel
theorem dX3_partner_75 : decode cX3_partner 75 = .ok (.isub, 1) := by decide +kernel
theorem dX3_partner_76 : decode cX3_partner 76 = .ok (.iastore, 1) := by decide +kernel
theorem dX3_partner_77 : decode cX3_partner 77 = .ok (.aload 4, 2) := by decide +kernel
theorem dX3_partner_79 : decode cX3_partner 79 = .ok (.getfield 133, 3) := by decide +kernel
theorem dX3_partner_82 : decode cX3_partner 82 = .ok (.iload_n 2, 1) := by decide +kernel
theorem dX3_partner_83 : decode cX3_partner 83 = .ok (.iload_n 3, 1) := by decide +kernel
theorem dX3_partner_84 : decode cX3_partner 84 = .ok (.iastore, 1) := by decide +kernel
theorem dX3_partner_85 : decode cX3_partner 85 = .ok (.aload 4, 2) := by decide +kernel
theorem dX3_partner_87 : decode cX3_partner 87 = .ok (.getfield 133, 3) := by decide +kernel
theorem dX3_partner_90 : decode cX3_partner 90 = .ok (.aload 4, 2) := by decide +kernel
theorem dX3_partner_92 : decode cX3_partner 92 = .ok (.getfield 136, 3) := by decide +kernel
theorem dX3_partner_95 : decode cX3_partner 95 = .ok (.iaload, 1) := by decide +kernel
theorem dX3_partner_96 : decode cX3_partner 96 = .ok (.ireturn, 1) := by decide +kernel
theorem dX3_dig_0 : decode cX3_dig 0 = .ok (.aload_n 0, 1) := by decide +kernel
theorem dX3_dig_1 : decode cX3_dig 1 = .ok (.iload_n 1, 1) := by decide +kernel
theorem dX3_dig_2 : decode cX3_dig 2 = .ok (.iload_n 2, 1) := by decide +kernel
theorem dX3_dig_3 : decode cX3_dig 3 = .ok (.iload_n 3, 1) := by decide +kernel
theorem dX3_dig_4 : decode cX3_dig 4 = .ok (.invokevirtual 141, 3) := by decide +kernel
theorem dX3_dig_7 : decode cX3_dig 7 = .ok (.astore 4, 2) := by decide +kernel
theorem dX3_dig_9 : decode cX3_dig 9 = .ok (.aload_n 0, 1) := by decide +kernel
theorem dX3_dig_10 : decode cX3_dig 10 = .ok (.getfield 12, 3) := by decide +kernel
theorem dX3_dig_13 : decode cX3_dig 13 = .ok (.iload_n 3, 1) := by decide +kernel
theorem dX3_dig_14 : decode cX3_dig 14 = .ok (.invokevirtual 145, 3) := by decide +kernel
theorem dX3_dig_17 : decode cX3_dig 17 = .ok (.ifCond .ne 13, 3) := by decide +kernel
theorem dX3_dig_20 : decode cX3_dig 20 = .ok (.new 62, 3) := by decide +kernel
theorem dX3_dig_23 : decode cX3_dig 23 = .ok (.dup, 1) := by decide +kernel
theorem dX3_dig_24 : decode cX3_dig 24 = .ok (.ldc 148, 2) := by decide +kernel
theorem dX3_dig_26 : decode cX3_dig 26 = .ok (.invokespecial 66, 3) := by decide +kernel
theorem dX3_dig_29 : decode cX3_dig 29 = .ok (.athrow, 1) := by decide +kernel
theorem dX3_dig_30 : decode cX3_dig 30 = .ok (.aload_n 0, 1) := by decide +kernel
theorem dX3_dig_31 : decode cX3_dig 31 = .ok (.aload 4, 2) := by decide +kernel
theorem dX3_dig_33 : decode cX3_dig 33 = .ok (.iload_n 1, 1) := by decide +kernel
theorem dX3_dig_34 : decode cX3_dig 34 = .ok (.iload_n 3, 1) := by decide +kernel
theorem dX3_dig_35 : decode cX3_dig 35 = .ok (.invokevirtual 150, 3) := by decide +kernel
theorem dX3_dig_38 : decode cX3_dig 38 = .ok (.ireturn, 1) := by decide +kernel
theorem dX3_sink_0 : decode cX3_sink 0 = .ok (.aload_n 0, 1) := by decide +kernel
theorem dX3_sink_1 : decode cX3_sink 1 = .ok (.iload_n 1, 1) := by decide +kernel
theorem dX3_sink_2 : decode cX3_sink 2 = .ok (.iload_n 2, 1) := by decide +kernel
theorem dX3_sink_3 : decode cX3_sink 3 = .ok (.iload_n 3, 1) := by decide +kernel
theorem dX3_sink_4 : decode cX3_sink 4 = .ok (.invokevirtual 141, 3) := by decide +kernel
theorem dX3_sink_7 : decode cX3_sink 7 = .ok (.astore 4, 2) := by decide +kernel
theorem dX3_sink_9 : decode cX3_sink 9 = .ok (.aload_n 0, 1) := by decide +kernel
theorem dX3_sink_10 : decode cX3_sink 10 = .ok (.getfield 12, 3) := by decide +kernel
theorem dX3_sink_13 : decode cX3_sink 13 = .ok (.iload_n 3, 1) := by decide +kernel
theorem dX3_sink_14 : decode cX3_sink 14 = .ok (.invokevirtual 154, 3) := by decide +kernel
theorem dX3_sink_17 : decode cX3_sink 17 = .ok (.ifCond .eq 13, 3) := by decide +kernel
theorem dX3_sink_20 : decode cX3_sink 20 = .ok (.new 62, 3) := by decide +kernel
theorem dX3_sink_23 : decode cX3_sink 23 = .ok (.dup, 1) := by decide +kernel
theorem dX3_sink_24 : decode cX3_sink 24 = .ok (.ldc 157, 2) := by decide +kernel
theorem dX3_sink_26 : decode cX3_sink 26 = .ok (.invokespecial 66, 3) := by decide +kernel
theorem dX3_sink_29 : decode cX3_sink 29 = .ok (.athrow, 1) := by decide +kernel
theorem dX3_sink_30 : decode cX3_sink 30 = .ok (.aload 4, 2) := by decide +kernel
theorem dX3_sink_32 : decode cX3_sink 32 = .ok (.getfield 159, 3) := by decide +kernel
theorem dX3_sink_35 : decode cX3_sink 35 = .ok (.iconst 2, 1) := by decide +kernel
theorem dX3_sink_36 : decode cX3_sink 36 = .ok (.if_icmp .lt 13, 3) := by decide +kernel
theorem dX3_sink_39 : decode cX3_sink 39 = .ok (.new 62, 3) := by decide +kernel
theorem dX3_sink_42 : decode cX3_sink 42 = .ok (.dup, 1) := by decide +kernel
theorem dX3_sink_43 : decode cX3_sink 43 = .ok (.ldc 162, 2) := by decide +kernel
theorem dX3_sink_45 : decode cX3_sink 45 = .ok (.invokespecial 66, 3) := by decide +kernel
theorem dX3_sink_48 : decode cX3_sink 48 = .ok (.athrow, 1) := by decide +kernel
theorem dX3_sink_49 : decode cX3_sink 49 = .ok (.aload 4, 2) := by decide +kernel
theorem dX3_sink_51 : decode cX3_sink 51 = .ok (.dup, 1) := by decide +kernel
theorem dX3_sink_52 : decode cX3_sink 52 = .ok (.getfield 159, 3) := by decide +kernel
theorem dX3_sink_55 : decode cX3_sink 55 = .ok (.iconst 1, 1) := by decide +kernel
theorem dX3_sink_56 : decode cX3_sink 56 = .ok (.iadd, 1) := by decide +kernel
theorem dX3_sink_57 : decode cX3_sink 57 = .ok (.putfield 159, 3) := by decide +kernel
theorem dX3_sink_60 : decode cX3_sink 60 = .ok (.aload_n 0, 1) := by decide +kernel
theorem dX3_sink_61 : decode cX3_sink 61 = .ok (.aload 4, 2) := by decide +kernel
theorem dX3_sink_63 : decode cX3_sink 63 = .ok (.iload_n 1, 1) := by decide +kernel
theorem dX3_sink_64 : decode cX3_sink 64 = .ok (.iload_n 3, 1) := by decide +kernel
theorem dX3_sink_65 : decode cX3_sink 65 = .ok (.invokevirtual 150, 3) := by decide +kernel
theorem dX3_sink_68 : decode cX3_sink 68 = .ok (.ireturn, 1) := by decide +kernel
theorem dX3_prop_0 : decode cX3_prop 0 = .ok (.aload_n 0, 1) := by decide +kernel
theorem dX3_prop_1 : decode cX3_prop 1 = .ok (.iload_n 1, 1) := by decide +kernel
theorem dX3_prop_2 : decode cX3_prop 2 = .ok (.iload_n 2, 1) := by decide +kernel
theorem dX3_prop_3 : decode cX3_prop 3 = .ok (.iload_n 3, 1) := by decide +kernel
theorem dX3_prop_4 : decode cX3_prop 4 = .ok (.invokevirtual 141, 3) := by decide +kernel
theorem dX3_prop_7 : decode cX3_prop 7 = .ok (.pop, 1) := by decide +kernel
theorem dX3_prop_8 : decode cX3_prop 8 = .ok (.aload_n 0, 1) := by decide +kernel
theorem dX3_prop_9 : decode cX3_prop 9 = .ok (.getfield 12, 3) := by decide +kernel
theorem dX3_prop_12 : decode cX3_prop 12 = .ok (.iload_n 3, 1) := by decide +kernel
theorem dX3_prop_13 : decode cX3_prop 13 = .ok (.invokevirtual 154, 3) := by decide +kernel
theorem dX3_prop_16 : decode cX3_prop 16 = .ok (.ifCond .ne 13, 3) := by decide +kernel
theorem dX3_prop_19 : decode cX3_prop 19 = .ok (.new 62, 3) := by decide +kernel
theorem dX3_prop_22 : decode cX3_prop 22 = .ok (.dup, 1) := by decide +kernel
theorem dX3_prop_23 : decode cX3_prop 23 = .ok (.ldc 164, 2) := by decide +kernel
theorem dX3_prop_25 : decode cX3_prop 25 = .ok (.invokespecial 66, 3) := by decide +kernel
theorem dX3_prop_28 : decode cX3_prop 28 = .ok (.athrow, 1) := by decide +kernel
theorem dX3_prop_29 : decode cX3_prop 29 = .ok (.aload_n 0, 1) := by decide +kernel
theorem dX3_prop_30 : decode cX3_prop 30 = .ok (.getfield 12, 3) := by decide +kernel
theorem dX3_prop_33 : decode cX3_prop 33 = .ok (.getfield 166, 3) := by decide +kernel
theorem dX3_prop_36 : decode cX3_prop 36 = .ok (.iload_n 3, 1) := by decide +kernel
theorem dX3_prop_37 : decode cX3_prop 37 = .ok (.baload, 1) := by decide +kernel
theorem dX3_prop_38 : decode cX3_prop 38 = .ok (.ifCond .eq 13, 3) := by decide +kernel
theorem dX3_prop_41 : decode cX3_prop 41 = .ok (.new 62, 3) := by decide +kernel
theorem dX3_prop_44 : decode cX3_prop 44 = .ok (.dup, 1) := by decide +kernel
theorem dX3_prop_45 : decode cX3_prop 45 = .ok (.ldc 170, 2) := by decide +kernel
theorem dX3_prop_47 : decode cX3_prop 47 = .ok (.invokespecial 66, 3) := by decide +kernel
theorem dX3_prop_50 : decode cX3_prop 50 = .ok (.athrow, 1) := by decide +kernel
theorem dX3_prop_51 : decode cX3_prop 51 = .ok (.aload_n 0, 1) := by decide +kernel
theorem dX3_prop_52 : decode cX3_prop 52 = .ok (.getfield 12, 3) := by decide +kernel
theorem dX3_prop_55 : decode cX3_prop 55 = .ok (.getfield 166, 3) := by decide +kernel
theorem dX3_prop_58 : decode cX3_prop 58 = .ok (.iload_n 3, 1) := by decide +kernel
theorem dX3_prop_59 : decode cX3_prop 59 = .ok (.iconst 1, 1) := by decide +kernel
theorem dX3_prop_60 : decode cX3_prop 60 = .ok (.bastore, 1) := by decide +kernel
theorem dX3_prop_61 : decode cX3_prop 61 = .ok (.return_, 1) := by decide +kernel
theorem dX3_trap_0 : decode cX3_trap 0 = .ok (.aload_n 0, 1) := by decide +kernel
theorem dX3_trap_1 : decode cX3_trap 1 = .ok (.iload_n 1, 1) := by decide +kernel
theorem dX3_trap_2 : decode cX3_trap 2 = .ok (.iload_n 2, 1) := by decide +kernel
theorem dX3_trap_3 : decode cX3_trap 3 = .ok (.iload_n 3, 1) := by decide +kernel
theorem dX3_trap_4 : decode cX3_trap 4 = .ok (.invokevirtual 141, 3) := by decide +kernel
theorem dX3_trap_7 : decode cX3_trap 7 = .ok (.pop, 1) := by decide +kernel
theorem dX3_trap_8 : decode cX3_trap 8 = .ok (.aload_n 0, 1) := by decide +kernel
theorem dX3_trap_9 : decode cX3_trap 9 = .ok (.getfield 12, 3) := by decide +kernel
theorem dX3_trap_12 : decode cX3_trap 12 = .ok (.iload_n 3, 1) := by decide +kernel
theorem dX3_trap_13 : decode cX3_trap 13 = .ok (.invokevirtual 154, 3) := by decide +kernel
theorem dX3_trap_16 : decode cX3_trap 16 = .ok (.ifCond .eq 13, 3) := by decide +kernel
theorem dX3_trap_19 : decode cX3_trap 19 = .ok (.new 62, 3) := by decide +kernel
theorem dX3_trap_22 : decode cX3_trap 22 = .ok (.dup, 1) := by decide +kernel
theorem dX3_trap_23 : decode cX3_trap 23 = .ok (.ldc 157, 2) := by decide +kernel
theorem dX3_trap_25 : decode cX3_trap 25 = .ok (.invokespecial 66, 3) := by decide +kernel
theorem dX3_trap_28 : decode cX3_trap 28 = .ok (.athrow, 1) := by decide +kernel
theorem dX3_trap_29 : decode cX3_trap 29 = .ok (.aload_n 0, 1) := by decide +kernel
theorem dX3_trap_30 : decode cX3_trap 30 = .ok (.getfield 12, 3) := by decide +kernel
theorem dX3_trap_33 : decode cX3_trap 33 = .ok (.getfield 172, 3) := by decide +kernel
theorem dX3_trap_36 : decode cX3_trap 36 = .ok (.iload_n 3, 1) := by decide +kernel
theorem dX3_trap_37 : decode cX3_trap 37 = .ok (.iaload, 1) := by decide +kernel
theorem dX3_trap_38 : decode cX3_trap 38 = .ok (.iconst (-1), 1) := by decide +kernel
theorem dX3_trap_39 : decode cX3_trap 39 = .ok (.if_icmp .eq 13, 3) := by decide +kernel
theorem dX3_trap_42 : decode cX3_trap 42 = .ok (.new 62, 3) := by decide +kernel
theorem dX3_trap_45 : decode cX3_trap 45 = .ok (.dup, 1) := by decide +kernel
theorem dX3_trap_46 : decode cX3_trap 46 = .ok (.ldc 175, 2) := by decide +kernel
theorem dX3_trap_48 : decode cX3_trap 48 = .ok (.invokespecial 66, 3) := by decide +kernel
theorem dX3_trap_51 : decode cX3_trap 51 = .ok (.athrow, 1) := by decide +kernel
theorem dX3_trap_52 : decode cX3_trap 52 = .ok (.aload_n 0, 1) := by decide +kernel
theorem dX3_trap_53 : decode cX3_trap 53 = .ok (.getfield 12, 3) := by decide +kernel
theorem dX3_trap_56 : decode cX3_trap 56 = .ok (.iload_n 1, 1) := by decide +kernel
theorem dX3_trap_57 : decode cX3_trap 57 = .ok (.invokevirtual 177, 3) := by decide +kernel
theorem dX3_trap_60 : decode cX3_trap 60 = .ok (.iconst 3, 1) := by decide +kernel
theorem dX3_trap_61 : decode cX3_trap 61 = .ok (.if_icmp .lt 13, 3) := by decide +kernel
theorem dX3_trap_64 : decode cX3_trap 64 = .ok (.new 62, 3) := by decide +kernel
theorem dX3_trap_67 : decode cX3_trap 67 = .ok (.dup, 1) := by decide +kernel
theorem dX3_trap_68 : decode cX3_trap 68 = .ok (.ldc 181, 2) := by decide +kernel
theorem dX3_trap_70 : decode cX3_trap 70 = .ok (.invokespecial 66, 3) := by decide +kernel
theorem dX3_trap_73 : decode cX3_trap 73 = .ok (.athrow, 1) := by decide +kernel
theorem dX3_trap_74 : decode cX3_trap 74 = .ok (.aload_n 0, 1) := by decide +kernel
theorem dX3_trap_75 : decode cX3_trap 75 = .ok (.getfield 12, 3) := by decide +kernel
theorem dX3_trap_78 : decode cX3_trap 78 = .ok (.getfield 172, 3) := by decide +kernel
theorem dX3_trap_81 : decode cX3_trap 81 = .ok (.iload_n 3, 1) := by decide +kernel
theorem dX3_trap_82 : decode cX3_trap 82 = .ok (.iload_n 1, 1) := by decide +kernel
theorem dX3_trap_83 : decode cX3_trap 83 = .ok (.iastore, 1) := by decide +kernel
theorem dX3_trap_84 : decode cX3_trap 84 = .ok (.aload_n 0, 1) := by decide +kernel
theorem dX3_trap_85 : decode cX3_trap 85 = .ok (.getfield 12, 3) := by decide +kernel
theorem dX3_trap_88 : decode cX3_trap 88 = .ok (.iload_n 1, 1) := by decide +kernel
theorem dX3_trap_89 : decode cX3_trap 89 = .ok (.invokevirtual 177, 3) := by decide +kernel
theorem dX3_trap_92 : decode cX3_trap 92 = .ok (.ireturn, 1) := by decide +kernel
theorem dX3_rat_0 : decode cX3_rat 0 = .ok (.iload_n 1, 1) := by decide +kernel
theorem dX3_rat_1 : decode cX3_rat 1 = .ok (.invokestatic 86, 3) := by decide +kernel
theorem dX3_rat_4 : decode cX3_rat 4 = .ok (.iload_n 2, 1) := by decide +kernel
theorem dX3_rat_5 : decode cX3_rat 5 = .ok (.invokestatic 51, 3) := by decide +kernel
theorem dX3_rat_8 : decode cX3_rat 8 = .ok (.aload_n 0, 1) := by decide +kernel
theorem dX3_rat_9 : decode cX3_rat 9 = .ok (.invokevirtual 183, 3) := by decide +kernel
theorem dX3_rat_12 : decode cX3_rat 12 = .ok (.ifCond .ne 13, 3) := by decide +kernel
theorem dX3_rat_15 : decode cX3_rat 15 = .ok (.new 62, 3) := by decide +kernel
theorem dX3_rat_18 : decode cX3_rat 18 = .ok (.dup, 1) := by decide +kernel
theorem dX3_rat_19 : decode cX3_rat 19 = .ok (.ldc 187, 2) := by decide +kernel
theorem dX3_rat_21 : decode cX3_rat 21 = .ok (.invokespecial 66, 3) := by decide +kernel
theorem dX3_rat_24 : decode cX3_rat 24 = .ok (.athrow, 1) := by decide +kernel
theorem dX3_rat_25 : decode cX3_rat 25 = .ok (.aload_n 0, 1) := by decide +kernel
theorem dX3_rat_26 : decode cX3_rat 26 = .ok (.iload_n 1, 1) := by decide +kernel
theorem dX3_rat_27 : decode cX3_rat 27 = .ok (.invokevirtual 100, 3) := by decide +kernel
theorem dX3_rat_30 : decode cX3_rat 30 = .ok (.aload_n 0, 1) := by decide +kernel
theorem dX3_rat_31 : decode cX3_rat 31 = .ok (.iload_n 2, 1) := by decide +kernel
theorem dX3_rat_32 : decode cX3_rat 32 = .ok (.invokevirtual 189, 3) := by decide +kernel
theorem dX3_rat_35 : decode cX3_rat 35 = .ok (.istore_n 3, 1) := by decide +kernel
theorem dX3_rat_36 : decode cX3_rat 36 = .ok (.iload_n 3, 1) := by decide +kernel
theorem dX3_rat_37 : decode cX3_rat 37 = .ok (.iconst (-1), 1) := by decide +kernel
theorem dX3_rat_38 : decode cX3_rat 38 = .ok (.if_icmp .eq 26, 3) := by decide +kernel
theorem dX3_rat_41 : decode cX3_rat 41 = .ok (.aload_n 0, 1) := by decide +kernel
theorem dX3_rat_42 : decode cX3_rat 42 = .ok (.iload_n 3, 1) := by decide +kernel
theorem dX3_rat_43 : decode cX3_rat 43 = .ok (.invokevirtual 112, 3) := by decide +kernel
theorem dX3_rat_46 : decode cX3_rat 46 = .ok (.iload_n 1, 1) := by decide +kernel
theorem dX3_rat_47 : decode cX3_rat 47 = .ok (.invokevirtual 116, 3) := by decide +kernel
theorem dX3_rat_50 : decode cX3_rat 50 = .ok (.ifCond .ne 14, 3) := by decide +kernel
theorem dX3_rat_53 : decode cX3_rat 53 = .ok (.aload_n 0, 1) := by decide +kernel
theorem dX3_rat_54 : decode cX3_rat 54 = .ok (.getfield 12, 3) := by decide +kernel
theorem dX3_rat_57 : decode cX3_rat 57 = .ok (.iload_n 2, 1) := by decide +kernel
theorem dX3_rat_58 : decode cX3_rat 58 = .ok (.invokevirtual 145, 3) := by decide +kernel
theorem dX3_rat_61 : decode cX3_rat 61 = .ok (.ifCond .ne 13, 3) := by decide +kernel
theorem dX3_rat_64 : decode cX3_rat 64 = .ok (.new 62, 3) := by decide +kernel
theorem dX3_rat_67 : decode cX3_rat 67 = .ok (.dup, 1) := by decide +kernel
theorem dX3_rat_68 : decode cX3_rat 68 = .ok (.ldc 192, 2) := by decide +kernel
theorem dX3_rat_70 : decode cX3_rat 70 = .ok (.invokespecial 66, 3) := by decide +kernel
theorem dX3_rat_73 : decode cX3_rat 73 = .ok (.athrow, 1) := by decide +kernel
theorem dX3_rat_74 : decode cX3_rat 74 = .ok (.aload_n 0, 1) := by decide +kernel
theorem dX3_rat_75 : decode cX3_rat 75 = .ok (.getfield 12, 3) := by decide +kernel
theorem dX3_rat_78 : decode cX3_rat 78 = .ok (.getfield 172, 3) := by decide +kernel
theorem dX3_rat_81 : decode cX3_rat 81 = .ok (.iload_n 2, 1) := by decide +kernel
theorem dX3_rat_82 : decode cX3_rat 82 = .ok (.iaload, 1) := by decide +kernel
theorem dX3_rat_83 : decode cX3_rat 83 = .ok (.iconst (-1), 1) := by decide +kernel
theorem dX3_rat_84 : decode cX3_rat 84 = .ok (.if_icmp .ne 11, 3) := by decide +kernel
theorem dX3_rat_87 : decode cX3_rat 87 = .ok (.aload_n 0, 1) := by decide +kernel
theorem dX3_rat_88 : decode cX3_rat 88 = .ok (.iload_n 2, 1) := by decide +kernel
theorem dX3_rat_89 : decode cX3_rat 89 = .ok (.iconst (-1), 1) := by decide +kernel
theorem dX3_rat_90 : decode cX3_rat 90 = .ok (.iload_n 1, 1) := by decide +kernel
theorem dX3_rat_91 : decode cX3_rat 91 = .ok (.invokevirtual 194, 3) := by decide +kernel
theorem dX3_rat_94 : decode cX3_rat 94 = .ok (.ireturn, 1) := by decide +kernel
theorem dX3_rat_95 : decode cX3_rat 95 = .ok (.aload_n 0, 1) := by decide +kernel
theorem dX3_rat_96 : decode cX3_rat 96 = .ok (.getfield 12, 3) := by decide +kernel
theorem dX3_rat_99 : decode cX3_rat 99 = .ok (.getfield 172, 3) := by decide +kernel
theorem dX3_rat_102 : decode cX3_rat 102 = .ok (.iload_n 2, 1) := by decide +kernel
theorem dX3_rat_103 : decode cX3_rat 103 = .ok (.iconst (-1), 1) := by decide +kernel
theorem dX3_rat_104 : decode cX3_rat 104 = .ok (.iastore, 1) := by decide +kernel
theorem dX3_rat_105 : decode cX3_rat 105 = .ok (.aload_n 0, 1) := by decide +kernel
theorem dX3_rat_106 : decode cX3_rat 106 = .ok (.getfield 30, 3) := by decide +kernel
theorem dX3_rat_109 : decode cX3_rat 109 = .ok (.iload_n 1, 1) := by decide +kernel
theorem dX3_rat_110 : decode cX3_rat 110 = .ok (.aload_n 0, 1) := by decide +kernel
theorem dX3_rat_111 : decode cX3_rat 111 = .ok (.getfield 80, 3) := by decide +kernel
theorem dX3_rat_114 : decode cX3_rat 114 = .ok (.sipush 168, 3) := by decide +kernel
theorem dX3_rat_117 : decode cX3_rat 117 = .ok (.iadd, 1) := by decide +kernel
theorem dX3_rat_118 : decode cX3_rat 118 = .ok (.iastore, 1) := by decide +kernel
theorem dX3_rat_119 : decode cX3_rat 119 = .ok (.aload_n 0, 1) := by decide +kernel
theorem dX3_rat_120 : decode cX3_rat 120 = .ok (.getfield 33, 3) := by decide +kernel
theorem dX3_rat_123 : decode cX3_rat 123 = .ok (.iload_n 1, 1) := by decide +kernel
theorem dX3_rat_124 : decode cX3_rat 124 = .ok (.dup2, 1) := by decide +kernel
theorem dX3_rat_125 : decode cX3_rat 125 = .ok (.iaload, 1) := by decide +kernel
theorem dX3_rat_126 : decode cX3_rat 126 = .ok (.iconst 1, 1) := by decide +kernel
theorem dX3_rat_127 : decode cX3_rat 127 = .ok (.iadd, 1) := by decide +kernel
theorem dX3_rat_128 : decode cX3_rat 128 = .ok (.iastore, 1) := by decide +kernel
theorem dX3_rat_129 : decode cX3_rat 129 = .ok (.iconst (-1), 1) := by decide +kernel
theorem dX3_rat_130 : decode cX3_rat 130 = .ok (.ireturn, 1) := by decide +kernel
theorem dX3_divide_0 : decode cX3_divide 0 = .ok (.aload_n 0, 1) := by decide +kernel
theorem dX3_divide_1 : decode cX3_divide 1 = .ok (.iload_n 1, 1) := by decide +kernel
theorem dX3_divide_2 : decode cX3_divide 2 = .ok (.invokevirtual 112, 3) := by decide +kernel
theorem dX3_divide_5 : decode cX3_divide 5 = .ok (.astore_n 2, 1) := by decide +kernel
theorem dX3_divide_6 : decode cX3_divide 6 = .ok (.aload_n 0, 1) := by decide +kernel
theorem dX3_divide_7 : decode cX3_divide 7 = .ok (.iload_n 1, 1) := by decide +kernel
theorem dX3_divide_8 : decode cX3_divide 8 = .ok (.invokevirtual 198, 3) := by decide +kernel
theorem dX3_divide_11 : decode cX3_divide 11 = .ok (.istore_n 3, 1) := by decide +kernel
theorem dX3_divide_12 : decode cX3_divide 12 = .ok (.iload_n 3, 1) := by decide +kernel
theorem dX3_divide_13 : decode cX3_divide 13 = .ok (.ifCond .ne 13, 3) := by decide +kernel
theorem dX3_divide_16 : decode cX3_divide 16 = .ok (.new 62, 3) := by decide +kernel
theorem dX3_divide_19 : decode cX3_divide 19 = .ok (.dup, 1) := by decide +kernel
theorem dX3_divide_20 : decode cX3_divide 20 = .ok (.ldc 201, 2) := by decide +kernel
theorem dX3_divide_22 : decode cX3_divide 22 = .ok (.invokespecial 66, 3) := by decide +kernel
theorem dX3_divide_25 : decode cX3_divide 25 = .ok (.athrow, 1) := by decide +kernel
theorem dX3_divide_26 : decode cX3_divide 26 = .ok (.aload_n 0, 1) := by decide +kernel
theorem dX3_divide_27 : decode cX3_divide 27 = .ok (.iload_n 1, 1) := by decide +kernel
theorem dX3_divide_28 : decode cX3_divide 28 = .ok (.invokevirtual 203, 3) := by decide +kernel
theorem dX3_divide_31 : decode cX3_divide 31 = .ok (.istore 4, 2) := by decide +kernel
theorem dX3_divide_33 : decode cX3_divide 33 = .ok (.aload_n 0, 1) := by decide +kernel
theorem dX3_divide_34 : decode cX3_divide 34 = .ok (.getfield 45, 3) := by decide +kernel
theorem dX3_divide_37 : decode cX3_divide 37 = .ok (.iconst 0, 1) := by decide +kernel
theorem dX3_divide_38 : decode cX3_divide 38 = .ok (.invokestatic 39, 3) := by decide +kernel
theorem dX3_divide_41 : decode cX3_divide 41 = .ok (.iconst 0, 1) := by decide +kernel
theorem dX3_divide_42 : decode cX3_divide 42 = .ok (.istore 5, 2) := by decide +kernel
theorem dX3_divide_44 : decode cX3_divide 44 = .ok (.iload 5, 2) := by decide +kernel
theorem dX3_divide_46 : decode cX3_divide 46 = .ok (.iload_n 3, 1) := by decide +kernel
theorem dX3_divide_47 : decode cX3_divide 47 = .ok (.if_icmp .ge 63, 3) := by decide +kernel
theorem dX3_divide_50 : decode cX3_divide 50 = .ok (.aload_n 0, 1) := by decide +kernel
theorem dX3_divide_51 : decode cX3_divide 51 = .ok (.iload_n 1, 1) := by decide +kernel
theorem dX3_divide_52 : decode cX3_divide 52 = .ok (.invokevirtual 206, 3) := by decide +kernel
theorem dX3_divide_55 : decode cX3_divide 55 = .ok (.istore 6, 2) := by decide +kernel
theorem dX3_divide_57 : decode cX3_divide 57 = .ok (.iload 6, 2) := by decide +kernel
theorem dX3_divide_59 : decode cX3_divide 59 = .ok (.iconst (-1), 1) := by decide +kernel
theorem dX3_divide_60 : decode cX3_divide 60 = .ok (.if_icmp .eq 44, 3) := by decide +kernel
theorem dX3_divide_63 : decode cX3_divide 63 = .ok (.aload_n 0, 1) := by decide +kernel
theorem dX3_divide_64 : decode cX3_divide 64 = .ok (.iload 6, 2) := by decide +kernel
theorem dX3_divide_66 : decode cX3_divide 66 = .ok (.invokevirtual 209, 3) := by decide +kernel
theorem dX3_divide_69 : decode cX3_divide 69 = .ok (.astore 7, 2) := by decide +kernel
theorem dX3_divide_71 : decode cX3_divide 71 = .ok (.aload 7, 2) := by decide +kernel
theorem dX3_divide_73 : decode cX3_divide 73 = .ok (.aload_n 2, 1) := by decide +kernel
theorem dX3_divide_74 : decode cX3_divide 74 = .ok (.iload 4, 2) := by decide +kernel
theorem dX3_divide_76 : decode cX3_divide 76 = .ok (.aload_n 0, 1) := by decide +kernel
theorem dX3_divide_77 : decode cX3_divide 77 = .ok (.getfield 45, 3) := by decide +kernel
theorem dX3_divide_80 : decode cX3_divide 80 = .ok (.invokevirtual 213, 3) := by decide +kernel
theorem dX3_divide_83 : decode cX3_divide 83 = .ok (.putfield 217, 3) := by decide +kernel
theorem dX3_divide_86 : decode cX3_divide 86 = .ok (.aload_n 0, 1) := by decide +kernel
theorem dX3_divide_87 : decode cX3_divide 87 = .ok (.getfield 45, 3) := by decide +kernel
theorem dX3_divide_90 : decode cX3_divide 90 = .ok (.aload 7, 2) := by decide +kernel
theorem dX3_divide_92 : decode cX3_divide 92 = .ok (.getfield 217, 3) := by decide +kernel
theorem dX3_divide_95 : decode cX3_divide 95 = .ok (.dup2, 1) := by decide +kernel
theorem dX3_divide_96 : decode cX3_divide 96 = .ok (.iaload, 1) := by decide +kernel
theorem dX3_divide_97 : decode cX3_divide 97 = .ok (.aload 7, 2) := by decide +kernel
theorem dX3_divide_99 : decode cX3_divide 99 = .ok (.getfield 222, 3) := by decide +kernel
theorem dX3_divide_102 : decode cX3_divide 102 = .ok (.iadd, 1) := by decide +kernel
theorem dX3_divide_103 : decode cX3_divide 103 = .ok (.iastore, 1) := by decide +kernel
theorem dX3_divide_104 : decode cX3_divide 104 = .ok (.iinc 5 1, 3) := by decide +kernel
theorem dX3_divide_107 : decode cX3_divide 107 = .ok (.goto (-63), 3) := by decide +kernel
theorem dX3_divide_110 : decode cX3_divide 110 = .ok (.iload_n 3, 1) := by decide +kernel
theorem dX3_divide_111 : decode cX3_divide 111 = .ok (.ireturn, 1) := by decide +kernel
theorem dX3_rub_0 : decode cX3_rub 0 = .ok (.aload_n 0, 1) := by decide +kernel
theorem dX3_rub_1 : decode cX3_rub 1 = .ok (.iload_n 1, 1) := by decide +kernel
theorem dX3_rub_2 : decode cX3_rub 2 = .ok (.invokevirtual 209, 3) := by decide +kernel
theorem dX3_rub_5 : decode cX3_rub 5 = .ok (.astore_n 2, 1) := by decide +kernel
theorem dX3_rub_6 : decode cX3_rub 6 = .ok (.aload_n 2, 1) := by decide +kernel
theorem dX3_rub_7 : decode cX3_rub 7 = .ok (.invokestatic 224, 3) := by decide +kernel
theorem dX3_rub_10 : decode cX3_rub 10 = .ok (.aload_n 2, 1) := by decide +kernel
theorem dX3_rub_11 : decode cX3_rub 11 = .ok (.invokevirtual 228, 3) := by decide +kernel
theorem dX3_rub_14 : decode cX3_rub 14 = .ok (.iconst 2, 1) := by decide +kernel
theorem dX3_rub_15 : decode cX3_rub 15 = .ok (.if_icmp .ne 13, 3) := by decide +kernel
theorem dX3_rub_18 : decode cX3_rub 18 = .ok (.new 62, 3) := by decide +kernel
theorem dX3_rub_21 : decode cX3_rub 21 = .ok (.dup, 1) := by decide +kernel
theorem dX3_rub_22 : decode cX3_rub 22 = .ok (.ldc 231, 2) := by decide +kernel
theorem dX3_rub_24 : decode cX3_rub 24 = .ok (.invokespecial 66, 3) := by decide +kernel
theorem dX3_rub_27 : decode cX3_rub 27 = .ok (.athrow, 1) := by decide +kernel
theorem dX3_rub_28 : decode cX3_rub 28 = .ok (.aload_n 2, 1) := by decide +kernel
theorem dX3_rub_29 : decode cX3_rub 29 = .ok (.getfield 222, 3) := by decide +kernel
theorem dX3_rub_32 : decode cX3_rub 32 = .ok (.bipush 10, 2) := by decide +kernel
theorem dX3_rub_34 : decode cX3_rub 34 = .ok (.idiv, 1) := by decide +kernel
theorem dX3_rub_35 : decode cX3_rub 35 = .ok (.istore_n 3, 1) := by decide +kernel
theorem dX3_rub_36 : decode cX3_rub 36 = .ok (.aload_n 2, 1) := by decide +kernel
theorem dX3_rub_37 : decode cX3_rub 37 = .ok (.dup, 1) := by decide +kernel
theorem dX3_rub_38 : decode cX3_rub 38 = .ok (.getfield 222, 3) := by decide +kernel
theorem dX3_rub_41 : decode cX3_rub 41 = .ok (.iload_n 3, 1) := by decide +kernel
theorem dX3_rub_42 : decode cX3_rub 42 = .ok (.isub, 1) := by decide +kernel
theorem dX3_rub_43 : decode cX3_rub 43 = .ok (.putfield 222, 3) := by decide +kernel
theorem dX3_rub_46 : decode cX3_rub 46 = .ok (.aload_n 2, 1) := by decide +kernel
theorem dX3_rub_47 : decode cX3_rub 47 = .ok (.dup, 1) := by decide +kernel
theorem dX3_rub_48 : decode cX3_rub 48 = .ok (.getfield 233, 3) := by decide +kernel
theorem dX3_rub_51 : decode cX3_rub 51 = .ok (.iload_n 3, 1) := by decide +kernel
theorem dX3_rub_52 : decode cX3_rub 52 = .ok (.iadd, 1) := by decide +kernel
theorem dX3_rub_53 : decode cX3_rub 53 = .ok (.putfield 233, 3) := by decide +kernel
theorem dX3_rub_56 : decode cX3_rub 56 = .ok (.aload_n 2, 1) := by decide +kernel
theorem dX3_rub_57 : decode cX3_rub 57 = .ok (.dup, 1) := by decide +kernel
theorem dX3_rub_58 : decode cX3_rub 58 = .ok (.getfield 236, 3) := by decide +kernel
theorem dX3_rub_61 : decode cX3_rub 61 = .ok (.iconst 1, 1) := by decide +kernel
theorem dX3_rub_62 : decode cX3_rub 62 = .ok (.iadd, 1) := by decide +kernel
theorem dX3_rub_63 : decode cX3_rub 63 = .ok (.putfield 236, 3) := by decide +kernel
theorem dX3_rub_66 : decode cX3_rub 66 = .ok (.aload_n 2, 1) := by decide +kernel
theorem dX3_rub_67 : decode cX3_rub 67 = .ok (.getfield 222, 3) := by decide +kernel
theorem dX3_rub_70 : decode cX3_rub 70 = .ok (.ireturn, 1) := by decide +kernel
theorem dX3_bid_0 : decode cX3_bid 0 = .ok (.iload_n 1, 1) := by decide +kernel
theorem dX3_bid_1 : decode cX3_bid 1 = .ok (.invokestatic 239, 3) := by decide +kernel
theorem dX3_bid_4 : decode cX3_bid 4 = .ok (.aload_n 0, 1) := by decide +kernel
theorem dX3_bid_5 : decode cX3_bid 5 = .ok (.iload_n 2, 1) := by decide +kernel
theorem dX3_bid_6 : decode cX3_bid 6 = .ok (.invokevirtual 209, 3) := by decide +kernel
theorem dX3_bid_9 : decode cX3_bid 9 = .ok (.astore 4, 2) := by decide +kernel
theorem dX3_bid_11 : decode cX3_bid 11 = .ok (.iload_n 3, 1) := by decide +kernel
theorem dX3_bid_12 : decode cX3_bid 12 = .ok (.iconst 1, 1) := by decide +kernel
theorem dX3_bid_13 : decode cX3_bid 13 = .ok (.ldc 242, 2) := by decide +kernel
theorem dX3_bid_15 : decode cX3_bid 15 = .ok (.invokestatic 55, 3) := by decide +kernel
theorem dX3_bid_18 : decode cX3_bid 18 = .ok (.aload 4, 2) := by decide +kernel
theorem dX3_bid_20 : decode cX3_bid 20 = .ok (.invokestatic 224, 3) := by decide +kernel
theorem dX3_bid_23 : decode cX3_bid 23 = .ok (.aload 4, 2) := by decide +kernel
theorem dX3_bid_25 : decode cX3_bid 25 = .ok (.getfield 243, 3) := by decide +kernel
theorem dX3_bid_28 : decode cX3_bid 28 = .ok (.iload_n 1, 1) := by decide +kernel
theorem dX3_bid_29 : decode cX3_bid 29 = .ok (.iaload, 1) := by decide +kernel
theorem dX3_bid_30 : decode cX3_bid 30 = .ok (.ifCond .le 13, 3) := by decide +kernel
theorem dX3_bid_33 : decode cX3_bid 33 = .ok (.new 62, 3) := by decide +kernel
theorem dX3_bid_36 : decode cX3_bid 36 = .ok (.dup, 1) := by decide +kernel
theorem dX3_bid_37 : decode cX3_bid 37 = .ok (.ldc 246, 2) := by decide +kernel
theorem dX3_bid_39 : decode cX3_bid 39 = .ok (.invokespecial 66, 3) := by decide +kernel
theorem dX3_bid_42 : decode cX3_bid 42 = .ok (.athrow, 1) := by decide +kernel
theorem dX3_bid_43 : decode cX3_bid 43 = .ok (.aload 4, 2) := by decide +kernel
theorem dX3_bid_45 : decode cX3_bid 45 = .ok (.getfield 243, 3) := by decide +kernel
theorem dX3_bid_48 : decode cX3_bid 48 = .ok (.iload_n 1, 1) := by decide +kernel
theorem dX3_bid_49 : decode cX3_bid 49 = .ok (.iload_n 3, 1) := by decide +kernel
theorem dX3_bid_50 : decode cX3_bid 50 = .ok (.iastore, 1) := by decide +kernel
theorem dX3_bid_51 : decode cX3_bid 51 = .ok (.aload 4, 2) := by decide +kernel
theorem dX3_bid_53 : decode cX3_bid 53 = .ok (.getfield 248, 3) := by decide +kernel
theorem dX3_bid_56 : decode cX3_bid 56 = .ok (.iload_n 1, 1) := by decide +kernel
theorem dX3_bid_57 : decode cX3_bid 57 = .ok (.aload 4, 2) := by decide +kernel
theorem dX3_bid_59 : decode cX3_bid 59 = .ok (.getfield 251, 3) := by decide +kernel
theorem dX3_bid_62 : decode cX3_bid 62 = .ok (.iastore, 1) := by decide +kernel
theorem dX3_bid_63 : decode cX3_bid 63 = .ok (.aload 4, 2) := by decide +kernel
theorem dX3_bid_65 : decode cX3_bid 65 = .ok (.dup, 1) := by decide +kernel
theorem dX3_bid_66 : decode cX3_bid 66 = .ok (.getfield 251, 3) := by decide +kernel
theorem dX3_bid_69 : decode cX3_bid 69 = .ok (.iconst 1, 1) := by decide +kernel
theorem dX3_bid_70 : decode cX3_bid 70 = .ok (.iadd, 1) := by decide +kernel
theorem dX3_bid_71 : decode cX3_bid 71 = .ok (.putfield 251, 3) := by decide +kernel
theorem dX3_bid_74 : decode cX3_bid 74 = .ok (.aload 4, 2) := by decide +kernel
theorem dX3_bid_76 : decode cX3_bid 76 = .ok (.getfield 251, 3) := by decide +kernel
theorem dX3_bid_79 : decode cX3_bid 79 = .ok (.ireturn, 1) := by decide +kernel
theorem dX3_sell_0 : decode cX3_sell 0 = .ok (.aload_n 0, 1) := by decide +kernel
theorem dX3_sell_1 : decode cX3_sell 1 = .ok (.iload_n 1, 1) := by decide +kernel
theorem dX3_sell_2 : decode cX3_sell 2 = .ok (.invokevirtual 209, 3) := by decide +kernel
theorem dX3_sell_5 : decode cX3_sell 5 = .ok (.astore_n 2, 1) := by decide +kernel
theorem dX3_sell_6 : decode cX3_sell 6 = .ok (.aload_n 2, 1) := by decide +kernel
theorem dX3_sell_7 : decode cX3_sell 7 = .ok (.invokestatic 224, 3) := by decide +kernel
theorem dX3_sell_10 : decode cX3_sell 10 = .ok (.aload_n 2, 1) := by decide +kernel
theorem dX3_sell_11 : decode cX3_sell 11 = .ok (.aload_n 0, 1) := by decide +kernel
theorem dX3_sell_12 : decode cX3_sell 12 = .ok (.getfield 36, 3) := by decide +kernel
theorem dX3_sell_15 : decode cX3_sell 15 = .ok (.invokevirtual 254, 3) := by decide +kernel
theorem dX3_sell_18 : decode cX3_sell 18 = .ok (.istore_n 3, 1) := by decide +kernel
theorem dX3_sell_19 : decode cX3_sell 19 = .ok (.iload_n 3, 1) := by decide +kernel
theorem dX3_sell_20 : decode cX3_sell 20 = .ok (.iconst (-1), 1) := by decide +kernel
theorem dX3_sell_21 : decode cX3_sell 21 = .ok (.if_icmp .ne 14, 3) := by decide +kernel
theorem dX3_sell_24 : decode cX3_sell 24 = .ok (.new 62, 3) := by decide +kernel
theorem dX3_sell_27 : decode cX3_sell 27 = .ok (.dup, 1) := by decide +kernel
theorem dX3_sell_28 : decode cX3_sell 28 = .ok (.ldc_w 258, 3) := by decide +kernel
theorem dX3_sell_31 : decode cX3_sell 31 = .ok (.invokespecial 66, 3) := by decide +kernel
theorem dX3_sell_34 : decode cX3_sell 34 = .ok (.athrow, 1) := by decide +kernel
theorem dX3_sell_35 : decode cX3_sell 35 = .ok (.aload_n 2, 1) := by decide +kernel
theorem dX3_sell_36 : decode cX3_sell 36 = .ok (.iload_n 3, 1) := by decide +kernel
theorem dX3_sell_37 : decode cX3_sell 37 = .ok (.putfield 260, 3) := by decide +kernel
theorem dX3_sell_40 : decode cX3_sell 40 = .ok (.aload_n 0, 1) := by decide +kernel
theorem dX3_sell_41 : decode cX3_sell 41 = .ok (.getfield 36, 3) := by decide +kernel
theorem dX3_sell_44 : decode cX3_sell 44 = .ok (.iload_n 3, 1) := by decide +kernel
theorem dX3_sell_45 : decode cX3_sell 45 = .ok (.dup2, 1) := by decide +kernel
theorem dX3_sell_46 : decode cX3_sell 46 = .ok (.iaload, 1) := by decide +kernel
theorem dX3_sell_47 : decode cX3_sell 47 = .ok (.aload_n 2, 1) := by decide +kernel
theorem dX3_sell_48 : decode cX3_sell 48 = .ok (.getfield 243, 3) := by decide +kernel
theorem dX3_sell_51 : decode cX3_sell 51 = .ok (.iload_n 3, 1) := by decide +kernel
theorem dX3_sell_52 : decode cX3_sell 52 = .ok (.iaload, 1) := by decide +kernel
theorem dX3_sell_53 : decode cX3_sell 53 = .ok (.isub, 1) := by decide +kernel
theorem dX3_sell_54 : decode cX3_sell 54 = .ok (.iastore, 1) := by decide +kernel
theorem dX3_sell_55 : decode cX3_sell 55 = .ok (.aload_n 0, 1) := by decide +kernel
theorem dX3_sell_56 : decode cX3_sell 56 = .ok (.getfield 26, 3) := by decide +kernel
theorem dX3_sell_59 : decode cX3_sell 59 = .ok (.aload_n 2, 1) := by decide +kernel
theorem dX3_sell_60 : decode cX3_sell 60 = .ok (.getfield 217, 3) := by decide +kernel
theorem dX3_sell_63 : decode cX3_sell 63 = .ok (.dup2, 1) := by decide +kernel
theorem dX3_sell_64 : decode cX3_sell 64 = .ok (.iaload, 1) := by decide +kernel
theorem dX3_sell_65 : decode cX3_sell 65 = .ok (.aload_n 2, 1) := by decide +kernel
theorem dX3_sell_66 : decode cX3_sell 66 = .ok (.getfield 243, 3) := by decide +kernel
theorem dX3_sell_69 : decode cX3_sell 69 = .ok (.iload_n 3, 1) := by decide +kernel
theorem dX3_sell_70 : decode cX3_sell 70 = .ok (.iaload, 1) := by decide +kernel
theorem dX3_sell_71 : decode cX3_sell 71 = .ok (.iadd, 1) := by decide +kernel
theorem dX3_sell_72 : decode cX3_sell 72 = .ok (.iastore, 1) := by decide +kernel
theorem dX3_sell_73 : decode cX3_sell 73 = .ok (.iload_n 3, 1) := by decide +kernel
theorem dX3_sell_74 : decode cX3_sell 74 = .ok (.ireturn, 1) := by decide +kernel
theorem dX3_hour_0 : decode cX3_hour 0 = .ok (.aload_n 0, 1) := by decide +kernel
theorem dX3_hour_1 : decode cX3_hour 1 = .ok (.getfield 80, 3) := by decide +kernel
theorem dX3_hour_4 : decode cX3_hour 4 = .ok (.ireturn, 1) := by decide +kernel
theorem dX3_bore_0 : decode cX3_bore 0 = .ok (.iload_n 1, 1) := by decide +kernel
theorem dX3_bore_1 : decode cX3_bore 1 = .ok (.invokestatic 51, 3) := by decide +kernel
theorem dX3_bore_4 : decode cX3_bore 4 = .ok (.aload_n 0, 1) := by decide +kernel
theorem dX3_bore_5 : decode cX3_bore 5 = .ok (.getfield 12, 3) := by decide +kernel
theorem dX3_bore_8 : decode cX3_bore 8 = .ok (.iload_n 1, 1) := by decide +kernel
theorem dX3_bore_9 : decode cX3_bore 9 = .ok (.invokevirtual 263, 3) := by decide +kernel
theorem dX3_bore_12 : decode cX3_bore 12 = .ok (.ireturn, 1) := by decide +kernel
theorem dX3_ofCell_0 : decode cX3_ofCell 0 = .ok (.iload_n 1, 1) := by decide +kernel
theorem dX3_ofCell_1 : decode cX3_ofCell 1 = .ok (.invokestatic 51, 3) := by decide +kernel
theorem dX3_ofCell_4 : decode cX3_ofCell 4 = .ok (.iload_n 2, 1) := by decide +kernel
theorem dX3_ofCell_5 : decode cX3_ofCell 5 = .ok (.tableswitch 82 0 3 #[31, 41, 54, 76], 31) := by decide +kernel
theorem dX3_ofCell_36 : decode cX3_ofCell 36 = .ok (.aload_n 0, 1) := by decide +kernel
theorem dX3_ofCell_37 : decode cX3_ofCell 37 = .ok (.getfield 12, 3) := by decide +kernel
theorem dX3_ofCell_40 : decode cX3_ofCell 40 = .ok (.getfield 59, 3) := by decide +kernel
theorem dX3_ofCell_43 : decode cX3_ofCell 43 = .ok (.iload_n 1, 1) := by decide +kernel
theorem dX3_ofCell_44 : decode cX3_ofCell 44 = .ok (.iaload, 1) := by decide +kernel
theorem dX3_ofCell_45 : decode cX3_ofCell 45 = .ok (.ireturn, 1) := by decide +kernel
theorem dX3_ofCell_46 : decode cX3_ofCell 46 = .ok (.aload_n 0, 1) := by decide +kernel
theorem dX3_ofCell_47 : decode cX3_ofCell 47 = .ok (.getfield 12, 3) := by decide +kernel
theorem dX3_ofCell_50 : decode cX3_ofCell 50 = .ok (.getfield 166, 3) := by decide +kernel
theorem dX3_ofCell_53 : decode cX3_ofCell 53 = .ok (.iload_n 1, 1) := by decide +kernel
theorem dX3_ofCell_54 : decode cX3_ofCell 54 = .ok (.baload, 1) := by decide +kernel
theorem dX3_ofCell_55 : decode cX3_ofCell 55 = .ok (.invokestatic 266, 3) := by decide +kernel
theorem dX3_ofCell_58 : decode cX3_ofCell 58 = .ok (.ireturn, 1) := by decide +kernel
theorem dX3_ofCell_59 : decode cX3_ofCell 59 = .ok (.aload_n 0, 1) := by decide +kernel
theorem dX3_ofCell_60 : decode cX3_ofCell 60 = .ok (.getfield 12, 3) := by decide +kernel
theorem dX3_ofCell_63 : decode cX3_ofCell 63 = .ok (.getfield 172, 3) := by decide +kernel
theorem dX3_ofCell_66 : decode cX3_ofCell 66 = .ok (.iload_n 1, 1) := by decide +kernel
theorem dX3_ofCell_67 : decode cX3_ofCell 67 = .ok (.iaload, 1) := by decide +kernel
theorem dX3_ofCell_68 : decode cX3_ofCell 68 = .ok (.iconst (-1), 1) := by decide +kernel
theorem dX3_ofCell_69 : decode cX3_ofCell 69 = .ok (.if_icmp .eq 7, 3) := by decide +kernel
theorem dX3_ofCell_72 : decode cX3_ofCell 72 = .ok (.iconst 1, 1) := by decide +kernel
theorem dX3_ofCell_73 : decode cX3_ofCell 73 = .ok (.goto 4, 3) := by decide +kernel
theorem dX3_ofCell_76 : decode cX3_ofCell 76 = .ok (.iconst 0, 1) := by decide +kernel
theorem dX3_ofCell_77 : decode cX3_ofCell 77 = .ok (.invokestatic 266, 3) := by decide +kernel
theorem dX3_ofCell_80 : decode cX3_ofCell 80 = .ok (.ireturn, 1) := by decide +kernel
theorem dX3_ofCell_81 : decode cX3_ofCell 81 = .ok (.aload_n 0, 1) := by decide +kernel
theorem dX3_ofCell_82 : decode cX3_ofCell 82 = .ok (.iload_n 1, 1) := by decide +kernel
theorem dX3_ofCell_83 : decode cX3_ofCell 83 = .ok (.invokevirtual 189, 3) := by decide +kernel
theorem dX3_ofCell_86 : decode cX3_ofCell 86 = .ok (.ireturn, 1) := by decide +kernel
theorem dX3_ofCell_87 : decode cX3_ofCell 87 = .ok (.new 89, 3) := by decide +kernel
theorem dX3_ofCell_90 : decode cX3_ofCell 90 = .ok (.dup, 1) := by decide +kernel
theorem dX3_ofCell_91 : decode cX3_ofCell 91 = .ok (.ldc_w 270, 3) := by decide +kernel
theorem dX3_ofCell_94 : decode cX3_ofCell 94 = .ok (.invokespecial 93, 3) := by decide +kernel
theorem dX3_ofCell_97 : decode cX3_ofCell 97 = .ok (.athrow, 1) := by decide +kernel
theorem dX3_ofClaim_0 : decode cX3_ofClaim 0 = .ok (.aload_n 0, 1) := by decide +kernel
theorem dX3_ofClaim_1 : decode cX3_ofClaim 1 = .ok (.iload_n 1, 1) := by decide +kernel
theorem dX3_ofClaim_2 : decode cX3_ofClaim 2 = .ok (.invokevirtual 112, 3) := by decide +kernel
theorem dX3_ofClaim_5 : decode cX3_ofClaim 5 = .ok (.astore_n 3, 1) := by decide +kernel
theorem dX3_ofClaim_6 : decode cX3_ofClaim 6 = .ok (.iload_n 2, 1) := by decide +kernel
theorem dX3_ofClaim_7 : decode cX3_ofClaim 7 = .ok (.tableswitch 89 0 6 #[41, 46, 51, 63, 69, 74, 80], 41) := by decide +kernel
theorem dX3_ofClaim_48 : decode cX3_ofClaim 48 = .ok (.aload_n 3, 1) := by decide +kernel
theorem dX3_ofClaim_49 : decode cX3_ofClaim 49 = .ok (.getfield 136, 3) := by decide +kernel
theorem dX3_ofClaim_52 : decode cX3_ofClaim 52 = .ok (.ireturn, 1) := by decide +kernel
theorem dX3_ofClaim_53 : decode cX3_ofClaim 53 = .ok (.aload_n 3, 1) := by decide +kernel
theorem dX3_ofClaim_54 : decode cX3_ofClaim 54 = .ok (.getfield 130, 3) := by decide +kernel
theorem dX3_ofClaim_57 : decode cX3_ofClaim 57 = .ok (.ireturn, 1) := by decide +kernel
theorem dX3_ofClaim_58 : decode cX3_ofClaim 58 = .ok (.aload_n 3, 1) := by decide +kernel
theorem dX3_ofClaim_59 : decode cX3_ofClaim 59 = .ok (.aload_n 0, 1) := by decide +kernel
theorem dX3_ofClaim_60 : decode cX3_ofClaim 60 = .ok (.getfield 80, 3) := by decide +kernel
theorem dX3_ofClaim_63 : decode cX3_ofClaim 63 = .ok (.invokevirtual 272, 3) := by decide +kernel
theorem dX3_ofClaim_66 : decode cX3_ofClaim 66 = .ok (.invokestatic 266, 3) := by decide +kernel
theorem dX3_ofClaim_69 : decode cX3_ofClaim 69 = .ok (.ireturn, 1) := by decide +kernel
theorem dX3_ofClaim_70 : decode cX3_ofClaim 70 = .ok (.aload_n 0, 1) := by decide +kernel
theorem dX3_ofClaim_71 : decode cX3_ofClaim 71 = .ok (.iload_n 1, 1) := by decide +kernel
theorem dX3_ofClaim_72 : decode cX3_ofClaim 72 = .ok (.invokevirtual 275, 3) := by decide +kernel
theorem dX3_ofClaim_75 : decode cX3_ofClaim 75 = .ok (.ireturn, 1) := by decide +kernel
theorem dX3_ofClaim_76 : decode cX3_ofClaim 76 = .ok (.aload_n 3, 1) := by decide +kernel
theorem dX3_ofClaim_77 : decode cX3_ofClaim 77 = .ok (.getfield 159, 3) := by decide +kernel
theorem dX3_ofClaim_80 : decode cX3_ofClaim 80 = .ok (.ireturn, 1) := by decide +kernel
theorem dX3_ofClaim_81 : decode cX3_ofClaim 81 = .ok (.aload_n 0, 1) := by decide +kernel
theorem dX3_ofClaim_82 : decode cX3_ofClaim 82 = .ok (.iload_n 1, 1) := by decide +kernel
theorem dX3_ofClaim_83 : decode cX3_ofClaim 83 = .ok (.invokevirtual 198, 3) := by decide +kernel
theorem dX3_ofClaim_86 : decode cX3_ofClaim 86 = .ok (.ireturn, 1) := by decide +kernel
theorem dX3_ofClaim_87 : decode cX3_ofClaim 87 = .ok (.aload_n 3, 1) := by decide +kernel
theorem dX3_ofClaim_88 : decode cX3_ofClaim 88 = .ok (.aload_n 0, 1) := by decide +kernel
theorem dX3_ofClaim_89 : decode cX3_ofClaim 89 = .ok (.getfield 80, 3) := by decide +kernel
theorem dX3_ofClaim_92 : decode cX3_ofClaim 92 = .ok (.invokevirtual 278, 3) := by decide +kernel
theorem dX3_ofClaim_95 : decode cX3_ofClaim 95 = .ok (.ireturn, 1) := by decide +kernel
theorem dX3_ofClaim_96 : decode cX3_ofClaim 96 = .ok (.new 89, 3) := by decide +kernel
theorem dX3_ofClaim_99 : decode cX3_ofClaim 99 = .ok (.dup, 1) := by decide +kernel
theorem dX3_ofClaim_100 : decode cX3_ofClaim 100 = .ok (.ldc_w 281, 3) := by decide +kernel
theorem dX3_ofClaim_103 : decode cX3_ofClaim 103 = .ok (.invokespecial 93, 3) := by decide +kernel
theorem dX3_ofClaim_106 : decode cX3_ofClaim 106 = .ok (.athrow, 1) := by decide +kernel
theorem dX3_share_0 : decode cX3_share 0 = .ok (.aload_n 0, 1) := by decide +kernel
theorem dX3_share_1 : decode cX3_share 1 = .ok (.iload_n 1, 1) := by decide +kernel
theorem dX3_share_2 : decode cX3_share 2 = .ok (.invokevirtual 112, 3) := by decide +kernel
theorem dX3_share_5 : decode cX3_share 5 = .ok (.astore_n 3, 1) := by decide +kernel
theorem dX3_share_6 : decode cX3_share 6 = .ok (.iload_n 2, 1) := by decide +kernel
theorem dX3_share_7 : decode cX3_share 7 = .ok (.invokestatic 86, 3) := by decide +kernel
theorem dX3_share_10 : decode cX3_share 10 = .ok (.aload_n 3, 1) := by decide +kernel
theorem dX3_share_11 : decode cX3_share 11 = .ok (.getfield 133, 3) := by decide +kernel
theorem dX3_share_14 : decode cX3_share 14 = .ok (.iload_n 2, 1) := by decide +kernel
theorem dX3_share_15 : decode cX3_share 15 = .ok (.iaload, 1) := by decide +kernel
theorem dX3_share_16 : decode cX3_share 16 = .ok (.ireturn, 1) := by decide +kernel
theorem dX3_verdict_0 : decode cX3_verdict 0 = .ok (.aload_n 0, 1) := by decide +kernel
theorem dX3_verdict_1 : decode cX3_verdict 1 = .ok (.iload_n 1, 1) := by decide +kernel
theorem dX3_verdict_2 : decode cX3_verdict 2 = .ok (.invokevirtual 112, 3) := by decide +kernel
theorem dX3_verdict_5 : decode cX3_verdict 5 = .ok (.astore_n 3, 1) := by decide +kernel
theorem dX3_verdict_6 : decode cX3_verdict 6 = .ok (.aload_n 0, 1) := by decide +kernel
theorem dX3_verdict_7 : decode cX3_verdict 7 = .ok (.iload_n 2, 1) := by decide +kernel
theorem dX3_verdict_8 : decode cX3_verdict 8 = .ok (.invokevirtual 112, 3) := by decide +kernel
theorem dX3_verdict_11 : decode cX3_verdict 11 = .ok (.astore 4, 2) := by decide +kernel
theorem dX3_verdict_13 : decode cX3_verdict 13 = .ok (.iload_n 1, 1) := by decide +kernel
theorem dX3_verdict_14 : decode cX3_verdict 14 = .ok (.iload_n 2, 1) := by decide +kernel
theorem dX3_verdict_15 : decode cX3_verdict 15 = .ok (.if_icmp .ne 14, 3) := by decide +kernel
theorem dX3_verdict_18 : decode cX3_verdict 18 = .ok (.new 89, 3) := by decide +kernel
theorem dX3_verdict_21 : decode cX3_verdict 21 = .ok (.dup, 1) := by decide +kernel
theorem dX3_verdict_22 : decode cX3_verdict 22 = .ok (.ldc_w 283, 3) := by decide +kernel
theorem dX3_verdict_25 : decode cX3_verdict 25 = .ok (.invokespecial 93, 3) := by decide +kernel
theorem dX3_verdict_28 : decode cX3_verdict 28 = .ok (.athrow, 1) := by decide +kernel
theorem dX3_verdict_29 : decode cX3_verdict 29 = .ok (.aload_n 3, 1) := by decide +kernel
theorem dX3_verdict_30 : decode cX3_verdict 30 = .ok (.aload_n 0, 1) := by decide +kernel
theorem dX3_verdict_31 : decode cX3_verdict 31 = .ok (.getfield 80, 3) := by decide +kernel
theorem dX3_verdict_34 : decode cX3_verdict 34 = .ok (.invokevirtual 272, 3) := by decide +kernel
theorem dX3_verdict_37 : decode cX3_verdict 37 = .ok (.ifCond .eq 24, 3) := by decide +kernel
theorem dX3_verdict_40 : decode cX3_verdict 40 = .ok (.aload 4, 2) := by decide +kernel
theorem dX3_verdict_42 : decode cX3_verdict 42 = .ok (.aload_n 0, 1) := by decide +kernel
theorem dX3_verdict_43 : decode cX3_verdict 43 = .ok (.getfield 80, 3) := by decide +kernel
theorem dX3_verdict_46 : decode cX3_verdict 46 = .ok (.invokevirtual 272, 3) := by decide +kernel
theorem dX3_verdict_49 : decode cX3_verdict 49 = .ok (.ifCond .eq 12, 3) := by decide +kernel
theorem dX3_verdict_52 : decode cX3_verdict 52 = .ok (.aload_n 3, 1) := by decide +kernel
theorem dX3_verdict_53 : decode cX3_verdict 53 = .ok (.aload 4, 2) := by decide +kernel
theorem dX3_verdict_55 : decode cX3_verdict 55 = .ok (.invokevirtual 285, 3) := by decide +kernel
theorem dX3_verdict_58 : decode cX3_verdict 58 = .ok (.ifCond .ne 5, 3) := by decide +kernel
theorem dX3_verdict_61 : decode cX3_verdict 61 = .ok (.iconst (-1), 1) := by decide +kernel
theorem dX3_verdict_62 : decode cX3_verdict 62 = .ok (.ireturn, 1) := by decide +kernel
theorem dX3_verdict_63 : decode cX3_verdict 63 = .ok (.aload_n 3, 1) := by decide +kernel
theorem dX3_verdict_64 : decode cX3_verdict 64 = .ok (.getfield 130, 3) := by decide +kernel
theorem dX3_verdict_67 : decode cX3_verdict 67 = .ok (.aload 4, 2) := by decide +kernel
theorem dX3_verdict_69 : decode cX3_verdict 69 = .ok (.getfield 130, 3) := by decide +kernel
theorem dX3_verdict_72 : decode cX3_verdict 72 = .ok (.if_icmp .ne 9, 3) := by decide +kernel
theorem dX3_verdict_75 : decode cX3_verdict 75 = .ok (.iload_n 1, 1) := by decide +kernel
theorem dX3_verdict_76 : decode cX3_verdict 76 = .ok (.iload_n 2, 1) := by decide +kernel
theorem dX3_verdict_77 : decode cX3_verdict 77 = .ok (.invokestatic 289, 3) := by decide +kernel
theorem dX3_verdict_80 : decode cX3_verdict 80 = .ok (.ireturn, 1) := by decide +kernel
theorem dX3_verdict_81 : decode cX3_verdict 81 = .ok (.aload_n 3, 1) := by decide +kernel
theorem dX3_verdict_82 : decode cX3_verdict 82 = .ok (.getfield 130, 3) := by decide +kernel
theorem dX3_verdict_85 : decode cX3_verdict 85 = .ok (.aload 4, 2) := by decide +kernel
theorem dX3_verdict_87 : decode cX3_verdict 87 = .ok (.getfield 130, 3) := by decide +kernel
theorem dX3_verdict_90 : decode cX3_verdict 90 = .ok (.if_icmp .ge 7, 3) := by decide +kernel
theorem dX3_verdict_93 : decode cX3_verdict 93 = .ok (.iload_n 1, 1) := by decide +kernel
theorem dX3_verdict_94 : decode cX3_verdict 94 = .ok (.goto 4, 3) := by decide +kernel
theorem dX3_verdict_97 : decode cX3_verdict 97 = .ok (.iload_n 2, 1) := by decide +kernel
theorem dX3_verdict_98 : decode cX3_verdict 98 = .ok (.ireturn, 1) := by decide +kernel
theorem dX3_ofPerson_0 : decode cX3_ofPerson 0 = .ok (.iload_n 1, 1) := by decide +kernel
theorem dX3_ofPerson_1 : decode cX3_ofPerson 1 = .ok (.invokestatic 86, 3) := by decide +kernel
theorem dX3_ofPerson_4 : decode cX3_ofPerson 4 = .ok (.iload_n 2, 1) := by decide +kernel
theorem dX3_ofPerson_5 : decode cX3_ofPerson 5 = .ok (.tableswitch 57 0 3 #[31, 38, 44, 50], 31) := by decide +kernel
theorem dX3_ofPerson_36 : decode cX3_ofPerson 36 = .ok (.aload_n 0, 1) := by decide +kernel
theorem dX3_ofPerson_37 : decode cX3_ofPerson 37 = .ok (.getfield 26, 3) := by decide +kernel
theorem dX3_ofPerson_40 : decode cX3_ofPerson 40 = .ok (.iload_n 1, 1) := by decide +kernel
theorem dX3_ofPerson_41 : decode cX3_ofPerson 41 = .ok (.iaload, 1) := by decide +kernel
theorem dX3_ofPerson_42 : decode cX3_ofPerson 42 = .ok (.ireturn, 1) := by decide +kernel
theorem dX3_ofPerson_43 : decode cX3_ofPerson 43 = .ok (.aload_n 0, 1) := by decide +kernel
theorem dX3_ofPerson_44 : decode cX3_ofPerson 44 = .ok (.iload_n 1, 1) := by decide +kernel
theorem dX3_ofPerson_45 : decode cX3_ofPerson 45 = .ok (.invokevirtual 295, 3) := by decide +kernel
theorem dX3_ofPerson_48 : decode cX3_ofPerson 48 = .ok (.ireturn, 1) := by decide +kernel
theorem dX3_ofPerson_49 : decode cX3_ofPerson 49 = .ok (.aload_n 0, 1) := by decide +kernel
theorem dX3_ofPerson_50 : decode cX3_ofPerson 50 = .ok (.iload_n 1, 1) := by decide +kernel
theorem dX3_ofPerson_51 : decode cX3_ofPerson 51 = .ok (.invokevirtual 298, 3) := by decide +kernel
theorem dX3_ofPerson_54 : decode cX3_ofPerson 54 = .ok (.ireturn, 1) := by decide +kernel
theorem dX3_ofPerson_55 : decode cX3_ofPerson 55 = .ok (.aload_n 0, 1) := by decide +kernel
theorem dX3_ofPerson_56 : decode cX3_ofPerson 56 = .ok (.getfield 33, 3) := by decide +kernel
theorem dX3_ofPerson_59 : decode cX3_ofPerson 59 = .ok (.iload_n 1, 1) := by decide +kernel
theorem dX3_ofPerson_60 : decode cX3_ofPerson 60 = .ok (.iaload, 1) := by decide +kernel
theorem dX3_ofPerson_61 : decode cX3_ofPerson 61 = .ok (.ireturn, 1) := by decide +kernel
theorem dX3_ofPerson_62 : decode cX3_ofPerson 62 = .ok (.new 89, 3) := by decide +kernel
theorem dX3_ofPerson_65 : decode cX3_ofPerson 65 = .ok (.dup, 1) := by decide +kernel
theorem dX3_ofPerson_66 : decode cX3_ofPerson 66 = .ok (.ldc_w 301, 3) := by decide +kernel
theorem dX3_ofPerson_69 : decode cX3_ofPerson 69 = .ok (.invokespecial 93, 3) := by decide +kernel
theorem dX3_ofPerson_72 : decode cX3_ofPerson 72 = .ok (.athrow, 1) := by decide +kernel
theorem dX3_ofStone_0 : decode cX3_ofStone 0 = .ok (.aload_n 0, 1) := by decide +kernel
theorem dX3_ofStone_1 : decode cX3_ofStone 1 = .ok (.iload_n 1, 1) := by decide +kernel
theorem dX3_ofStone_2 : decode cX3_ofStone 2 = .ok (.invokevirtual 209, 3) := by decide +kernel
theorem dX3_ofStone_5 : decode cX3_ofStone 5 = .ok (.astore_n 3, 1) := by decide +kernel
theorem dX3_ofStone_6 : decode cX3_ofStone 6 = .ok (.iload_n 2, 1) := by decide +kernel
theorem dX3_ofStone_7 : decode cX3_ofStone 7 = .ok (.tableswitch 85 0 7 #[45, 50, 55, 60, 65, 70, 75, 80], 45) := by decide +kernel
theorem dX3_ofStone_52 : decode cX3_ofStone 52 = .ok (.aload_n 3, 1) := by decide +kernel
theorem dX3_ofStone_53 : decode cX3_ofStone 53 = .ok (.getfield 222, 3) := by decide +kernel
theorem dX3_ofStone_56 : decode cX3_ofStone 56 = .ok (.ireturn, 1) := by decide +kernel
theorem dX3_ofStone_57 : decode cX3_ofStone 57 = .ok (.aload_n 3, 1) := by decide +kernel
theorem dX3_ofStone_58 : decode cX3_ofStone 58 = .ok (.invokevirtual 228, 3) := by decide +kernel
theorem dX3_ofStone_61 : decode cX3_ofStone 61 = .ok (.ireturn, 1) := by decide +kernel
theorem dX3_ofStone_62 : decode cX3_ofStone 62 = .ok (.aload_n 3, 1) := by decide +kernel
theorem dX3_ofStone_63 : decode cX3_ofStone 63 = .ok (.getfield 217, 3) := by decide +kernel
theorem dX3_ofStone_66 : decode cX3_ofStone 66 = .ok (.ireturn, 1) := by decide +kernel
theorem dX3_ofStone_67 : decode cX3_ofStone 67 = .ok (.aload_n 3, 1) := by decide +kernel
theorem dX3_ofStone_68 : decode cX3_ofStone 68 = .ok (.getfield 303, 3) := by decide +kernel
theorem dX3_ofStone_71 : decode cX3_ofStone 71 = .ok (.ireturn, 1) := by decide +kernel
theorem dX3_ofStone_72 : decode cX3_ofStone 72 = .ok (.aload_n 3, 1) := by decide +kernel
theorem dX3_ofStone_73 : decode cX3_ofStone 73 = .ok (.invokevirtual 306, 3) := by decide +kernel
theorem dX3_ofStone_76 : decode cX3_ofStone 76 = .ok (.ireturn, 1) := by decide +kernel
theorem dX3_ofStone_77 : decode cX3_ofStone 77 = .ok (.aload_n 3, 1) := by decide +kernel
theorem dX3_ofStone_78 : decode cX3_ofStone 78 = .ok (.getfield 260, 3) := by decide +kernel
theorem dX3_ofStone_81 : decode cX3_ofStone 81 = .ok (.ireturn, 1) := by decide +kernel
theorem dX3_ofStone_82 : decode cX3_ofStone 82 = .ok (.aload_n 3, 1) := by decide +kernel
theorem dX3_ofStone_83 : decode cX3_ofStone 83 = .ok (.getfield 236, 3) := by decide +kernel
theorem dX3_ofStone_86 : decode cX3_ofStone 86 = .ok (.ireturn, 1) := by decide +kernel
theorem dX3_ofStone_87 : decode cX3_ofStone 87 = .ok (.aload_n 3, 1) := by decide +kernel
theorem dX3_ofStone_88 : decode cX3_ofStone 88 = .ok (.getfield 309, 3) := by decide +kernel
theorem dX3_ofStone_91 : decode cX3_ofStone 91 = .ok (.ireturn, 1) := by decide +kernel
theorem dX3_ofStone_92 : decode cX3_ofStone 92 = .ok (.new 89, 3) := by decide +kernel
theorem dX3_ofStone_95 : decode cX3_ofStone 95 = .ok (.dup, 1) := by decide +kernel
theorem dX3_ofStone_96 : decode cX3_ofStone 96 = .ok (.ldc_w 312, 3) := by decide +kernel
theorem dX3_ofStone_99 : decode cX3_ofStone 99 = .ok (.invokespecial 93, 3) := by decide +kernel
theorem dX3_ofStone_102 : decode cX3_ofStone 102 = .ok (.athrow, 1) := by decide +kernel
theorem dX3_purse_0 : decode cX3_purse 0 = .ok (.iload_n 1, 1) := by decide +kernel
theorem dX3_purse_1 : decode cX3_purse 1 = .ok (.invokestatic 239, 3) := by decide +kernel
theorem dX3_purse_4 : decode cX3_purse 4 = .ok (.aload_n 0, 1) := by decide +kernel
theorem dX3_purse_5 : decode cX3_purse 5 = .ok (.getfield 36, 3) := by decide +kernel
theorem dX3_purse_8 : decode cX3_purse 8 = .ok (.iload_n 1, 1) := by decide +kernel
theorem dX3_purse_9 : decode cX3_purse 9 = .ok (.iaload, 1) := by decide +kernel
theorem dX3_purse_10 : decode cX3_purse 10 = .ok (.ireturn, 1) := by decide +kernel
theorem dX3_carats_0 : decode cX3_carats 0 = .ok (.iload_n 1, 1) := by decide +kernel
theorem dX3_carats_1 : decode cX3_carats 1 = .ok (.tableswitch 84 0 5 #[39, 50, 61, 67, 73, 79], 39) := by decide +kernel
theorem dX3_carats_40 : decode cX3_carats 40 = .ok (.aload_n 0, 1) := by decide +kernel
theorem dX3_carats_41 : decode cX3_carats 41 = .ok (.getfield 12, 3) := by decide +kernel
theorem dX3_carats_44 : decode cX3_carats 44 = .ok (.getfield 69, 3) := by decide +kernel
theorem dX3_carats_47 : decode cX3_carats 47 = .ok (.invokestatic 314, 3) := by decide +kernel
theorem dX3_carats_50 : decode cX3_carats 50 = .ok (.ireturn, 1) := by decide +kernel
theorem dX3_carats_51 : decode cX3_carats 51 = .ok (.aload_n 0, 1) := by decide +kernel
theorem dX3_carats_52 : decode cX3_carats 52 = .ok (.getfield 12, 3) := by decide +kernel
theorem dX3_carats_55 : decode cX3_carats 55 = .ok (.getfield 74, 3) := by decide +kernel
theorem dX3_carats_58 : decode cX3_carats 58 = .ok (.invokestatic 314, 3) := by decide +kernel
theorem dX3_carats_61 : decode cX3_carats 61 = .ok (.ireturn, 1) := by decide +kernel
theorem dX3_carats_62 : decode cX3_carats 62 = .ok (.aload_n 0, 1) := by decide +kernel
theorem dX3_carats_63 : decode cX3_carats 63 = .ok (.iconst 0, 1) := by decide +kernel
theorem dX3_carats_64 : decode cX3_carats 64 = .ok (.invokevirtual 317, 3) := by decide +kernel
theorem dX3_carats_67 : decode cX3_carats 67 = .ok (.ireturn, 1) := by decide +kernel
theorem dX3_carats_68 : decode cX3_carats 68 = .ok (.aload_n 0, 1) := by decide +kernel
theorem dX3_carats_69 : decode cX3_carats 69 = .ok (.iconst 1, 1) := by decide +kernel
theorem dX3_carats_70 : decode cX3_carats 70 = .ok (.invokevirtual 317, 3) := by decide +kernel
theorem dX3_carats_73 : decode cX3_carats 73 = .ok (.ireturn, 1) := by decide +kernel
theorem dX3_carats_74 : decode cX3_carats 74 = .ok (.aload_n 0, 1) := by decide +kernel
theorem dX3_carats_75 : decode cX3_carats 75 = .ok (.iconst 2, 1) := by decide +kernel
theorem dX3_carats_76 : decode cX3_carats 76 = .ok (.invokevirtual 317, 3) := by decide +kernel
theorem dX3_carats_79 : decode cX3_carats 79 = .ok (.ireturn, 1) := by decide +kernel
theorem dX3_carats_80 : decode cX3_carats 80 = .ok (.aload_n 0, 1) := by decide +kernel
theorem dX3_carats_81 : decode cX3_carats 81 = .ok (.invokevirtual 320, 3) := by decide +kernel
theorem dX3_carats_84 : decode cX3_carats 84 = .ok (.ireturn, 1) := by decide +kernel
theorem dX3_carats_85 : decode cX3_carats 85 = .ok (.new 89, 3) := by decide +kernel
theorem dX3_carats_88 : decode cX3_carats 88 = .ok (.dup, 1) := by decide +kernel
theorem dX3_carats_89 : decode cX3_carats 89 = .ok (.ldc_w 323, 3) := by decide +kernel
theorem dX3_carats_92 : decode cX3_carats 92 = .ok (.invokespecial 93, 3) := by decide +kernel
theorem dX3_carats_95 : decode cX3_carats 95 = .ok (.athrow, 1) := by decide +kernel
theorem dX3_plan_0 : decode cX3_plan 0 = .ok (.aload_n 0, 1) := by decide +kernel
theorem dX3_plan_1 : decode cX3_plan 1 = .ok (.iload_n 1, 1) := by decide +kernel
theorem dX3_plan_2 : decode cX3_plan 2 = .ok (.invokevirtual 112, 3) := by decide +kernel
theorem dX3_plan_5 : decode cX3_plan 5 = .ok (.pop, 1) := by decide +kernel
theorem dX3_plan_6 : decode cX3_plan 6 = .ok (.iload_n 2, 1) := by decide +kernel
theorem dX3_plan_7 : decode cX3_plan 7 = .ok (.iconst 0, 1) := by decide +kernel
theorem dX3_plan_8 : decode cX3_plan 8 = .ok (.iconst 3, 1) := by decide +kernel
theorem dX3_plan_9 : decode cX3_plan 9 = .ok (.invokestatic 55, 3) := by decide +kernel
theorem dX3_plan_12 : decode cX3_plan 12 = .ok (.aload_n 0, 1) := by decide +kernel
theorem dX3_plan_13 : decode cX3_plan 13 = .ok (.iload_n 1, 1) := by decide +kernel
theorem dX3_plan_14 : decode cX3_plan 14 = .ok (.invokevirtual 325, 3) := by decide +kernel
theorem dX3_plan_17 : decode cX3_plan 17 = .ok (.istore_n 3, 1) := by decide +kernel
theorem dX3_plan_18 : decode cX3_plan 18 = .ok (.aload_n 0, 1) := by decide +kernel
theorem dX3_plan_19 : decode cX3_plan 19 = .ok (.getfield 12, 3) := by decide +kernel
theorem dX3_plan_22 : decode cX3_plan 22 = .ok (.aload_n 0, 1) := by decide +kernel
theorem dX3_plan_23 : decode cX3_plan 23 = .ok (.getfield 48, 3) := by decide +kernel
theorem dX3_plan_26 : decode cX3_plan 26 = .ok (.iload_n 3, 1) := by decide +kernel
theorem dX3_plan_27 : decode cX3_plan 27 = .ok (.iload_n 2, 1) := by decide +kernel
theorem dX3_plan_28 : decode cX3_plan 28 = .ok (.iconst 0, 1) := by decide +kernel
theorem dX3_plan_29 : decode cX3_plan 29 = .ok (.invokestatic 328, 3) := by decide +kernel
theorem dX3_plan_32 : decode cX3_plan 32 = .ok (.ireturn, 1) := by decide +kernel
theorem dX3_planAnew_0 : decode cX3_planAnew 0 = .ok (.aload_n 0, 1) := by decide +kernel
theorem dX3_planAnew_1 : decode cX3_planAnew 1 = .ok (.iload_n 1, 1) := by decide +kernel
theorem dX3_planAnew_2 : decode cX3_planAnew 2 = .ok (.invokevirtual 112, 3) := by decide +kernel
theorem dX3_planAnew_5 : decode cX3_planAnew 5 = .ok (.pop, 1) := by decide +kernel
theorem dX3_planAnew_6 : decode cX3_planAnew 6 = .ok (.iload_n 2, 1) := by decide +kernel
theorem dX3_planAnew_7 : decode cX3_planAnew 7 = .ok (.iconst 0, 1) := by decide +kernel
theorem dX3_planAnew_8 : decode cX3_planAnew 8 = .ok (.iconst 3, 1) := by decide +kernel
theorem dX3_planAnew_9 : decode cX3_planAnew 9 = .ok (.invokestatic 55, 3) := by decide +kernel
theorem dX3_planAnew_12 : decode cX3_planAnew 12 = .ok (.aload_n 0, 1) := by decide +kernel
theorem dX3_planAnew_13 : decode cX3_planAnew 13 = .ok (.iload_n 1, 1) := by decide +kernel
theorem dX3_planAnew_14 : decode cX3_planAnew 14 = .ok (.invokevirtual 325, 3) := by decide +kernel
theorem dX3_planAnew_17 : decode cX3_planAnew 17 = .ok (.istore_n 3, 1) := by decide +kernel
theorem dX3_planAnew_18 : decode cX3_planAnew 18 = .ok (.aload_n 0, 1) := by decide +kernel
theorem dX3_planAnew_19 : decode cX3_planAnew 19 = .ok (.getfield 12, 3) := by decide +kernel
theorem dX3_planAnew_22 : decode cX3_planAnew 22 = .ok (.aload_n 0, 1) := by decide +kernel
theorem dX3_planAnew_23 : decode cX3_planAnew 23 = .ok (.getfield 48, 3) := by decide +kernel
theorem dX3_planAnew_26 : decode cX3_planAnew 26 = .ok (.iload_n 3, 1) := by decide +kernel
theorem dX3_planAnew_27 : decode cX3_planAnew 27 = .ok (.iload_n 2, 1) := by decide +kernel
theorem dX3_planAnew_28 : decode cX3_planAnew 28 = .ok (.invokestatic 332, 3) := by decide +kernel
theorem dX3_planAnew_31 : decode cX3_planAnew 31 = .ok (.ireturn, 1) := by decide +kernel
theorem dX3_needCell_0 : decode cX3_needCell 0 = .ok (.iload_n 0, 1) := by decide +kernel
theorem dX3_needCell_1 : decode cX3_needCell 1 = .ok (.invokestatic 336, 3) := by decide +kernel
theorem dX3_needCell_4 : decode cX3_needCell 4 = .ok (.ifCond .ne 14, 3) := by decide +kernel
theorem dX3_needCell_7 : decode cX3_needCell 7 = .ok (.new 339, 3) := by decide +kernel
theorem dX3_needCell_10 : decode cX3_needCell 10 = .ok (.dup, 1) := by decide +kernel
theorem dX3_needCell_11 : decode cX3_needCell 11 = .ok (.ldc_w 341, 3) := by decide +kernel
theorem dX3_needCell_14 : decode cX3_needCell 14 = .ok (.invokespecial 343, 3) := by decide +kernel
theorem dX3_needCell_17 : decode cX3_needCell 17 = .ok (.athrow, 1) := by decide +kernel
theorem dX3_needCell_18 : decode cX3_needCell 18 = .ok (.return_, 1) := by decide +kernel
theorem dX3_needPerson_0 : decode cX3_needPerson 0 = .ok (.iload_n 0, 1) := by decide +kernel
theorem dX3_needPerson_1 : decode cX3_needPerson 1 = .ok (.ifCond .lt 9, 3) := by decide +kernel
theorem dX3_needPerson_4 : decode cX3_needPerson 4 = .ok (.iload_n 0, 1) := by decide +kernel
theorem dX3_needPerson_5 : decode cX3_needPerson 5 = .ok (.bipush 8, 2) := by decide +kernel
theorem dX3_needPerson_7 : decode cX3_needPerson 7 = .ok (.if_icmp .lt 14, 3) := by decide +kernel
theorem dX3_needPerson_10 : decode cX3_needPerson 10 = .ok (.new 339, 3) := by decide +kernel
theorem dX3_needPerson_13 : decode cX3_needPerson 13 = .ok (.dup, 1) := by decide +kernel
theorem dX3_needPerson_14 : decode cX3_needPerson 14 = .ok (.ldc_w 344, 3) := by decide +kernel
theorem dX3_needPerson_17 : decode cX3_needPerson 17 = .ok (.invokespecial 343, 3) := by decide +kernel
theorem dX3_needPerson_20 : decode cX3_needPerson 20 = .ok (.athrow, 1) := by decide +kernel
theorem dX3_needPerson_21 : decode cX3_needPerson 21 = .ok (.return_, 1) := by decide +kernel
theorem dX3_needBuyer_0 : decode cX3_needBuyer 0 = .ok (.iload_n 0, 1) := by decide +kernel
theorem dX3_needBuyer_1 : decode cX3_needBuyer 1 = .ok (.ifCond .lt 8, 3) := by decide +kernel
theorem dX3_needBuyer_4 : decode cX3_needBuyer 4 = .ok (.iload_n 0, 1) := by decide +kernel
theorem dX3_needBuyer_5 : decode cX3_needBuyer 5 = .ok (.iconst 5, 1) := by decide +kernel
theorem dX3_needBuyer_6 : decode cX3_needBuyer 6 = .ok (.if_icmp .lt 14, 3) := by decide +kernel
theorem dX3_needBuyer_9 : decode cX3_needBuyer 9 = .ok (.new 339, 3) := by decide +kernel
theorem dX3_needBuyer_12 : decode cX3_needBuyer 12 = .ok (.dup, 1) := by decide +kernel
theorem dX3_needBuyer_13 : decode cX3_needBuyer 13 = .ok (.ldc_w 346, 3) := by decide +kernel
theorem dX3_needBuyer_16 : decode cX3_needBuyer 16 = .ok (.invokespecial 343, 3) := by decide +kernel
theorem dX3_needBuyer_19 : decode cX3_needBuyer 19 = .ok (.athrow, 1) := by decide +kernel
theorem dX3_needBuyer_20 : decode cX3_needBuyer 20 = .ok (.return_, 1) := by decide +kernel
theorem dX3_claimAt_0 : decode cX3_claimAt 0 = .ok (.iload_n 1, 1) := by decide +kernel
theorem dX3_claimAt_1 : decode cX3_claimAt 1 = .ok (.ifCond .lt 14, 3) := by decide +kernel
theorem dX3_claimAt_4 : decode cX3_claimAt 4 = .ok (.iload_n 1, 1) := by decide +kernel
theorem dX3_claimAt_5 : decode cX3_claimAt 5 = .ok (.aload_n 0, 1) := by decide +kernel
theorem dX3_claimAt_6 : decode cX3_claimAt 6 = .ok (.getfield 19, 3) := by decide +kernel
theorem dX3_claimAt_9 : decode cX3_claimAt 9 = .ok (.invokevirtual 94, 3) := by decide +kernel
theorem dX3_claimAt_12 : decode cX3_claimAt 12 = .ok (.if_icmp .lt 14, 3) := by decide +kernel
theorem dX3_claimAt_15 : decode cX3_claimAt 15 = .ok (.new 339, 3) := by decide +kernel
theorem dX3_claimAt_18 : decode cX3_claimAt 18 = .ok (.dup, 1) := by decide +kernel
theorem dX3_claimAt_19 : decode cX3_claimAt 19 = .ok (.ldc_w 348, 3) := by decide +kernel
theorem dX3_claimAt_22 : decode cX3_claimAt 22 = .ok (.invokespecial 343, 3) := by decide +kernel
theorem dX3_claimAt_25 : decode cX3_claimAt 25 = .ok (.athrow, 1) := by decide +kernel
theorem dX3_claimAt_26 : decode cX3_claimAt 26 = .ok (.aload_n 0, 1) := by decide +kernel
theorem dX3_claimAt_27 : decode cX3_claimAt 27 = .ok (.getfield 19, 3) := by decide +kernel
theorem dX3_claimAt_30 : decode cX3_claimAt 30 = .ok (.iload_n 1, 1) := by decide +kernel
theorem dX3_claimAt_31 : decode cX3_claimAt 31 = .ok (.invokevirtual 350, 3) := by decide +kernel
theorem dX3_claimAt_34 : decode cX3_claimAt 34 = .ok (.checkcast 103, 3) := by decide +kernel
theorem dX3_claimAt_37 : decode cX3_claimAt 37 = .ok (.areturn, 1) := by decide +kernel
theorem dX3_stoneAt_0 : decode cX3_stoneAt 0 = .ok (.iload_n 1, 1) := by decide +kernel
theorem dX3_stoneAt_1 : decode cX3_stoneAt 1 = .ok (.ifCond .lt 14, 3) := by decide +kernel
theorem dX3_stoneAt_4 : decode cX3_stoneAt 4 = .ok (.iload_n 1, 1) := by decide +kernel
theorem dX3_stoneAt_5 : decode cX3_stoneAt 5 = .ok (.aload_n 0, 1) := by decide +kernel
theorem dX3_stoneAt_6 : decode cX3_stoneAt 6 = .ok (.getfield 23, 3) := by decide +kernel
theorem dX3_stoneAt_9 : decode cX3_stoneAt 9 = .ok (.invokevirtual 94, 3) := by decide +kernel
theorem dX3_stoneAt_12 : decode cX3_stoneAt 12 = .ok (.if_icmp .lt 14, 3) := by decide +kernel
theorem dX3_stoneAt_15 : decode cX3_stoneAt 15 = .ok (.new 339, 3) := by decide +kernel
theorem dX3_stoneAt_18 : decode cX3_stoneAt 18 = .ok (.dup, 1) := by decide +kernel
theorem dX3_stoneAt_19 : decode cX3_stoneAt 19 = .ok (.ldc_w 354, 3) := by decide +kernel
theorem dX3_stoneAt_22 : decode cX3_stoneAt 22 = .ok (.invokespecial 343, 3) := by decide +kernel
theorem dX3_stoneAt_25 : decode cX3_stoneAt 25 = .ok (.athrow, 1) := by decide +kernel
theorem dX3_stoneAt_26 : decode cX3_stoneAt 26 = .ok (.aload_n 0, 1) := by decide +kernel
theorem dX3_stoneAt_27 : decode cX3_stoneAt 27 = .ok (.getfield 23, 3) := by decide +kernel
theorem dX3_stoneAt_30 : decode cX3_stoneAt 30 = .ok (.iload_n 1, 1) := by decide +kernel
theorem dX3_stoneAt_31 : decode cX3_stoneAt 31 = .ok (.invokevirtual 350, 3) := by decide +kernel
theorem dX3_stoneAt_34 : decode cX3_stoneAt 34 = .ok (.checkcast 218, 3) := by decide +kernel
theorem dX3_stoneAt_37 : decode cX3_stoneAt 37 = .ok (.areturn, 1) := by decide +kernel
theorem dX3_needRange_0 : decode cX3_needRange 0 = .ok (.iload_n 0, 1) := by decide +kernel
theorem dX3_needRange_1 : decode cX3_needRange 1 = .ok (.iload_n 1, 1) := by decide +kernel
theorem dX3_needRange_2 : decode cX3_needRange 2 = .ok (.if_icmp .lt 8, 3) := by decide +kernel
theorem dX3_needRange_5 : decode cX3_needRange 5 = .ok (.iload_n 0, 1) := by decide +kernel
theorem dX3_needRange_6 : decode cX3_needRange 6 = .ok (.iload_n 2, 1) := by decide +kernel
theorem dX3_needRange_7 : decode cX3_needRange 7 = .ok (.if_icmp .le 14, 3) := by decide +kernel
theorem dX3_needRange_10 : decode cX3_needRange 10 = .ok (.new 89, 3) := by decide +kernel
theorem dX3_needRange_13 : decode cX3_needRange 13 = .ok (.dup, 1) := by decide +kernel
theorem dX3_needRange_14 : decode cX3_needRange 14 = .ok (.ldc_w 356, 3) := by decide +kernel
theorem dX3_needRange_17 : decode cX3_needRange 17 = .ok (.invokespecial 93, 3) := by decide +kernel
theorem dX3_needRange_20 : decode cX3_needRange 20 = .ok (.athrow, 1) := by decide +kernel
theorem dX3_needRange_21 : decode cX3_needRange 21 = .ok (.return_, 1) := by decide +kernel
theorem dX3_needFree_0 : decode cX3_needFree 0 = .ok (.aload_n 0, 1) := by decide +kernel
theorem dX3_needFree_1 : decode cX3_needFree 1 = .ok (.iload_n 1, 1) := by decide +kernel
theorem dX3_needFree_2 : decode cX3_needFree 2 = .ok (.invokevirtual 295, 3) := by decide +kernel
theorem dX3_needFree_5 : decode cX3_needFree 5 = .ok (.ifCond .le 14, 3) := by decide +kernel
theorem dX3_needFree_8 : decode cX3_needFree 8 = .ok (.new 62, 3) := by decide +kernel
theorem dX3_needFree_11 : decode cX3_needFree 11 = .ok (.dup, 1) := by decide +kernel
theorem dX3_needFree_12 : decode cX3_needFree 12 = .ok (.ldc_w 358, 3) := by decide +kernel
theorem dX3_needFree_15 : decode cX3_needFree 15 = .ok (.invokespecial 66, 3) := by decide +kernel
theorem dX3_needFree_18 : decode cX3_needFree 18 = .ok (.athrow, 1) := by decide +kernel
theorem dX3_needFree_19 : decode cX3_needFree 19 = .ok (.return_, 1) := by decide +kernel
theorem dX3_claimAtHand_0 : decode cX3_claimAtHand 0 = .ok (.aload_n 0, 1) := by decide +kernel
theorem dX3_claimAtHand_1 : decode cX3_claimAtHand 1 = .ok (.iload_n 1, 1) := by decide +kernel
theorem dX3_claimAtHand_2 : decode cX3_claimAtHand 2 = .ok (.invokevirtual 112, 3) := by decide +kernel
theorem dX3_claimAtHand_5 : decode cX3_claimAtHand 5 = .ok (.astore 4, 2) := by decide +kernel
theorem dX3_claimAtHand_7 : decode cX3_claimAtHand 7 = .ok (.iload_n 2, 1) := by decide +kernel
theorem dX3_claimAtHand_8 : decode cX3_claimAtHand 8 = .ok (.invokestatic 86, 3) := by decide +kernel
theorem dX3_claimAtHand_11 : decode cX3_claimAtHand 11 = .ok (.iload_n 3, 1) := by decide +kernel
theorem dX3_claimAtHand_12 : decode cX3_claimAtHand 12 = .ok (.invokestatic 51, 3) := by decide +kernel
theorem dX3_claimAtHand_15 : decode cX3_claimAtHand 15 = .ok (.aload 4, 2) := by decide +kernel
theorem dX3_claimAtHand_17 : decode cX3_claimAtHand 17 = .ok (.iload_n 2, 1) := by decide +kernel
theorem dX3_claimAtHand_18 : decode cX3_claimAtHand 18 = .ok (.invokevirtual 116, 3) := by decide +kernel
theorem dX3_claimAtHand_21 : decode cX3_claimAtHand 21 = .ok (.ifCond .ne 14, 3) := by decide +kernel
theorem dX3_claimAtHand_24 : decode cX3_claimAtHand 24 = .ok (.new 62, 3) := by decide +kernel
theorem dX3_claimAtHand_27 : decode cX3_claimAtHand 27 = .ok (.dup, 1) := by decide +kernel
theorem dX3_claimAtHand_28 : decode cX3_claimAtHand 28 = .ok (.ldc_w 360, 3) := by decide +kernel
theorem dX3_claimAtHand_31 : decode cX3_claimAtHand 31 = .ok (.invokespecial 66, 3) := by decide +kernel
theorem dX3_claimAtHand_34 : decode cX3_claimAtHand 34 = .ok (.athrow, 1) := by decide +kernel
theorem dX3_claimAtHand_35 : decode cX3_claimAtHand 35 = .ok (.aload_n 0, 1) := by decide +kernel
theorem dX3_claimAtHand_36 : decode cX3_claimAtHand 36 = .ok (.iload_n 2, 1) := by decide +kernel
theorem dX3_claimAtHand_37 : decode cX3_claimAtHand 37 = .ok (.invokevirtual 100, 3) := by decide +kernel
theorem dX3_claimAtHand_40 : decode cX3_claimAtHand 40 = .ok (.aload_n 0, 1) := by decide +kernel
theorem dX3_claimAtHand_41 : decode cX3_claimAtHand 41 = .ok (.iload_n 3, 1) := by decide +kernel
theorem dX3_claimAtHand_42 : decode cX3_claimAtHand 42 = .ok (.invokevirtual 189, 3) := by decide +kernel
theorem dX3_claimAtHand_45 : decode cX3_claimAtHand 45 = .ok (.iload_n 1, 1) := by decide +kernel
theorem dX3_claimAtHand_46 : decode cX3_claimAtHand 46 = .ok (.if_icmp .eq 14, 3) := by decide +kernel
theorem dX3_claimAtHand_49 : decode cX3_claimAtHand 49 = .ok (.new 62, 3) := by decide +kernel
theorem dX3_claimAtHand_52 : decode cX3_claimAtHand 52 = .ok (.dup, 1) := by decide +kernel
theorem dX3_claimAtHand_53 : decode cX3_claimAtHand 53 = .ok (.ldc_w 362, 3) := by decide +kernel
theorem dX3_claimAtHand_56 : decode cX3_claimAtHand 56 = .ok (.invokespecial 66, 3) := by decide +kernel
theorem dX3_claimAtHand_59 : decode cX3_claimAtHand 59 = .ok (.athrow, 1) := by decide +kernel
theorem dX3_claimAtHand_60 : decode cX3_claimAtHand 60 = .ok (.aload 4, 2) := by decide +kernel
theorem dX3_claimAtHand_62 : decode cX3_claimAtHand 62 = .ok (.areturn, 1) := by decide +kernel
theorem dX3_needOfPerson_0 : decode cX3_needOfPerson 0 = .ok (.aload_n 0, 1) := by decide +kernel
theorem dX3_needOfPerson_1 : decode cX3_needOfPerson 1 = .ok (.invokevirtual 364, 3) := by decide +kernel
theorem dX3_needOfPerson_4 : decode cX3_needOfPerson 4 = .ok (.iconst 1, 1) := by decide +kernel
theorem dX3_needOfPerson_5 : decode cX3_needOfPerson 5 = .ok (.if_icmp .eq 14, 3) := by decide +kernel
theorem dX3_needOfPerson_8 : decode cX3_needOfPerson 8 = .ok (.new 62, 3) := by decide +kernel
theorem dX3_needOfPerson_11 : decode cX3_needOfPerson 11 = .ok (.dup, 1) := by decide +kernel
theorem dX3_needOfPerson_12 : decode cX3_needOfPerson 12 = .ok (.ldc_w 367, 3) := by decide +kernel
theorem dX3_needOfPerson_15 : decode cX3_needOfPerson 15 = .ok (.invokespecial 66, 3) := by decide +kernel
theorem dX3_needOfPerson_18 : decode cX3_needOfPerson 18 = .ok (.athrow, 1) := by decide +kernel
theorem dX3_needOfPerson_19 : decode cX3_needOfPerson 19 = .ok (.return_, 1) := by decide +kernel
theorem dX3_isCell_0 : decode cX3_isCell 0 = .ok (.iload_n 0, 1) := by decide +kernel
theorem dX3_isCell_1 : decode cX3_isCell 1 = .ok (.ifCond .lt 13, 3) := by decide +kernel
theorem dX3_isCell_4 : decode cX3_isCell 4 = .ok (.iload_n 0, 1) := by decide +kernel
theorem dX3_isCell_5 : decode cX3_isCell 5 = .ok (.bipush 100, 2) := by decide +kernel
theorem dX3_isCell_7 : decode cX3_isCell 7 = .ok (.if_icmp .ge 7, 3) := by decide +kernel
theorem dX3_isCell_10 : decode cX3_isCell 10 = .ok (.iconst 1, 1) := by decide +kernel
theorem dX3_isCell_11 : decode cX3_isCell 11 = .ok (.goto 4, 3) := by decide +kernel
theorem dX3_isCell_14 : decode cX3_isCell 14 = .ok (.iconst 0, 1) := by decide +kernel
theorem dX3_isCell_15 : decode cX3_isCell 15 = .ok (.ireturn, 1) := by decide +kernel
theorem dX3_oneIf_0 : decode cX3_oneIf 0 = .ok (.iload_n 0, 1) := by decide +kernel
theorem dX3_oneIf_1 : decode cX3_oneIf 1 = .ok (.ifCond .eq 7, 3) := by decide +kernel
theorem dX3_oneIf_4 : decode cX3_oneIf 4 = .ok (.iconst 1, 1) := by decide +kernel
theorem dX3_oneIf_5 : decode cX3_oneIf 5 = .ok (.goto 4, 3) := by decide +kernel
theorem dX3_oneIf_8 : decode cX3_oneIf 8 = .ok (.iconst 0, 1) := by decide +kernel
theorem dX3_oneIf_9 : decode cX3_oneIf 9 = .ok (.ireturn, 1) := by decide +kernel
theorem dX3_sum_0 : decode cX3_sum 0 = .ok (.iconst 0, 1) := by decide +kernel
theorem dX3_sum_1 : decode cX3_sum 1 = .ok (.istore_n 1, 1) := by decide +kernel
theorem dX3_sum_2 : decode cX3_sum 2 = .ok (.iconst 0, 1) := by decide +kernel
theorem dX3_sum_3 : decode cX3_sum 3 = .ok (.istore_n 2, 1) := by decide +kernel
theorem dX3_sum_4 : decode cX3_sum 4 = .ok (.iload_n 2, 1) := by decide +kernel
theorem dX3_sum_5 : decode cX3_sum 5 = .ok (.aload_n 0, 1) := by decide +kernel
theorem dX3_sum_6 : decode cX3_sum 6 = .ok (.arraylength, 1) := by decide +kernel
theorem dX3_sum_7 : decode cX3_sum 7 = .ok (.if_icmp .ge 15, 3) := by decide +kernel
theorem dX3_sum_10 : decode cX3_sum 10 = .ok (.iload_n 1, 1) := by decide +kernel
theorem dX3_sum_11 : decode cX3_sum 11 = .ok (.aload_n 0, 1) := by decide +kernel
theorem dX3_sum_12 : decode cX3_sum 12 = .ok (.iload_n 2, 1) := by decide +kernel
theorem dX3_sum_13 : decode cX3_sum 13 = .ok (.iaload, 1) := by decide +kernel
theorem dX3_sum_14 : decode cX3_sum 14 = .ok (.iadd, 1) := by decide +kernel
theorem dX3_sum_15 : decode cX3_sum 15 = .ok (.istore_n 1, 1) := by decide +kernel
theorem dX3_sum_16 : decode cX3_sum 16 = .ok (.iinc 2 1, 3) := by decide +kernel
theorem dX3_sum_19 : decode cX3_sum 19 = .ok (.goto (-15), 3) := by decide +kernel
theorem dX3_sum_22 : decode cX3_sum 22 = .ok (.iload_n 1, 1) := by decide +kernel
theorem dX3_sum_23 : decode cX3_sum 23 = .ok (.ireturn, 1) := by decide +kernel
theorem dX3_isNight_0 : decode cX3_isNight 0 = .ok (.aload_n 0, 1) := by decide +kernel
theorem dX3_isNight_1 : decode cX3_isNight 1 = .ok (.getfield 80, 3) := by decide +kernel
theorem dX3_isNight_4 : decode cX3_isNight 4 = .ok (.bipush 24, 2) := by decide +kernel
theorem dX3_isNight_6 : decode cX3_isNight 6 = .ok (.irem, 1) := by decide +kernel
theorem dX3_isNight_7 : decode cX3_isNight 7 = .ok (.istore_n 1, 1) := by decide +kernel
theorem dX3_isNight_8 : decode cX3_isNight 8 = .ok (.iload_n 1, 1) := by decide +kernel
theorem dX3_isNight_9 : decode cX3_isNight 9 = .ok (.bipush 21, 2) := by decide +kernel
theorem dX3_isNight_11 : decode cX3_isNight 11 = .ok (.if_icmp .ge 8, 3) := by decide +kernel
theorem dX3_isNight_14 : decode cX3_isNight 14 = .ok (.iload_n 1, 1) := by decide +kernel
theorem dX3_isNight_15 : decode cX3_isNight 15 = .ok (.iconst 4, 1) := by decide +kernel
theorem dX3_isNight_16 : decode cX3_isNight 16 = .ok (.if_icmp .gt 7, 3) := by decide +kernel
theorem dX3_isNight_19 : decode cX3_isNight 19 = .ok (.iconst 1, 1) := by decide +kernel
theorem dX3_isNight_20 : decode cX3_isNight 20 = .ok (.goto 4, 3) := by decide +kernel
theorem dX3_isNight_23 : decode cX3_isNight 23 = .ok (.iconst 0, 1) := by decide +kernel
theorem dX3_isNight_24 : decode cX3_isNight 24 = .ok (.ireturn, 1) := by decide +kernel
theorem dX3_hoursBarred_0 : decode cX3_hoursBarred 0 = .ok (.iconst 0, 1) := by decide +kernel
theorem dX3_hoursBarred_1 : decode cX3_hoursBarred 1 = .ok (.aload_n 0, 1) := by decide +kernel
theorem dX3_hoursBarred_2 : decode cX3_hoursBarred 2 = .ok (.getfield 30, 3) := by decide +kernel
theorem dX3_hoursBarred_5 : decode cX3_hoursBarred 5 = .ok (.iload_n 1, 1) := by decide +kernel
theorem dX3_hoursBarred_6 : decode cX3_hoursBarred 6 = .ok (.iaload, 1) := by decide +kernel
theorem dX3_hoursBarred_7 : decode cX3_hoursBarred 7 = .ok (.aload_n 0, 1) := by decide +kernel
theorem dX3_hoursBarred_8 : decode cX3_hoursBarred 8 = .ok (.getfield 80, 3) := by decide +kernel
theorem dX3_hoursBarred_11 : decode cX3_hoursBarred 11 = .ok (.isub, 1) := by decide +kernel
theorem dX3_hoursBarred_12 : decode cX3_hoursBarred 12 = .ok (.invokestatic 369, 3) := by decide +kernel
theorem dX3_hoursBarred_15 : decode cX3_hoursBarred 15 = .ok (.ireturn, 1) := by decide +kernel
theorem dX3_holderOf_0 : decode cX3_holderOf 0 = .ok (.iconst (-1), 1) := by decide +kernel
theorem dX3_holderOf_1 : decode cX3_holderOf 1 = .ok (.istore_n 2, 1) := by decide +kernel
theorem dX3_holderOf_2 : decode cX3_holderOf 2 = .ok (.iconst 0, 1) := by decide +kernel
theorem dX3_holderOf_3 : decode cX3_holderOf 3 = .ok (.istore_n 3, 1) := by decide +kernel
theorem dX3_holderOf_4 : decode cX3_holderOf 4 = .ok (.iconst 0, 1) := by decide +kernel
theorem dX3_holderOf_5 : decode cX3_holderOf 5 = .ok (.istore 4, 2) := by decide +kernel
theorem dX3_holderOf_7 : decode cX3_holderOf 7 = .ok (.iload 4, 2) := by decide +kernel
theorem dX3_holderOf_9 : decode cX3_holderOf 9 = .ok (.aload_n 0, 1) := by decide +kernel
theorem dX3_holderOf_10 : decode cX3_holderOf 10 = .ok (.getfield 19, 3) := by decide +kernel
theorem dX3_holderOf_13 : decode cX3_holderOf 13 = .ok (.invokevirtual 94, 3) := by decide +kernel
theorem dX3_holderOf_16 : decode cX3_holderOf 16 = .ok (.if_icmp .ge 67, 3) := by decide +kernel
theorem dX3_holderOf_19 : decode cX3_holderOf 19 = .ok (.aload_n 0, 1) := by decide +kernel
theorem dX3_holderOf_20 : decode cX3_holderOf 20 = .ok (.getfield 19, 3) := by decide +kernel
theorem dX3_holderOf_23 : decode cX3_holderOf 23 = .ok (.iload 4, 2) := by decide +kernel
theorem dX3_holderOf_25 : decode cX3_holderOf 25 = .ok (.invokevirtual 350, 3) := by decide +kernel
theorem dX3_holderOf_28 : decode cX3_holderOf 28 = .ok (.checkcast 103, 3) := by decide +kernel
theorem dX3_holderOf_31 : decode cX3_holderOf 31 = .ok (.astore 5, 2) := by decide +kernel
theorem dX3_holderOf_33 : decode cX3_holderOf 33 = .ok (.aload 5, 2) := by decide +kernel
theorem dX3_holderOf_35 : decode cX3_holderOf 35 = .ok (.iload_n 1, 1) := by decide +kernel
theorem dX3_holderOf_36 : decode cX3_holderOf 36 = .ok (.invokevirtual 372, 3) := by decide +kernel
theorem dX3_holderOf_39 : decode cX3_holderOf 39 = .ok (.ifCond .eq 38, 3) := by decide +kernel
theorem dX3_holderOf_42 : decode cX3_holderOf 42 = .ok (.aload 5, 2) := by decide +kernel
theorem dX3_holderOf_44 : decode cX3_holderOf 44 = .ok (.aload_n 0, 1) := by decide +kernel
theorem dX3_holderOf_45 : decode cX3_holderOf 45 = .ok (.getfield 80, 3) := by decide +kernel
theorem dX3_holderOf_48 : decode cX3_holderOf 48 = .ok (.invokevirtual 272, 3) := by decide +kernel
theorem dX3_holderOf_51 : decode cX3_holderOf 51 = .ok (.ifCond .eq 26, 3) := by decide +kernel
theorem dX3_holderOf_54 : decode cX3_holderOf 54 = .ok (.iload_n 2, 1) := by decide +kernel
theorem dX3_holderOf_55 : decode cX3_holderOf 55 = .ok (.iconst (-1), 1) := by decide +kernel
theorem dX3_holderOf_56 : decode cX3_holderOf 56 = .ok (.if_icmp .eq 12, 3) := by decide +kernel
theorem dX3_holderOf_59 : decode cX3_holderOf 59 = .ok (.aload 5, 2) := by decide +kernel
theorem dX3_holderOf_61 : decode cX3_holderOf 61 = .ok (.getfield 130, 3) := by decide +kernel
theorem dX3_holderOf_64 : decode cX3_holderOf 64 = .ok (.iload_n 3, 1) := by decide +kernel
theorem dX3_holderOf_65 : decode cX3_holderOf 65 = .ok (.if_icmp .ge 12, 3) := by decide +kernel
theorem dX3_holderOf_68 : decode cX3_holderOf 68 = .ok (.iload 4, 2) := by decide +kernel
theorem dX3_holderOf_70 : decode cX3_holderOf 70 = .ok (.istore_n 2, 1) := by decide +kernel
theorem dX3_holderOf_71 : decode cX3_holderOf 71 = .ok (.aload 5, 2) := by decide +kernel
theorem dX3_holderOf_73 : decode cX3_holderOf 73 = .ok (.getfield 130, 3) := by decide +kernel
theorem dX3_holderOf_76 : decode cX3_holderOf 76 = .ok (.istore_n 3, 1) := by decide +kernel
theorem dX3_holderOf_77 : decode cX3_holderOf 77 = .ok (.iinc 4 1, 3) := by decide +kernel
theorem dX3_holderOf_80 : decode cX3_holderOf 80 = .ok (.goto (-73), 3) := by decide +kernel
theorem dX3_holderOf_83 : decode cX3_holderOf 83 = .ok (.iload_n 2, 1) := by decide +kernel
theorem dX3_holderOf_84 : decode cX3_holderOf 84 = .ok (.ireturn, 1) := by decide +kernel
theorem dX3_cellsHeldBy_0 : decode cX3_cellsHeldBy 0 = .ok (.iconst 0, 1) := by decide +kernel
theorem dX3_cellsHeldBy_1 : decode cX3_cellsHeldBy 1 = .ok (.istore_n 2, 1) := by decide +kernel
theorem dX3_cellsHeldBy_2 : decode cX3_cellsHeldBy 2 = .ok (.iconst 0, 1) := by decide +kernel
theorem dX3_cellsHeldBy_3 : decode cX3_cellsHeldBy 3 = .ok (.istore_n 3, 1) := by decide +kernel
theorem dX3_cellsHeldBy_4 : decode cX3_cellsHeldBy 4 = .ok (.iload_n 3, 1) := by decide +kernel
theorem dX3_cellsHeldBy_5 : decode cX3_cellsHeldBy 5 = .ok (.bipush 100, 2) := by decide +kernel
theorem dX3_cellsHeldBy_7 : decode cX3_cellsHeldBy 7 = .ok (.if_icmp .ge 41, 3) := by decide +kernel
theorem dX3_cellsHeldBy_10 : decode cX3_cellsHeldBy 10 = .ok (.iload_n 2, 1) := by decide +kernel
theorem dX3_cellsHeldBy_11 : decode cX3_cellsHeldBy 11 = .ok (.aload_n 0, 1) := by decide +kernel
theorem dX3_cellsHeldBy_12 : decode cX3_cellsHeldBy 12 = .ok (.iload_n 1, 1) := by decide +kernel
theorem dX3_cellsHeldBy_13 : decode cX3_cellsHeldBy 13 = .ok (.invokevirtual 112, 3) := by decide +kernel
theorem dX3_cellsHeldBy_16 : decode cX3_cellsHeldBy 16 = .ok (.iload_n 3, 1) := by decide +kernel
theorem dX3_cellsHeldBy_17 : decode cX3_cellsHeldBy 17 = .ok (.invokevirtual 372, 3) := by decide +kernel
theorem dX3_cellsHeldBy_20 : decode cX3_cellsHeldBy 20 = .ok (.ifCond .eq 16, 3) := by decide +kernel
theorem dX3_cellsHeldBy_23 : decode cX3_cellsHeldBy 23 = .ok (.aload_n 0, 1) := by decide +kernel
theorem dX3_cellsHeldBy_24 : decode cX3_cellsHeldBy 24 = .ok (.iload_n 3, 1) := by decide +kernel
theorem dX3_cellsHeldBy_25 : decode cX3_cellsHeldBy 25 = .ok (.invokevirtual 189, 3) := by decide +kernel
theorem dX3_cellsHeldBy_28 : decode cX3_cellsHeldBy 28 = .ok (.iload_n 1, 1) := by decide +kernel
theorem dX3_cellsHeldBy_29 : decode cX3_cellsHeldBy 29 = .ok (.if_icmp .ne 7, 3) := by decide +kernel
theorem dX3_cellsHeldBy_32 : decode cX3_cellsHeldBy 32 = .ok (.iconst 1, 1) := by decide +kernel
theorem dX3_cellsHeldBy_33 : decode cX3_cellsHeldBy 33 = .ok (.goto 4, 3) := by decide +kernel
theorem dX3_cellsHeldBy_36 : decode cX3_cellsHeldBy 36 = .ok (.iconst 0, 1) := by decide +kernel
theorem dX3_cellsHeldBy_37 : decode cX3_cellsHeldBy 37 = .ok (.invokestatic 266, 3) := by decide +kernel
theorem dX3_cellsHeldBy_40 : decode cX3_cellsHeldBy 40 = .ok (.iadd, 1) := by decide +kernel
theorem dX3_cellsHeldBy_41 : decode cX3_cellsHeldBy 41 = .ok (.istore_n 2, 1) := by decide +kernel
theorem dX3_cellsHeldBy_42 : decode cX3_cellsHeldBy 42 = .ok (.iinc 3 1, 3) := by decide +kernel
theorem dX3_cellsHeldBy_45 : decode cX3_cellsHeldBy 45 = .ok (.goto (-41), 3) := by decide +kernel
theorem dX3_cellsHeldBy_48 : decode cX3_cellsHeldBy 48 = .ok (.iload_n 2, 1) := by decide +kernel
theorem dX3_cellsHeldBy_49 : decode cX3_cellsHeldBy 49 = .ok (.ireturn, 1) := by decide +kernel
theorem dX3_work_0 : decode cX3_work 0 = .ok (.aload_n 1, 1) := by decide +kernel
theorem dX3_work_1 : decode cX3_work 1 = .ok (.aload_n 0, 1) := by decide +kernel
theorem dX3_work_2 : decode cX3_work 2 = .ok (.getfield 80, 3) := by decide +kernel
theorem dX3_work_5 : decode cX3_work 5 = .ok (.putfield 375, 3) := by decide +kernel
theorem dX3_work_8 : decode cX3_work 8 = .ok (.aload_n 0, 1) := by decide +kernel
theorem dX3_work_9 : decode cX3_work 9 = .ok (.getfield 12, 3) := by decide +kernel
theorem dX3_work_12 : decode cX3_work 12 = .ok (.getfield 172, 3) := by decide +kernel
theorem dX3_work_15 : decode cX3_work 15 = .ok (.iload_n 3, 1) := by decide +kernel
theorem dX3_work_16 : decode cX3_work 16 = .ok (.iconst (-1), 1) := by decide +kernel
theorem dX3_work_17 : decode cX3_work 17 = .ok (.iastore, 1) := by decide +kernel
theorem dX3_work_18 : decode cX3_work 18 = .ok (.aload_n 0, 1) := by decide +kernel
theorem dX3_work_19 : decode cX3_work 19 = .ok (.iload_n 3, 1) := by decide +kernel
theorem dX3_work_20 : decode cX3_work 20 = .ok (.iload_n 2, 1) := by decide +kernel
theorem dX3_work_21 : decode cX3_work 21 = .ok (.iconst (-1), 1) := by decide +kernel
theorem dX3_work_22 : decode cX3_work 22 = .ok (.invokevirtual 194, 3) := by decide +kernel
theorem dX3_work_25 : decode cX3_work 25 = .ok (.ireturn, 1) := by decide +kernel
theorem dX3_uncover_0 : decode cX3_uncover 0 = .ok (.aload_n 0, 1) := by decide +kernel
theorem dX3_uncover_1 : decode cX3_uncover 1 = .ok (.getfield 12, 3) := by decide +kernel
theorem dX3_uncover_4 : decode cX3_uncover 4 = .ok (.getfield 74, 3) := by decide +kernel
theorem dX3_uncover_7 : decode cX3_uncover 7 = .ok (.iload_n 1, 1) := by decide +kernel
theorem dX3_uncover_8 : decode cX3_uncover 8 = .ok (.iaload, 1) := by decide +kernel
theorem dX3_uncover_9 : decode cX3_uncover 9 = .ok (.istore 4, 2) := by decide +kernel
theorem dX3_uncover_11 : decode cX3_uncover 11 = .ok (.aload_n 0, 1) := by decide +kernel
theorem dX3_uncover_12 : decode cX3_uncover 12 = .ok (.getfield 12, 3) := by decide +kernel
theorem dX3_uncover_15 : decode cX3_uncover 15 = .ok (.getfield 74, 3) := by decide +kernel
theorem dX3_uncover_18 : decode cX3_uncover 18 = .ok (.iload_n 1, 1) := by decide +kernel
theorem dX3_uncover_19 : decode cX3_uncover 19 = .ok (.iconst 0, 1) := by decide +kernel
theorem dX3_uncover_20 : decode cX3_uncover 20 = .ok (.iastore, 1) := by decide +kernel
theorem dX3_uncover_21 : decode cX3_uncover 21 = .ok (.aload_n 0, 1) := by decide +kernel
theorem dX3_uncover_22 : decode cX3_uncover 22 = .ok (.getfield 12, 3) := by decide +kernel
theorem dX3_uncover_25 : decode cX3_uncover 25 = .ok (.getfield 59, 3) := by decide +kernel
theorem dX3_uncover_28 : decode cX3_uncover 28 = .ok (.iload_n 1, 1) := by decide +kernel
theorem dX3_uncover_29 : decode cX3_uncover 29 = .ok (.iconst 1, 1) := by decide +kernel
theorem dX3_uncover_30 : decode cX3_uncover 30 = .ok (.iastore, 1) := by decide +kernel
theorem dX3_uncover_31 : decode cX3_uncover 31 = .ok (.iload 4, 2) := by decide +kernel
theorem dX3_uncover_33 : decode cX3_uncover 33 = .ok (.ifCond .le 32, 3) := by decide +kernel
theorem dX3_uncover_36 : decode cX3_uncover 36 = .ok (.aload_n 0, 1) := by decide +kernel
theorem dX3_uncover_37 : decode cX3_uncover 37 = .ok (.getfield 23, 3) := by decide +kernel
theorem dX3_uncover_40 : decode cX3_uncover 40 = .ok (.new 218, 3) := by decide +kernel
theorem dX3_uncover_43 : decode cX3_uncover 43 = .ok (.dup, 1) := by decide +kernel
theorem dX3_uncover_44 : decode cX3_uncover 44 = .ok (.iload_n 1, 1) := by decide +kernel
theorem dX3_uncover_45 : decode cX3_uncover 45 = .ok (.iload 4, 2) := by decide +kernel
theorem dX3_uncover_47 : decode cX3_uncover 47 = .ok (.aload_n 0, 1) := by decide +kernel
theorem dX3_uncover_48 : decode cX3_uncover 48 = .ok (.getfield 12, 3) := by decide +kernel
theorem dX3_uncover_51 : decode cX3_uncover 51 = .ok (.getfield 77, 3) := by decide +kernel
theorem dX3_uncover_54 : decode cX3_uncover 54 = .ok (.iload_n 1, 1) := by decide +kernel
theorem dX3_uncover_55 : decode cX3_uncover 55 = .ok (.iaload, 1) := by decide +kernel
theorem dX3_uncover_56 : decode cX3_uncover 56 = .ok (.iload_n 2, 1) := by decide +kernel
theorem dX3_uncover_57 : decode cX3_uncover 57 = .ok (.iload_n 3, 1) := by decide +kernel
theorem dX3_uncover_58 : decode cX3_uncover 58 = .ok (.invokespecial 378, 3) := by decide +kernel
theorem dX3_uncover_61 : decode cX3_uncover 61 = .ok (.invokevirtual 108, 3) := by decide +kernel
theorem dX3_uncover_64 : decode cX3_uncover 64 = .ok (.pop, 1) := by decide +kernel
theorem dX3_uncover_65 : decode cX3_uncover 65 = .ok (.aload_n 0, 1) := by decide +kernel
theorem dX3_uncover_66 : decode cX3_uncover 66 = .ok (.getfield 12, 3) := by decide +kernel
theorem dX3_uncover_69 : decode cX3_uncover 69 = .ok (.iload_n 1, 1) := by decide +kernel
theorem dX3_uncover_70 : decode cX3_uncover 70 = .ok (.invokevirtual 379, 3) := by decide +kernel
theorem dX3_uncover_73 : decode cX3_uncover 73 = .ok (.iload 4, 2) := by decide +kernel
theorem dX3_uncover_75 : decode cX3_uncover 75 = .ok (.ireturn, 1) := by decide +kernel
theorem dX3_stonesInParcel_0 : decode cX3_stonesInParcel 0 = .ok (.iconst 0, 1) := by decide +kernel
theorem dX3_stonesInParcel_1 : decode cX3_stonesInParcel 1 = .ok (.istore_n 2, 1) := by decide +kernel
theorem dX3_stonesInParcel_2 : decode cX3_stonesInParcel 2 = .ok (.iconst 0, 1) := by decide +kernel
theorem dX3_stonesInParcel_3 : decode cX3_stonesInParcel 3 = .ok (.istore_n 3, 1) := by decide +kernel
theorem dX3_stonesInParcel_4 : decode cX3_stonesInParcel 4 = .ok (.iload_n 3, 1) := by decide +kernel
theorem dX3_stonesInParcel_5 : decode cX3_stonesInParcel 5 = .ok (.aload_n 0, 1) := by decide +kernel
theorem dX3_stonesInParcel_6 : decode cX3_stonesInParcel 6 = .ok (.getfield 23, 3) := by decide +kernel
theorem dX3_stonesInParcel_9 : decode cX3_stonesInParcel 9 = .ok (.invokevirtual 94, 3) := by decide +kernel
theorem dX3_stonesInParcel_12 : decode cX3_stonesInParcel 12 = .ok (.if_icmp .ge 30, 3) := by decide +kernel
theorem dX3_stonesInParcel_15 : decode cX3_stonesInParcel 15 = .ok (.iload_n 2, 1) := by decide +kernel
theorem dX3_stonesInParcel_16 : decode cX3_stonesInParcel 16 = .ok (.aload_n 0, 1) := by decide +kernel
theorem dX3_stonesInParcel_17 : decode cX3_stonesInParcel 17 = .ok (.getfield 23, 3) := by decide +kernel
theorem dX3_stonesInParcel_20 : decode cX3_stonesInParcel 20 = .ok (.iload_n 3, 1) := by decide +kernel
theorem dX3_stonesInParcel_21 : decode cX3_stonesInParcel 21 = .ok (.invokevirtual 350, 3) := by decide +kernel
theorem dX3_stonesInParcel_24 : decode cX3_stonesInParcel 24 = .ok (.checkcast 218, 3) := by decide +kernel
theorem dX3_stonesInParcel_27 : decode cX3_stonesInParcel 27 = .ok (.iload_n 1, 1) := by decide +kernel
theorem dX3_stonesInParcel_28 : decode cX3_stonesInParcel 28 = .ok (.invokevirtual 382, 3) := by decide +kernel
theorem dX3_stonesInParcel_31 : decode cX3_stonesInParcel 31 = .ok (.invokestatic 266, 3) := by decide +kernel
theorem dX3_stonesInParcel_34 : decode cX3_stonesInParcel 34 = .ok (.iadd, 1) := by decide +kernel
theorem dX3_stonesInParcel_35 : decode cX3_stonesInParcel 35 = .ok (.istore_n 2, 1) := by decide +kernel
theorem dX3_stonesInParcel_36 : decode cX3_stonesInParcel 36 = .ok (.iinc 3 1, 3) := by decide +kernel
theorem dX3_stonesInParcel_39 : decode cX3_stonesInParcel 39 = .ok (.goto (-35), 3) := by decide +kernel
theorem dX3_stonesInParcel_42 : decode cX3_stonesInParcel 42 = .ok (.iload_n 2, 1) := by decide +kernel
theorem dX3_stonesInParcel_43 : decode cX3_stonesInParcel 43 = .ok (.ireturn, 1) := by decide +kernel
theorem dX3_caratsInParcel_0 : decode cX3_caratsInParcel 0 = .ok (.iconst 0, 1) := by decide +kernel
theorem dX3_caratsInParcel_1 : decode cX3_caratsInParcel 1 = .ok (.istore_n 2, 1) := by decide +kernel
theorem dX3_caratsInParcel_2 : decode cX3_caratsInParcel 2 = .ok (.iconst 0, 1) := by decide +kernel
theorem dX3_caratsInParcel_3 : decode cX3_caratsInParcel 3 = .ok (.istore_n 3, 1) := by decide +kernel
theorem dX3_caratsInParcel_4 : decode cX3_caratsInParcel 4 = .ok (.iload_n 3, 1) := by decide +kernel
theorem dX3_caratsInParcel_5 : decode cX3_caratsInParcel 5 = .ok (.aload_n 0, 1) := by decide +kernel
theorem dX3_caratsInParcel_6 : decode cX3_caratsInParcel 6 = .ok (.getfield 23, 3) := by decide +kernel
theorem dX3_caratsInParcel_9 : decode cX3_caratsInParcel 9 = .ok (.invokevirtual 94, 3) := by decide +kernel
theorem dX3_caratsInParcel_12 : decode cX3_caratsInParcel 12 = .ok (.if_icmp .ge 43, 3) := by decide +kernel
theorem dX3_caratsInParcel_15 : decode cX3_caratsInParcel 15 = .ok (.aload_n 0, 1) := by decide +kernel
theorem dX3_caratsInParcel_16 : decode cX3_caratsInParcel 16 = .ok (.getfield 23, 3) := by decide +kernel
theorem dX3_caratsInParcel_19 : decode cX3_caratsInParcel 19 = .ok (.iload_n 3, 1) := by decide +kernel
theorem dX3_caratsInParcel_20 : decode cX3_caratsInParcel 20 = .ok (.invokevirtual 350, 3) := by decide +kernel
theorem dX3_caratsInParcel_23 : decode cX3_caratsInParcel 23 = .ok (.checkcast 218, 3) := by decide +kernel
theorem dX3_caratsInParcel_26 : decode cX3_caratsInParcel 26 = .ok (.astore 4, 2) := by decide +kernel
theorem dX3_caratsInParcel_28 : decode cX3_caratsInParcel 28 = .ok (.iload_n 2, 1) := by decide +kernel
theorem dX3_caratsInParcel_29 : decode cX3_caratsInParcel 29 = .ok (.aload 4, 2) := by decide +kernel
theorem dX3_caratsInParcel_31 : decode cX3_caratsInParcel 31 = .ok (.iload_n 1, 1) := by decide +kernel
theorem dX3_caratsInParcel_32 : decode cX3_caratsInParcel 32 = .ok (.invokevirtual 382, 3) := by decide +kernel
theorem dX3_caratsInParcel_35 : decode cX3_caratsInParcel 35 = .ok (.ifCond .eq 11, 3) := by decide +kernel
theorem dX3_caratsInParcel_38 : decode cX3_caratsInParcel 38 = .ok (.aload 4, 2) := by decide +kernel
theorem dX3_caratsInParcel_40 : decode cX3_caratsInParcel 40 = .ok (.getfield 222, 3) := by decide +kernel
theorem dX3_caratsInParcel_43 : decode cX3_caratsInParcel 43 = .ok (.goto 4, 3) := by decide +kernel
theorem dX3_caratsInParcel_46 : decode cX3_caratsInParcel 46 = .ok (.iconst 0, 1) := by decide +kernel
theorem dX3_caratsInParcel_47 : decode cX3_caratsInParcel 47 = .ok (.iadd, 1) := by decide +kernel
theorem dX3_caratsInParcel_48 : decode cX3_caratsInParcel 48 = .ok (.istore_n 2, 1) := by decide +kernel
theorem dX3_caratsInParcel_49 : decode cX3_caratsInParcel 49 = .ok (.iinc 3 1, 3) := by decide +kernel
theorem dX3_caratsInParcel_52 : decode cX3_caratsInParcel 52 = .ok (.goto (-48), 3) := by decide +kernel
theorem dX3_caratsInParcel_55 : decode cX3_caratsInParcel 55 = .ok (.iload_n 2, 1) := by decide +kernel
theorem dX3_caratsInParcel_56 : decode cX3_caratsInParcel 56 = .ok (.ireturn, 1) := by decide +kernel
theorem dX3_heaviestInParcel_0 : decode cX3_heaviestInParcel 0 = .ok (.iconst (-1), 1) := by decide +kernel
theorem dX3_heaviestInParcel_1 : decode cX3_heaviestInParcel 1 = .ok (.istore_n 2, 1) := by decide +kernel
theorem dX3_heaviestInParcel_2 : decode cX3_heaviestInParcel 2 = .ok (.iconst 0, 1) := by decide +kernel
theorem dX3_heaviestInParcel_3 : decode cX3_heaviestInParcel 3 = .ok (.istore_n 3, 1) := by decide +kernel
theorem dX3_heaviestInParcel_4 : decode cX3_heaviestInParcel 4 = .ok (.iconst 0, 1) := by decide +kernel
theorem dX3_heaviestInParcel_5 : decode cX3_heaviestInParcel 5 = .ok (.istore 4, 2) := by decide +kernel
theorem dX3_heaviestInParcel_7 : decode cX3_heaviestInParcel 7 = .ok (.iload 4, 2) := by decide +kernel
theorem dX3_heaviestInParcel_9 : decode cX3_heaviestInParcel 9 = .ok (.aload_n 0, 1) := by decide +kernel
theorem dX3_heaviestInParcel_10 : decode cX3_heaviestInParcel 10 = .ok (.getfield 23, 3) := by decide +kernel
theorem dX3_heaviestInParcel_13 : decode cX3_heaviestInParcel 13 = .ok (.invokevirtual 94, 3) := by decide +kernel
theorem dX3_heaviestInParcel_16 : decode cX3_heaviestInParcel 16 = .ok (.if_icmp .ge 50, 3) := by decide +kernel
theorem dX3_heaviestInParcel_19 : decode cX3_heaviestInParcel 19 = .ok (.aload_n 0, 1) := by decide +kernel
theorem dX3_heaviestInParcel_20 : decode cX3_heaviestInParcel 20 = .ok (.getfield 23, 3) := by decide +kernel
theorem dX3_heaviestInParcel_23 : decode cX3_heaviestInParcel 23 = .ok (.iload 4, 2) := by decide +kernel
theorem dX3_heaviestInParcel_25 : decode cX3_heaviestInParcel 25 = .ok (.invokevirtual 350, 3) := by decide +kernel
theorem dX3_heaviestInParcel_28 : decode cX3_heaviestInParcel 28 = .ok (.checkcast 218, 3) := by decide +kernel
theorem dX3_heaviestInParcel_31 : decode cX3_heaviestInParcel 31 = .ok (.astore 5, 2) := by decide +kernel
theorem dX3_heaviestInParcel_33 : decode cX3_heaviestInParcel 33 = .ok (.aload 5, 2) := by decide +kernel
theorem dX3_heaviestInParcel_35 : decode cX3_heaviestInParcel 35 = .ok (.iload_n 1, 1) := by decide +kernel
theorem dX3_heaviestInParcel_36 : decode cX3_heaviestInParcel 36 = .ok (.invokevirtual 382, 3) := by decide +kernel
theorem dX3_heaviestInParcel_39 : decode cX3_heaviestInParcel 39 = .ok (.ifCond .eq 21, 3) := by decide +kernel
theorem dX3_heaviestInParcel_42 : decode cX3_heaviestInParcel 42 = .ok (.aload 5, 2) := by decide +kernel
theorem dX3_heaviestInParcel_44 : decode cX3_heaviestInParcel 44 = .ok (.getfield 222, 3) := by decide +kernel
theorem dX3_heaviestInParcel_47 : decode cX3_heaviestInParcel 47 = .ok (.iload_n 3, 1) := by decide +kernel
theorem dX3_heaviestInParcel_48 : decode cX3_heaviestInParcel 48 = .ok (.if_icmp .le 12, 3) := by decide +kernel
theorem dX3_heaviestInParcel_51 : decode cX3_heaviestInParcel 51 = .ok (.iload 4, 2) := by decide +kernel
theorem dX3_heaviestInParcel_53 : decode cX3_heaviestInParcel 53 = .ok (.istore_n 2, 1) := by decide +kernel
theorem dX3_heaviestInParcel_54 : decode cX3_heaviestInParcel 54 = .ok (.aload 5, 2) := by decide +kernel
theorem dX3_heaviestInParcel_56 : decode cX3_heaviestInParcel 56 = .ok (.getfield 222, 3) := by decide +kernel
theorem dX3_heaviestInParcel_59 : decode cX3_heaviestInParcel 59 = .ok (.istore_n 3, 1) := by decide +kernel
theorem dX3_heaviestInParcel_60 : decode cX3_heaviestInParcel 60 = .ok (.iinc 4 1, 3) := by decide +kernel
theorem dX3_heaviestInParcel_63 : decode cX3_heaviestInParcel 63 = .ok (.goto (-56), 3) := by decide +kernel
theorem dX3_heaviestInParcel_66 : decode cX3_heaviestInParcel 66 = .ok (.iload_n 2, 1) := by decide +kernel
theorem dX3_heaviestInParcel_67 : decode cX3_heaviestInParcel 67 = .ok (.ireturn, 1) := by decide +kernel
theorem dX3_stonesOfPerson_0 : decode cX3_stonesOfPerson 0 = .ok (.iconst 0, 1) := by decide +kernel
theorem dX3_stonesOfPerson_1 : decode cX3_stonesOfPerson 1 = .ok (.istore_n 2, 1) := by decide +kernel
theorem dX3_stonesOfPerson_2 : decode cX3_stonesOfPerson 2 = .ok (.iconst 0, 1) := by decide +kernel
theorem dX3_stonesOfPerson_3 : decode cX3_stonesOfPerson 3 = .ok (.istore_n 3, 1) := by decide +kernel
theorem dX3_stonesOfPerson_4 : decode cX3_stonesOfPerson 4 = .ok (.iload_n 3, 1) := by decide +kernel
theorem dX3_stonesOfPerson_5 : decode cX3_stonesOfPerson 5 = .ok (.aload_n 0, 1) := by decide +kernel
theorem dX3_stonesOfPerson_6 : decode cX3_stonesOfPerson 6 = .ok (.getfield 23, 3) := by decide +kernel
theorem dX3_stonesOfPerson_9 : decode cX3_stonesOfPerson 9 = .ok (.invokevirtual 94, 3) := by decide +kernel
theorem dX3_stonesOfPerson_12 : decode cX3_stonesOfPerson 12 = .ok (.if_icmp .ge 51, 3) := by decide +kernel
theorem dX3_stonesOfPerson_15 : decode cX3_stonesOfPerson 15 = .ok (.aload_n 0, 1) := by decide +kernel
theorem dX3_stonesOfPerson_16 : decode cX3_stonesOfPerson 16 = .ok (.getfield 23, 3) := by decide +kernel
theorem dX3_stonesOfPerson_19 : decode cX3_stonesOfPerson 19 = .ok (.iload_n 3, 1) := by decide +kernel
theorem dX3_stonesOfPerson_20 : decode cX3_stonesOfPerson 20 = .ok (.invokevirtual 350, 3) := by decide +kernel
theorem dX3_stonesOfPerson_23 : decode cX3_stonesOfPerson 23 = .ok (.checkcast 218, 3) := by decide +kernel
theorem dX3_stonesOfPerson_26 : decode cX3_stonesOfPerson 26 = .ok (.astore 4, 2) := by decide +kernel
theorem dX3_stonesOfPerson_28 : decode cX3_stonesOfPerson 28 = .ok (.iload_n 2, 1) := by decide +kernel
theorem dX3_stonesOfPerson_29 : decode cX3_stonesOfPerson 29 = .ok (.aload 4, 2) := by decide +kernel
theorem dX3_stonesOfPerson_31 : decode cX3_stonesOfPerson 31 = .ok (.invokevirtual 364, 3) := by decide +kernel
theorem dX3_stonesOfPerson_34 : decode cX3_stonesOfPerson 34 = .ok (.iconst 1, 1) := by decide +kernel
theorem dX3_stonesOfPerson_35 : decode cX3_stonesOfPerson 35 = .ok (.if_icmp .ne 16, 3) := by decide +kernel
theorem dX3_stonesOfPerson_38 : decode cX3_stonesOfPerson 38 = .ok (.aload 4, 2) := by decide +kernel
theorem dX3_stonesOfPerson_40 : decode cX3_stonesOfPerson 40 = .ok (.getfield 217, 3) := by decide +kernel
theorem dX3_stonesOfPerson_43 : decode cX3_stonesOfPerson 43 = .ok (.iload_n 1, 1) := by decide +kernel
theorem dX3_stonesOfPerson_44 : decode cX3_stonesOfPerson 44 = .ok (.if_icmp .ne 7, 3) := by decide +kernel
theorem dX3_stonesOfPerson_47 : decode cX3_stonesOfPerson 47 = .ok (.iconst 1, 1) := by decide +kernel
theorem dX3_stonesOfPerson_48 : decode cX3_stonesOfPerson 48 = .ok (.goto 4, 3) := by decide +kernel
theorem dX3_stonesOfPerson_51 : decode cX3_stonesOfPerson 51 = .ok (.iconst 0, 1) := by decide +kernel
theorem dX3_stonesOfPerson_52 : decode cX3_stonesOfPerson 52 = .ok (.invokestatic 266, 3) := by decide +kernel
theorem dX3_stonesOfPerson_55 : decode cX3_stonesOfPerson 55 = .ok (.iadd, 1) := by decide +kernel
theorem dX3_stonesOfPerson_56 : decode cX3_stonesOfPerson 56 = .ok (.istore_n 2, 1) := by decide +kernel
theorem dX3_stonesOfPerson_57 : decode cX3_stonesOfPerson 57 = .ok (.iinc 3 1, 3) := by decide +kernel
theorem dX3_stonesOfPerson_60 : decode cX3_stonesOfPerson 60 = .ok (.goto (-56), 3) := by decide +kernel
theorem dX3_stonesOfPerson_63 : decode cX3_stonesOfPerson 63 = .ok (.iload_n 2, 1) := by decide +kernel
theorem dX3_stonesOfPerson_64 : decode cX3_stonesOfPerson 64 = .ok (.ireturn, 1) := by decide +kernel
theorem dX3_caratsOfStones_0 : decode cX3_caratsOfStones 0 = .ok (.iconst 0, 1) := by decide +kernel
theorem dX3_caratsOfStones_1 : decode cX3_caratsOfStones 1 = .ok (.istore_n 2, 1) := by decide +kernel
theorem dX3_caratsOfStones_2 : decode cX3_caratsOfStones 2 = .ok (.iconst 0, 1) := by decide +kernel
theorem dX3_caratsOfStones_3 : decode cX3_caratsOfStones 3 = .ok (.istore_n 3, 1) := by decide +kernel
theorem dX3_caratsOfStones_4 : decode cX3_caratsOfStones 4 = .ok (.iload_n 3, 1) := by decide +kernel
theorem dX3_caratsOfStones_5 : decode cX3_caratsOfStones 5 = .ok (.aload_n 0, 1) := by decide +kernel
theorem dX3_caratsOfStones_6 : decode cX3_caratsOfStones 6 = .ok (.getfield 23, 3) := by decide +kernel
theorem dX3_caratsOfStones_9 : decode cX3_caratsOfStones 9 = .ok (.invokevirtual 94, 3) := by decide +kernel
theorem dX3_caratsOfStones_12 : decode cX3_caratsOfStones 12 = .ok (.if_icmp .ge 43, 3) := by decide +kernel
theorem dX3_caratsOfStones_15 : decode cX3_caratsOfStones 15 = .ok (.aload_n 0, 1) := by decide +kernel
theorem dX3_caratsOfStones_16 : decode cX3_caratsOfStones 16 = .ok (.getfield 23, 3) := by decide +kernel
theorem dX3_caratsOfStones_19 : decode cX3_caratsOfStones 19 = .ok (.iload_n 3, 1) := by decide +kernel
theorem dX3_caratsOfStones_20 : decode cX3_caratsOfStones 20 = .ok (.invokevirtual 350, 3) := by decide +kernel
theorem dX3_caratsOfStones_23 : decode cX3_caratsOfStones 23 = .ok (.checkcast 218, 3) := by decide +kernel
theorem dX3_caratsOfStones_26 : decode cX3_caratsOfStones 26 = .ok (.astore 4, 2) := by decide +kernel
theorem dX3_caratsOfStones_28 : decode cX3_caratsOfStones 28 = .ok (.iload_n 2, 1) := by decide +kernel
theorem dX3_caratsOfStones_29 : decode cX3_caratsOfStones 29 = .ok (.aload 4, 2) := by decide +kernel
theorem dX3_caratsOfStones_31 : decode cX3_caratsOfStones 31 = .ok (.invokevirtual 364, 3) := by decide +kernel
theorem dX3_caratsOfStones_34 : decode cX3_caratsOfStones 34 = .ok (.iload_n 1, 1) := by decide +kernel
theorem dX3_caratsOfStones_35 : decode cX3_caratsOfStones 35 = .ok (.if_icmp .ne 11, 3) := by decide +kernel
theorem dX3_caratsOfStones_38 : decode cX3_caratsOfStones 38 = .ok (.aload 4, 2) := by decide +kernel
theorem dX3_caratsOfStones_40 : decode cX3_caratsOfStones 40 = .ok (.getfield 222, 3) := by decide +kernel
theorem dX3_caratsOfStones_43 : decode cX3_caratsOfStones 43 = .ok (.goto 4, 3) := by decide +kernel
theorem dX3_caratsOfStones_46 : decode cX3_caratsOfStones 46 = .ok (.iconst 0, 1) := by decide +kernel
theorem dX3_caratsOfStones_47 : decode cX3_caratsOfStones 47 = .ok (.iadd, 1) := by decide +kernel
theorem dX3_caratsOfStones_48 : decode cX3_caratsOfStones 48 = .ok (.istore_n 2, 1) := by decide +kernel
theorem dX3_caratsOfStones_49 : decode cX3_caratsOfStones 49 = .ok (.iinc 3 1, 3) := by decide +kernel
theorem dX3_caratsOfStones_52 : decode cX3_caratsOfStones 52 = .ok (.goto (-48), 3) := by decide +kernel
theorem dX3_caratsOfStones_55 : decode cX3_caratsOfStones 55 = .ok (.iload_n 2, 1) := by decide +kernel
theorem dX3_caratsOfStones_56 : decode cX3_caratsOfStones 56 = .ok (.ireturn, 1) := by decide +kernel
theorem dX3_caratsLost_0 : decode cX3_caratsLost 0 = .ok (.iconst 0, 1) := by decide +kernel
theorem dX3_caratsLost_1 : decode cX3_caratsLost 1 = .ok (.istore_n 1, 1) := by decide +kernel
theorem dX3_caratsLost_2 : decode cX3_caratsLost 2 = .ok (.iconst 0, 1) := by decide +kernel
theorem dX3_caratsLost_3 : decode cX3_caratsLost 3 = .ok (.istore_n 2, 1) := by decide +kernel
theorem dX3_caratsLost_4 : decode cX3_caratsLost 4 = .ok (.iload_n 2, 1) := by decide +kernel
theorem dX3_caratsLost_5 : decode cX3_caratsLost 5 = .ok (.aload_n 0, 1) := by decide +kernel
theorem dX3_caratsLost_6 : decode cX3_caratsLost 6 = .ok (.getfield 23, 3) := by decide +kernel
theorem dX3_caratsLost_9 : decode cX3_caratsLost 9 = .ok (.invokevirtual 94, 3) := by decide +kernel
theorem dX3_caratsLost_12 : decode cX3_caratsLost 12 = .ok (.if_icmp .ge 26, 3) := by decide +kernel
theorem dX3_caratsLost_15 : decode cX3_caratsLost 15 = .ok (.iload_n 1, 1) := by decide +kernel
theorem dX3_caratsLost_16 : decode cX3_caratsLost 16 = .ok (.aload_n 0, 1) := by decide +kernel
theorem dX3_caratsLost_17 : decode cX3_caratsLost 17 = .ok (.getfield 23, 3) := by decide +kernel
theorem dX3_caratsLost_20 : decode cX3_caratsLost 20 = .ok (.iload_n 2, 1) := by decide +kernel
theorem dX3_caratsLost_21 : decode cX3_caratsLost 21 = .ok (.invokevirtual 350, 3) := by decide +kernel
theorem dX3_caratsLost_24 : decode cX3_caratsLost 24 = .ok (.checkcast 218, 3) := by decide +kernel
theorem dX3_caratsLost_27 : decode cX3_caratsLost 27 = .ok (.getfield 233, 3) := by decide +kernel
theorem dX3_caratsLost_30 : decode cX3_caratsLost 30 = .ok (.iadd, 1) := by decide +kernel
theorem dX3_caratsLost_31 : decode cX3_caratsLost 31 = .ok (.istore_n 1, 1) := by decide +kernel
theorem dX3_caratsLost_32 : decode cX3_caratsLost 32 = .ok (.iinc 2 1, 3) := by decide +kernel
theorem dX3_caratsLost_35 : decode cX3_caratsLost 35 = .ok (.goto (-31), 3) := by decide +kernel
theorem dX3_caratsLost_38 : decode cX3_caratsLost 38 = .ok (.iload_n 1, 1) := by decide +kernel
theorem dX3_caratsLost_39 : decode cX3_caratsLost 39 = .ok (.ireturn, 1) := by decide +kernel
theorem dX3_listDiggable_0 : decode cX3_listDiggable 0 = .ok (.iconst 0, 1) := by decide +kernel
theorem dX3_listDiggable_1 : decode cX3_listDiggable 1 = .ok (.istore_n 2, 1) := by decide +kernel
theorem dX3_listDiggable_2 : decode cX3_listDiggable 2 = .ok (.iconst 0, 1) := by decide +kernel
theorem dX3_listDiggable_3 : decode cX3_listDiggable 3 = .ok (.istore_n 3, 1) := by decide +kernel
theorem dX3_listDiggable_4 : decode cX3_listDiggable 4 = .ok (.iload_n 3, 1) := by decide +kernel
theorem dX3_listDiggable_5 : decode cX3_listDiggable 5 = .ok (.bipush 100, 2) := by decide +kernel
theorem dX3_listDiggable_7 : decode cX3_listDiggable 7 = .ok (.if_icmp .ge 60, 3) := by decide +kernel
theorem dX3_listDiggable_10 : decode cX3_listDiggable 10 = .ok (.iload_n 2, 1) := by decide +kernel
theorem dX3_listDiggable_11 : decode cX3_listDiggable 11 = .ok (.aload_n 0, 1) := by decide +kernel
theorem dX3_listDiggable_12 : decode cX3_listDiggable 12 = .ok (.getfield 48, 3) := by decide +kernel
theorem dX3_listDiggable_15 : decode cX3_listDiggable 15 = .ok (.arraylength, 1) := by decide +kernel
theorem dX3_listDiggable_16 : decode cX3_listDiggable 16 = .ok (.if_icmp .ge 51, 3) := by decide +kernel
theorem dX3_listDiggable_19 : decode cX3_listDiggable 19 = .ok (.aload_n 0, 1) := by decide +kernel
theorem dX3_listDiggable_20 : decode cX3_listDiggable 20 = .ok (.iload_n 1, 1) := by decide +kernel
theorem dX3_listDiggable_21 : decode cX3_listDiggable 21 = .ok (.invokevirtual 112, 3) := by decide +kernel
theorem dX3_listDiggable_24 : decode cX3_listDiggable 24 = .ok (.iload_n 3, 1) := by decide +kernel
theorem dX3_listDiggable_25 : decode cX3_listDiggable 25 = .ok (.invokevirtual 372, 3) := by decide +kernel
theorem dX3_listDiggable_28 : decode cX3_listDiggable 28 = .ok (.ifCond .eq 33, 3) := by decide +kernel
theorem dX3_listDiggable_31 : decode cX3_listDiggable 31 = .ok (.aload_n 0, 1) := by decide +kernel
theorem dX3_listDiggable_32 : decode cX3_listDiggable 32 = .ok (.getfield 12, 3) := by decide +kernel
theorem dX3_listDiggable_35 : decode cX3_listDiggable 35 = .ok (.iload_n 3, 1) := by decide +kernel
theorem dX3_listDiggable_36 : decode cX3_listDiggable 36 = .ok (.invokevirtual 154, 3) := by decide +kernel
theorem dX3_listDiggable_39 : decode cX3_listDiggable 39 = .ok (.ifCond .ne 22, 3) := by decide +kernel
theorem dX3_listDiggable_42 : decode cX3_listDiggable 42 = .ok (.aload_n 0, 1) := by decide +kernel
theorem dX3_listDiggable_43 : decode cX3_listDiggable 43 = .ok (.iload_n 3, 1) := by decide +kernel
theorem dX3_listDiggable_44 : decode cX3_listDiggable 44 = .ok (.invokevirtual 189, 3) := by decide +kernel
theorem dX3_listDiggable_47 : decode cX3_listDiggable 47 = .ok (.iload_n 1, 1) := by decide +kernel
theorem dX3_listDiggable_48 : decode cX3_listDiggable 48 = .ok (.if_icmp .ne 13, 3) := by decide +kernel
theorem dX3_listDiggable_51 : decode cX3_listDiggable 51 = .ok (.aload_n 0, 1) := by decide +kernel
theorem dX3_listDiggable_52 : decode cX3_listDiggable 52 = .ok (.getfield 48, 3) := by decide +kernel
theorem dX3_listDiggable_55 : decode cX3_listDiggable 55 = .ok (.iload_n 2, 1) := by decide +kernel
theorem dX3_listDiggable_56 : decode cX3_listDiggable 56 = .ok (.iload_n 3, 1) := by decide +kernel
theorem dX3_listDiggable_57 : decode cX3_listDiggable 57 = .ok (.iastore, 1) := by decide +kernel
theorem dX3_listDiggable_58 : decode cX3_listDiggable 58 = .ok (.iinc 2 1, 3) := by decide +kernel
theorem dX3_listDiggable_61 : decode cX3_listDiggable 61 = .ok (.iinc 3 1, 3) := by decide +kernel
theorem dX3_listDiggable_64 : decode cX3_listDiggable 64 = .ok (.goto (-60), 3) := by decide +kernel
theorem dX3_listDiggable_67 : decode cX3_listDiggable 67 = .ok (.iload_n 2, 1) := by decide +kernel
theorem dX3_listDiggable_68 : decode cX3_listDiggable 68 = .ok (.ireturn, 1) := by decide +kernel
theorem dX3_mostBySets_0 : decode cX3_mostBySets 0 = .ok (.iload_n 3, 1) := by decide +kernel
theorem dX3_mostBySets_1 : decode cX3_mostBySets 1 = .ok (.ifCond .gt 5, 3) := by decide +kernel
theorem dX3_mostBySets_4 : decode cX3_mostBySets 4 = .ok (.iconst 0, 1) := by decide +kernel
theorem dX3_mostBySets_5 : decode cX3_mostBySets 5 = .ok (.ireturn, 1) := by decide +kernel
theorem dX3_mostBySets_6 : decode cX3_mostBySets 6 = .ok (.iconst 0, 1) := by decide +kernel
theorem dX3_mostBySets_7 : decode cX3_mostBySets 7 = .ok (.istore 5, 2) := by decide +kernel
theorem dX3_mostBySets_9 : decode cX3_mostBySets 9 = .ok (.iconst 0, 1) := by decide +kernel
theorem dX3_mostBySets_10 : decode cX3_mostBySets 10 = .ok (.istore 6, 2) := by decide +kernel
theorem dX3_mostBySets_12 : decode cX3_mostBySets 12 = .ok (.iload 6, 2) := by decide +kernel
theorem dX3_mostBySets_14 : decode cX3_mostBySets 14 = .ok (.iload_n 2, 1) := by decide +kernel
theorem dX3_mostBySets_15 : decode cX3_mostBySets 15 = .ok (.if_icmp .ge 97, 3) := by decide +kernel
theorem dX3_mostBySets_18 : decode cX3_mostBySets 18 = .ok (.iload 6, 2) := by decide +kernel
theorem dX3_mostBySets_20 : decode cX3_mostBySets 20 = .ok (.aload_n 1, 1) := by decide +kernel
theorem dX3_mostBySets_21 : decode cX3_mostBySets 21 = .ok (.arraylength, 1) := by decide +kernel
theorem dX3_mostBySets_22 : decode cX3_mostBySets 22 = .ok (.if_icmp .ge 90, 3) := by decide +kernel
theorem dX3_mostBySets_25 : decode cX3_mostBySets 25 = .ok (.aload_n 1, 1) := by decide +kernel
theorem dX3_mostBySets_26 : decode cX3_mostBySets 26 = .ok (.iload 6, 2) := by decide +kernel
theorem dX3_mostBySets_28 : decode cX3_mostBySets 28 = .ok (.iaload, 1) := by decide +kernel
theorem dX3_mostBySets_29 : decode cX3_mostBySets 29 = .ok (.istore 7, 2) := by decide +kernel
theorem dX3_mostBySets_31 : decode cX3_mostBySets 31 = .ok (.iload 4, 2) := by decide +kernel
theorem dX3_mostBySets_33 : decode cX3_mostBySets 33 = .ok (.iload 6, 2) := by decide +kernel
theorem dX3_mostBySets_35 : decode cX3_mostBySets 35 = .ok (.ishr, 1) := by decide +kernel
theorem dX3_mostBySets_36 : decode cX3_mostBySets 36 = .ok (.iconst 1, 1) := by decide +kernel
theorem dX3_mostBySets_37 : decode cX3_mostBySets 37 = .ok (.iand, 1) := by decide +kernel
theorem dX3_mostBySets_38 : decode cX3_mostBySets 38 = .ok (.ifCond .ne 68, 3) := by decide +kernel
theorem dX3_mostBySets_41 : decode cX3_mostBySets 41 = .ok (.aload_n 0, 1) := by decide +kernel
theorem dX3_mostBySets_42 : decode cX3_mostBySets 42 = .ok (.iload 7, 2) := by decide +kernel
theorem dX3_mostBySets_44 : decode cX3_mostBySets 44 = .ok (.invokevirtual 385, 3) := by decide +kernel
theorem dX3_mostBySets_47 : decode cX3_mostBySets 47 = .ok (.ifCond .eq 59, 3) := by decide +kernel
theorem dX3_mostBySets_50 : decode cX3_mostBySets 50 = .ok (.iload 4, 2) := by decide +kernel
theorem dX3_mostBySets_52 : decode cX3_mostBySets 52 = .ok (.iconst 1, 1) := by decide +kernel
theorem dX3_mostBySets_53 : decode cX3_mostBySets 53 = .ok (.iload 6, 2) := by decide +kernel
theorem dX3_mostBySets_55 : decode cX3_mostBySets 55 = .ok (.ishl, 1) := by decide +kernel
theorem dX3_mostBySets_56 : decode cX3_mostBySets 56 = .ok (.ior, 1) := by decide +kernel
theorem dX3_mostBySets_57 : decode cX3_mostBySets 57 = .ok (.istore 4, 2) := by decide +kernel
theorem dX3_mostBySets_59 : decode cX3_mostBySets 59 = .ok (.aload_n 0, 1) := by decide +kernel
theorem dX3_mostBySets_60 : decode cX3_mostBySets 60 = .ok (.iload 7, 2) := by decide +kernel
theorem dX3_mostBySets_62 : decode cX3_mostBySets 62 = .ok (.invokevirtual 388, 3) := by decide +kernel
theorem dX3_mostBySets_65 : decode cX3_mostBySets 65 = .ok (.istore 8, 2) := by decide +kernel
theorem dX3_mostBySets_67 : decode cX3_mostBySets 67 = .ok (.aload_n 0, 1) := by decide +kernel
theorem dX3_mostBySets_68 : decode cX3_mostBySets 68 = .ok (.getfield 74, 3) := by decide +kernel
theorem dX3_mostBySets_71 : decode cX3_mostBySets 71 = .ok (.iload 7, 2) := by decide +kernel
theorem dX3_mostBySets_73 : decode cX3_mostBySets 73 = .ok (.iaload, 1) := by decide +kernel
theorem dX3_mostBySets_74 : decode cX3_mostBySets 74 = .ok (.aload_n 0, 1) := by decide +kernel
theorem dX3_mostBySets_75 : decode cX3_mostBySets 75 = .ok (.aload_n 1, 1) := by decide +kernel
theorem dX3_mostBySets_76 : decode cX3_mostBySets 76 = .ok (.iload_n 2, 1) := by decide +kernel
theorem dX3_mostBySets_77 : decode cX3_mostBySets 77 = .ok (.iload_n 3, 1) := by decide +kernel
theorem dX3_mostBySets_78 : decode cX3_mostBySets 78 = .ok (.iconst 1, 1) := by decide +kernel
theorem dX3_mostBySets_79 : decode cX3_mostBySets 79 = .ok (.isub, 1) := by decide +kernel
theorem dX3_mostBySets_80 : decode cX3_mostBySets 80 = .ok (.iload 4, 2) := by decide +kernel
theorem dX3_mostBySets_82 : decode cX3_mostBySets 82 = .ok (.invokestatic 328, 3) := by decide +kernel
theorem dX3_mostBySets_85 : decode cX3_mostBySets 85 = .ok (.iadd, 1) := by decide +kernel
theorem dX3_mostBySets_86 : decode cX3_mostBySets 86 = .ok (.istore 9, 2) := by decide +kernel
theorem dX3_mostBySets_88 : decode cX3_mostBySets 88 = .ok (.aload_n 0, 1) := by decide +kernel
theorem dX3_mostBySets_89 : decode cX3_mostBySets 89 = .ok (.getfield 59, 3) := by decide +kernel
theorem dX3_mostBySets_92 : decode cX3_mostBySets 92 = .ok (.iload 7, 2) := by decide +kernel
theorem dX3_mostBySets_94 : decode cX3_mostBySets 94 = .ok (.iload 8, 2) := by decide +kernel
theorem dX3_mostBySets_96 : decode cX3_mostBySets 96 = .ok (.iastore, 1) := by decide +kernel
theorem dX3_mostBySets_97 : decode cX3_mostBySets 97 = .ok (.iload 5, 2) := by decide +kernel
theorem dX3_mostBySets_99 : decode cX3_mostBySets 99 = .ok (.iload 9, 2) := by decide +kernel
theorem dX3_mostBySets_101 : decode cX3_mostBySets 101 = .ok (.invokestatic 369, 3) := by decide +kernel
theorem dX3_mostBySets_104 : decode cX3_mostBySets 104 = .ok (.istore 5, 2) := by decide +kernel
theorem dX3_mostBySets_106 : decode cX3_mostBySets 106 = .ok (.iinc 6 1, 3) := by decide +kernel
theorem dX3_mostBySets_109 : decode cX3_mostBySets 109 = .ok (.goto (-97), 3) := by decide +kernel
theorem dX3_mostBySets_112 : decode cX3_mostBySets 112 = .ok (.iload 5, 2) := by decide +kernel
theorem dX3_mostBySets_114 : decode cX3_mostBySets 114 = .ok (.ireturn, 1) := by decide +kernel
theorem dX3_mostByRows_0 : decode cX3_mostByRows 0 = .ok (.iload_n 3, 1) := by decide +kernel
theorem dX3_mostByRows_1 : decode cX3_mostByRows 1 = .ok (.ifCond .gt 5, 3) := by decide +kernel
theorem dX3_mostByRows_4 : decode cX3_mostByRows 4 = .ok (.iconst 0, 1) := by decide +kernel
theorem dX3_mostByRows_5 : decode cX3_mostByRows 5 = .ok (.ireturn, 1) := by decide +kernel
theorem dX3_mostByRows_6 : decode cX3_mostByRows 6 = .ok (.iconst 0, 1) := by decide +kernel
theorem dX3_mostByRows_7 : decode cX3_mostByRows 7 = .ok (.istore 4, 2) := by decide +kernel
theorem dX3_mostByRows_9 : decode cX3_mostByRows 9 = .ok (.iconst 0, 1) := by decide +kernel
theorem dX3_mostByRows_10 : decode cX3_mostByRows 10 = .ok (.istore 5, 2) := by decide +kernel
theorem dX3_mostByRows_12 : decode cX3_mostByRows 12 = .ok (.iload 5, 2) := by decide +kernel
theorem dX3_mostByRows_14 : decode cX3_mostByRows 14 = .ok (.iload_n 2, 1) := by decide +kernel
theorem dX3_mostByRows_15 : decode cX3_mostByRows 15 = .ok (.if_icmp .ge 76, 3) := by decide +kernel
theorem dX3_mostByRows_18 : decode cX3_mostByRows 18 = .ok (.iload 5, 2) := by decide +kernel
theorem dX3_mostByRows_20 : decode cX3_mostByRows 20 = .ok (.aload_n 1, 1) := by decide +kernel
theorem dX3_mostByRows_21 : decode cX3_mostByRows 21 = .ok (.arraylength, 1) := by decide +kernel
theorem dX3_mostByRows_22 : decode cX3_mostByRows 22 = .ok (.if_icmp .ge 69, 3) := by decide +kernel
theorem dX3_mostByRows_25 : decode cX3_mostByRows 25 = .ok (.aload_n 1, 1) := by decide +kernel
theorem dX3_mostByRows_26 : decode cX3_mostByRows 26 = .ok (.iload 5, 2) := by decide +kernel
theorem dX3_mostByRows_28 : decode cX3_mostByRows 28 = .ok (.iaload, 1) := by decide +kernel
theorem dX3_mostByRows_29 : decode cX3_mostByRows 29 = .ok (.istore 6, 2) := by decide +kernel
theorem dX3_mostByRows_31 : decode cX3_mostByRows 31 = .ok (.aload_n 0, 1) := by decide +kernel
theorem dX3_mostByRows_32 : decode cX3_mostByRows 32 = .ok (.iload 6, 2) := by decide +kernel
theorem dX3_mostByRows_34 : decode cX3_mostByRows 34 = .ok (.invokevirtual 385, 3) := by decide +kernel
theorem dX3_mostByRows_37 : decode cX3_mostByRows 37 = .ok (.ifCond .eq 48, 3) := by decide +kernel
theorem dX3_mostByRows_40 : decode cX3_mostByRows 40 = .ok (.aload_n 0, 1) := by decide +kernel
theorem dX3_mostByRows_41 : decode cX3_mostByRows 41 = .ok (.iload 6, 2) := by decide +kernel
theorem dX3_mostByRows_43 : decode cX3_mostByRows 43 = .ok (.invokevirtual 388, 3) := by decide +kernel
theorem dX3_mostByRows_46 : decode cX3_mostByRows 46 = .ok (.istore 7, 2) := by decide +kernel
theorem dX3_mostByRows_48 : decode cX3_mostByRows 48 = .ok (.aload_n 0, 1) := by decide +kernel
theorem dX3_mostByRows_49 : decode cX3_mostByRows 49 = .ok (.getfield 74, 3) := by decide +kernel
theorem dX3_mostByRows_52 : decode cX3_mostByRows 52 = .ok (.iload 6, 2) := by decide +kernel
theorem dX3_mostByRows_54 : decode cX3_mostByRows 54 = .ok (.iaload, 1) := by decide +kernel
theorem dX3_mostByRows_55 : decode cX3_mostByRows 55 = .ok (.aload_n 0, 1) := by decide +kernel
theorem dX3_mostByRows_56 : decode cX3_mostByRows 56 = .ok (.aload_n 1, 1) := by decide +kernel
theorem dX3_mostByRows_57 : decode cX3_mostByRows 57 = .ok (.iload_n 2, 1) := by decide +kernel
theorem dX3_mostByRows_58 : decode cX3_mostByRows 58 = .ok (.iload_n 3, 1) := by decide +kernel
theorem dX3_mostByRows_59 : decode cX3_mostByRows 59 = .ok (.iconst 1, 1) := by decide +kernel
theorem dX3_mostByRows_60 : decode cX3_mostByRows 60 = .ok (.isub, 1) := by decide +kernel
theorem dX3_mostByRows_61 : decode cX3_mostByRows 61 = .ok (.invokestatic 332, 3) := by decide +kernel
theorem dX3_mostByRows_64 : decode cX3_mostByRows 64 = .ok (.iadd, 1) := by decide +kernel
theorem dX3_mostByRows_65 : decode cX3_mostByRows 65 = .ok (.istore 8, 2) := by decide +kernel
theorem dX3_mostByRows_67 : decode cX3_mostByRows 67 = .ok (.aload_n 0, 1) := by decide +kernel
theorem dX3_mostByRows_68 : decode cX3_mostByRows 68 = .ok (.getfield 59, 3) := by decide +kernel
theorem dX3_mostByRows_71 : decode cX3_mostByRows 71 = .ok (.iload 6, 2) := by decide +kernel
theorem dX3_mostByRows_73 : decode cX3_mostByRows 73 = .ok (.iload 7, 2) := by decide +kernel
theorem dX3_mostByRows_75 : decode cX3_mostByRows 75 = .ok (.iastore, 1) := by decide +kernel
theorem dX3_mostByRows_76 : decode cX3_mostByRows 76 = .ok (.iload 4, 2) := by decide +kernel
theorem dX3_mostByRows_78 : decode cX3_mostByRows 78 = .ok (.iload 8, 2) := by decide +kernel
theorem dX3_mostByRows_80 : decode cX3_mostByRows 80 = .ok (.invokestatic 369, 3) := by decide +kernel
theorem dX3_mostByRows_83 : decode cX3_mostByRows 83 = .ok (.istore 4, 2) := by decide +kernel
theorem dX3_mostByRows_85 : decode cX3_mostByRows 85 = .ok (.iinc 5 1, 3) := by decide +kernel
theorem dX3_mostByRows_88 : decode cX3_mostByRows 88 = .ok (.goto (-76), 3) := by decide +kernel
theorem dX3_mostByRows_91 : decode cX3_mostByRows 91 = .ok (.iload 4, 2) := by decide +kernel
theorem dX3_mostByRows_93 : decode cX3_mostByRows 93 = .ok (.ireturn, 1) := by decide +kernel
theorem dX4_init_0 : decode cX4_init 0 = .ok (.aload_n 0, 1) := by decide +kernel
theorem dX4_init_1 : decode cX4_init 1 = .ok (.invokespecial 1, 3) := by decide +kernel
theorem dX4_init_4 : decode cX4_init 4 = .ok (.aload_n 0, 1) := by decide +kernel
theorem dX4_init_5 : decode cX4_init 5 = .ok (.bipush 100, 2) := by decide +kernel
theorem dX4_init_7 : decode cX4_init 7 = .ok (.newarray .int, 2) := by decide +kernel
theorem dX4_init_9 : decode cX4_init 9 = .ok (.putfield 7, 3) := by decide +kernel
theorem dX4_init_12 : decode cX4_init 12 = .ok (.aload_n 0, 1) := by decide +kernel
theorem dX4_init_13 : decode cX4_init 13 = .ok (.bipush 100, 2) := by decide +kernel
theorem dX4_init_15 : decode cX4_init 15 = .ok (.newarray .int, 2) := by decide +kernel
theorem dX4_init_17 : decode cX4_init 17 = .ok (.putfield 13, 3) := by decide +kernel
theorem dX4_init_20 : decode cX4_init 20 = .ok (.aload_n 0, 1) := by decide +kernel
theorem dX4_init_21 : decode cX4_init 21 = .ok (.bipush 100, 2) := by decide +kernel
theorem dX4_init_23 : decode cX4_init 23 = .ok (.newarray .int, 2) := by decide +kernel
theorem dX4_init_25 : decode cX4_init 25 = .ok (.putfield 16, 3) := by decide +kernel
theorem dX4_init_28 : decode cX4_init 28 = .ok (.aload_n 0, 1) := by decide +kernel
theorem dX4_init_29 : decode cX4_init 29 = .ok (.bipush 100, 2) := by decide +kernel
theorem dX4_init_31 : decode cX4_init 31 = .ok (.newarray .boolean, 2) := by decide +kernel
theorem dX4_init_33 : decode cX4_init 33 = .ok (.putfield 19, 3) := by decide +kernel
theorem dX4_init_36 : decode cX4_init 36 = .ok (.aload_n 0, 1) := by decide +kernel
theorem dX4_init_37 : decode cX4_init 37 = .ok (.bipush 100, 2) := by decide +kernel
theorem dX4_init_39 : decode cX4_init 39 = .ok (.newarray .boolean, 2) := by decide +kernel
theorem dX4_init_41 : decode cX4_init 41 = .ok (.putfield 23, 3) := by decide +kernel
theorem dX4_init_44 : decode cX4_init 44 = .ok (.aload_n 0, 1) := by decide +kernel
theorem dX4_init_45 : decode cX4_init 45 = .ok (.bipush 100, 2) := by decide +kernel
theorem dX4_init_47 : decode cX4_init 47 = .ok (.newarray .int, 2) := by decide +kernel
theorem dX4_init_49 : decode cX4_init 49 = .ok (.putfield 26, 3) := by decide +kernel
theorem dX4_init_52 : decode cX4_init 52 = .ok (.aload_n 0, 1) := by decide +kernel
theorem dX4_init_53 : decode cX4_init 53 = .ok (.bipush 100, 2) := by decide +kernel
theorem dX4_init_55 : decode cX4_init 55 = .ok (.newarray .boolean, 2) := by decide +kernel
theorem dX4_init_57 : decode cX4_init 57 = .ok (.putfield 29, 3) := by decide +kernel
theorem dX4_init_60 : decode cX4_init 60 = .ok (.aload_n 0, 1) := by decide +kernel
theorem dX4_init_61 : decode cX4_init 61 = .ok (.bipush 12, 2) := by decide +kernel
theorem dX4_init_63 : decode cX4_init 63 = .ok (.newarray .int, 2) := by decide +kernel
theorem dX4_init_65 : decode cX4_init 65 = .ok (.putfield 32, 3) := by decide +kernel
theorem dX4_init_68 : decode cX4_init 68 = .ok (.aload_n 0, 1) := by decide +kernel
theorem dX4_init_69 : decode cX4_init 69 = .ok (.bipush 12, 2) := by decide +kernel
theorem dX4_init_71 : decode cX4_init 71 = .ok (.newarray .int, 2) := by decide +kernel
theorem dX4_init_73 : decode cX4_init 73 = .ok (.putfield 35, 3) := by decide +kernel
theorem dX4_init_76 : decode cX4_init 76 = .ok (.aload_n 0, 1) := by decide +kernel
theorem dX4_init_77 : decode cX4_init 77 = .ok (.bipush 12, 2) := by decide +kernel
theorem dX4_init_79 : decode cX4_init 79 = .ok (.newarray .int, 2) := by decide +kernel
theorem dX4_init_81 : decode cX4_init 81 = .ok (.putfield 38, 3) := by decide +kernel
theorem dX4_init_84 : decode cX4_init 84 = .ok (.aload_n 0, 1) := by decide +kernel
theorem dX4_init_85 : decode cX4_init 85 = .ok (.bipush 12, 2) := by decide +kernel
theorem dX4_init_87 : decode cX4_init 87 = .ok (.newarray .int, 2) := by decide +kernel
theorem dX4_init_89 : decode cX4_init 89 = .ok (.putfield 41, 3) := by decide +kernel
theorem dX4_init_92 : decode cX4_init 92 = .ok (.aload_n 0, 1) := by decide +kernel
theorem dX4_init_93 : decode cX4_init 93 = .ok (.bipush 12, 2) := by decide +kernel
theorem dX4_init_95 : decode cX4_init 95 = .ok (.newarray .int, 2) := by decide +kernel
theorem dX4_init_97 : decode cX4_init 97 = .ok (.putfield 44, 3) := by decide +kernel
theorem dX4_init_100 : decode cX4_init 100 = .ok (.aload_n 0, 1) := by decide +kernel
theorem dX4_init_101 : decode cX4_init 101 = .ok (.bipush 12, 2) := by decide +kernel
theorem dX4_init_103 : decode cX4_init 103 = .ok (.newarray .int, 2) := by decide +kernel
theorem dX4_init_105 : decode cX4_init 105 = .ok (.putfield 47, 3) := by decide +kernel
theorem dX4_init_108 : decode cX4_init 108 = .ok (.aload_n 0, 1) := by decide +kernel
theorem dX4_init_109 : decode cX4_init 109 = .ok (.bipush 12, 2) := by decide +kernel
theorem dX4_init_111 : decode cX4_init 111 = .ok (.newarray .int, 2) := by decide +kernel
theorem dX4_init_113 : decode cX4_init 113 = .ok (.putfield 50, 3) := by decide +kernel
theorem dX4_init_116 : decode cX4_init 116 = .ok (.aload_n 0, 1) := by decide +kernel
theorem dX4_init_117 : decode cX4_init 117 = .ok (.bipush 96, 2) := by decide +kernel
theorem dX4_init_119 : decode cX4_init 119 = .ok (.newarray .int, 2) := by decide +kernel
theorem dX4_init_121 : decode cX4_init 121 = .ok (.putfield 53, 3) := by decide +kernel
theorem dX4_init_124 : decode cX4_init 124 = .ok (.aload_n 0, 1) := by decide +kernel
theorem dX4_init_125 : decode cX4_init 125 = .ok (.bipush 96, 2) := by decide +kernel
theorem dX4_init_127 : decode cX4_init 127 = .ok (.newarray .int, 2) := by decide +kernel
theorem dX4_init_129 : decode cX4_init 129 = .ok (.putfield 56, 3) := by decide +kernel
theorem dX4_init_132 : decode cX4_init 132 = .ok (.aload_n 0, 1) := by decide +kernel
theorem dX4_init_133 : decode cX4_init 133 = .ok (.bipush 8, 2) := by decide +kernel
theorem dX4_init_135 : decode cX4_init 135 = .ok (.newarray .int, 2) := by decide +kernel
theorem dX4_init_137 : decode cX4_init 137 = .ok (.putfield 59, 3) := by decide +kernel
theorem dX4_init_140 : decode cX4_init 140 = .ok (.aload_n 0, 1) := by decide +kernel
theorem dX4_init_141 : decode cX4_init 141 = .ok (.bipush 8, 2) := by decide +kernel
theorem dX4_init_143 : decode cX4_init 143 = .ok (.newarray .int, 2) := by decide +kernel
theorem dX4_init_145 : decode cX4_init 145 = .ok (.putfield 62, 3) := by decide +kernel
theorem dX4_init_148 : decode cX4_init 148 = .ok (.aload_n 0, 1) := by decide +kernel
theorem dX4_init_149 : decode cX4_init 149 = .ok (.bipush 8, 2) := by decide +kernel
theorem dX4_init_151 : decode cX4_init 151 = .ok (.newarray .int, 2) := by decide +kernel
theorem dX4_init_153 : decode cX4_init 153 = .ok (.putfield 65, 3) := by decide +kernel
theorem dX4_init_156 : decode cX4_init 156 = .ok (.aload_n 0, 1) := by decide +kernel
theorem dX4_init_157 : decode cX4_init 157 = .ok (.bipush 8, 2) := by decide +kernel
theorem dX4_init_159 : decode cX4_init 159 = .ok (.newarray .int, 2) := by decide +kernel
theorem dX4_init_161 : decode cX4_init 161 = .ok (.putfield 68, 3) := by decide +kernel
theorem dX4_init_164 : decode cX4_init 164 = .ok (.aload_n 0, 1) := by decide +kernel
theorem dX4_init_165 : decode cX4_init 165 = .ok (.bipush 100, 2) := by decide +kernel
theorem dX4_init_167 : decode cX4_init 167 = .ok (.newarray .int, 2) := by decide +kernel
theorem dX4_init_169 : decode cX4_init 169 = .ok (.putfield 71, 3) := by decide +kernel
theorem dX4_init_172 : decode cX4_init 172 = .ok (.aload_n 0, 1) := by decide +kernel
theorem dX4_init_173 : decode cX4_init 173 = .ok (.bipush 100, 2) := by decide +kernel
theorem dX4_init_175 : decode cX4_init 175 = .ok (.newarray .int, 2) := by decide +kernel
theorem dX4_init_177 : decode cX4_init 177 = .ok (.putfield 74, 3) := by decide +kernel
theorem dX4_init_180 : decode cX4_init 180 = .ok (.aload_n 0, 1) := by decide +kernel
theorem dX4_init_181 : decode cX4_init 181 = .ok (.bipush 100, 2) := by decide +kernel
theorem dX4_init_183 : decode cX4_init 183 = .ok (.newarray .int, 2) := by decide +kernel
theorem dX4_init_185 : decode cX4_init 185 = .ok (.putfield 77, 3) := by decide +kernel
theorem dX4_init_188 : decode cX4_init 188 = .ok (.aload_n 0, 1) := by decide +kernel
theorem dX4_init_189 : decode cX4_init 189 = .ok (.bipush 100, 2) := by decide +kernel
theorem dX4_init_191 : decode cX4_init 191 = .ok (.newarray .int, 2) := by decide +kernel
theorem dX4_init_193 : decode cX4_init 193 = .ok (.putfield 80, 3) := by decide +kernel
theorem dX4_init_196 : decode cX4_init 196 = .ok (.aload_n 0, 1) := by decide +kernel
theorem dX4_init_197 : decode cX4_init 197 = .ok (.bipush 100, 2) := by decide +kernel
theorem dX4_init_199 : decode cX4_init 199 = .ok (.newarray .int, 2) := by decide +kernel
theorem dX4_init_201 : decode cX4_init 201 = .ok (.putfield 83, 3) := by decide +kernel
theorem dX4_init_204 : decode cX4_init 204 = .ok (.aload_n 0, 1) := by decide +kernel
theorem dX4_init_205 : decode cX4_init 205 = .ok (.bipush 100, 2) := by decide +kernel
theorem dX4_init_207 : decode cX4_init 207 = .ok (.newarray .int, 2) := by decide +kernel
theorem dX4_init_209 : decode cX4_init 209 = .ok (.putfield 86, 3) := by decide +kernel
theorem dX4_init_212 : decode cX4_init 212 = .ok (.aload_n 0, 1) := by decide +kernel
theorem dX4_init_213 : decode cX4_init 213 = .ok (.bipush 100, 2) := by decide +kernel
theorem dX4_init_215 : decode cX4_init 215 = .ok (.newarray .int, 2) := by decide +kernel
theorem dX4_init_217 : decode cX4_init 217 = .ok (.putfield 89, 3) := by decide +kernel
theorem dX4_init_220 : decode cX4_init 220 = .ok (.aload_n 0, 1) := by decide +kernel
theorem dX4_init_221 : decode cX4_init 221 = .ok (.bipush 100, 2) := by decide +kernel
theorem dX4_init_223 : decode cX4_init 223 = .ok (.newarray .int, 2) := by decide +kernel
theorem dX4_init_225 : decode cX4_init 225 = .ok (.putfield 92, 3) := by decide +kernel
theorem dX4_init_228 : decode cX4_init 228 = .ok (.aload_n 0, 1) := by decide +kernel
theorem dX4_init_229 : decode cX4_init 229 = .ok (.sipush 500, 3) := by decide +kernel
theorem dX4_init_232 : decode cX4_init 232 = .ok (.newarray .int, 2) := by decide +kernel
theorem dX4_init_234 : decode cX4_init 234 = .ok (.putfield 95, 3) := by decide +kernel
theorem dX4_init_237 : decode cX4_init 237 = .ok (.aload_n 0, 1) := by decide +kernel
theorem dX4_init_238 : decode cX4_init 238 = .ok (.sipush 500, 3) := by decide +kernel
theorem dX4_init_241 : decode cX4_init 241 = .ok (.newarray .int, 2) := by decide +kernel
theorem dX4_init_243 : decode cX4_init 243 = .ok (.putfield 98, 3) := by decide +kernel
theorem dX4_init_246 : decode cX4_init 246 = .ok (.aload_n 0, 1) := by decide +kernel
theorem dX4_init_247 : decode cX4_init 247 = .ok (.iconst 5, 1) := by decide +kernel
theorem dX4_init_248 : decode cX4_init 248 = .ok (.newarray .int, 2) := by decide +kernel
theorem dX4_init_250 : decode cX4_init 250 = .ok (.putfield 101, 3) := by decide +kernel
theorem dX4_init_253 : decode cX4_init 253 = .ok (.iconst 0, 1) := by decide +kernel
theorem dX4_init_254 : decode cX4_init 254 = .ok (.istore_n 1, 1) := by decide +kernel
theorem dX4_init_255 : decode cX4_init 255 = .ok (.iload_n 1, 1) := by decide +kernel
theorem dX4_init_256 : decode cX4_init 256 = .ok (.bipush 100, 2) := by decide +kernel
theorem dX4_init_258 : decode cX4_init 258 = .ok (.if_icmp .ge 16, 3) := by decide +kernel
theorem dX4_init_261 : decode cX4_init 261 = .ok (.aload_n 0, 1) := by decide +kernel
theorem dX4_init_262 : decode cX4_init 262 = .ok (.getfield 26, 3) := by decide +kernel
theorem dX4_init_265 : decode cX4_init 265 = .ok (.iload_n 1, 1) := by decide +kernel
theorem dX4_init_266 : decode cX4_init 266 = .ok (.iconst (-1), 1) := by decide +kernel
theorem dX4_init_267 : decode cX4_init 267 = .ok (.iastore, 1) := by decide +kernel
theorem dX4_init_268 : decode cX4_init 268 = .ok (.iinc 1 1, 3) := by decide +kernel
theorem dX4_init_271 : decode cX4_init 271 = .ok (.goto (-16), 3) := by decide +kernel
theorem dX4_init_274 : decode cX4_init 274 = .ok (.iconst 0, 1) := by decide +kernel
theorem dX4_init_275 : decode cX4_init 275 = .ok (.istore_n 1, 1) := by decide +kernel
theorem dX4_init_276 : decode cX4_init 276 = .ok (.iload_n 1, 1) := by decide +kernel
theorem dX4_init_277 : decode cX4_init 277 = .ok (.iconst 5, 1) := by decide +kernel
theorem dX4_init_278 : decode cX4_init 278 = .ok (.if_icmp .ge 18, 3) := by decide +kernel
theorem dX4_init_281 : decode cX4_init 281 = .ok (.aload_n 0, 1) := by decide +kernel
theorem dX4_init_282 : decode cX4_init 282 = .ok (.getfield 101, 3) := by decide +kernel
theorem dX4_init_285 : decode cX4_init 285 = .ok (.iload_n 1, 1) := by decide +kernel
theorem dX4_init_286 : decode cX4_init 286 = .ok (.sipush 20000, 3) := by decide +kernel
theorem dX4_init_289 : decode cX4_init 289 = .ok (.iastore, 1) := by decide +kernel
theorem dX4_init_290 : decode cX4_init 290 = .ok (.iinc 1 1, 3) := by decide +kernel
theorem dX4_init_293 : decode cX4_init 293 = .ok (.goto (-17), 3) := by decide +kernel
theorem dX4_init_296 : decode cX4_init 296 = .ok (.return_, 1) := by decide +kernel
theorem dX4_thrown_0 : decode cX4_thrown 0 = .ok (.aload_n 0, 1) := by decide +kernel
theorem dX4_thrown_1 : decode cX4_thrown 1 = .ok (.getfield 104, 3) := by decide +kernel
theorem dX4_thrown_4 : decode cX4_thrown 4 = .ok (.ireturn, 1) := by decide +kernel
theorem dX4_in_0 : decode cX4_in 0 = .ok (.iload_n 0, 1) := by decide +kernel
theorem dX4_in_1 : decode cX4_in 1 = .ok (.iload_n 1, 1) := by decide +kernel
theorem dX4_in_2 : decode cX4_in 2 = .ok (.if_icmp .lt 12, 3) := by decide +kernel
theorem dX4_in_5 : decode cX4_in 5 = .ok (.iload_n 0, 1) := by decide +kernel
theorem dX4_in_6 : decode cX4_in 6 = .ok (.iload_n 2, 1) := by decide +kernel
theorem dX4_in_7 : decode cX4_in 7 = .ok (.if_icmp .gt 7, 3) := by decide +kernel
theorem dX4_in_10 : decode cX4_in 10 = .ok (.iconst 1, 1) := by decide +kernel
theorem dX4_in_11 : decode cX4_in 11 = .ok (.goto 4, 3) := by decide +kernel
theorem dX4_in_14 : decode cX4_in 14 = .ok (.iconst 0, 1) := by decide +kernel
theorem dX4_in_15 : decode cX4_in 15 = .ok (.ireturn, 1) := by decide +kernel
theorem dX4_isCell_0 : decode cX4_isCell 0 = .ok (.iload_n 0, 1) := by decide +kernel
theorem dX4_isCell_1 : decode cX4_isCell 1 = .ok (.iconst 0, 1) := by decide +kernel
theorem dX4_isCell_2 : decode cX4_isCell 2 = .ok (.bipush 99, 2) := by decide +kernel
theorem dX4_isCell_4 : decode cX4_isCell 4 = .ok (.invokestatic 108, 3) := by decide +kernel
theorem dX4_isCell_7 : decode cX4_isCell 7 = .ok (.ireturn, 1) := by decide +kernel
theorem dX4_isPerson_0 : decode cX4_isPerson 0 = .ok (.iload_n 0, 1) := by decide +kernel
theorem dX4_isPerson_1 : decode cX4_isPerson 1 = .ok (.iconst 0, 1) := by decide +kernel
theorem dX4_isPerson_2 : decode cX4_isPerson 2 = .ok (.bipush 7, 2) := by decide +kernel
theorem dX4_isPerson_4 : decode cX4_isPerson 4 = .ok (.invokestatic 108, 3) := by decide +kernel
theorem dX4_isPerson_7 : decode cX4_isPerson 7 = .ok (.ireturn, 1) := by decide +kernel
theorem dX4_isClaim_0 : decode cX4_isClaim 0 = .ok (.iload_n 1, 1) := by decide +kernel
theorem dX4_isClaim_1 : decode cX4_isClaim 1 = .ok (.iconst 0, 1) := by decide +kernel
theorem dX4_isClaim_2 : decode cX4_isClaim 2 = .ok (.aload_n 0, 1) := by decide +kernel
theorem dX4_isClaim_3 : decode cX4_isClaim 3 = .ok (.getfield 112, 3) := by decide +kernel
theorem dX4_isClaim_6 : decode cX4_isClaim 6 = .ok (.iconst 1, 1) := by decide +kernel
theorem dX4_isClaim_7 : decode cX4_isClaim 7 = .ok (.isub, 1) := by decide +kernel
theorem dX4_isClaim_8 : decode cX4_isClaim 8 = .ok (.invokestatic 108, 3) := by decide +kernel
theorem dX4_isClaim_11 : decode cX4_isClaim 11 = .ok (.ireturn, 1) := by decide +kernel
theorem dX4_isStone_0 : decode cX4_isStone 0 = .ok (.iload_n 1, 1) := by decide +kernel
theorem dX4_isStone_1 : decode cX4_isStone 1 = .ok (.iconst 0, 1) := by decide +kernel
theorem dX4_isStone_2 : decode cX4_isStone 2 = .ok (.aload_n 0, 1) := by decide +kernel
theorem dX4_isStone_3 : decode cX4_isStone 3 = .ok (.getfield 115, 3) := by decide +kernel
theorem dX4_isStone_6 : decode cX4_isStone 6 = .ok (.iconst 1, 1) := by decide +kernel
theorem dX4_isStone_7 : decode cX4_isStone 7 = .ok (.isub, 1) := by decide +kernel
theorem dX4_isStone_8 : decode cX4_isStone 8 = .ok (.invokestatic 108, 3) := by decide +kernel
theorem dX4_isStone_11 : decode cX4_isStone 11 = .ok (.ireturn, 1) := by decide +kernel
theorem dX4_isBarred_0 : decode cX4_isBarred 0 = .ok (.aload_n 0, 1) := by decide +kernel
theorem dX4_isBarred_1 : decode cX4_isBarred 1 = .ok (.getfield 118, 3) := by decide +kernel
theorem dX4_isBarred_4 : decode cX4_isBarred 4 = .ok (.aload_n 0, 1) := by decide +kernel
theorem dX4_isBarred_5 : decode cX4_isBarred 5 = .ok (.getfield 59, 3) := by decide +kernel
theorem dX4_isBarred_8 : decode cX4_isBarred 8 = .ok (.iload_n 1, 1) := by decide +kernel
theorem dX4_isBarred_9 : decode cX4_isBarred 9 = .ok (.iaload, 1) := by decide +kernel
theorem dX4_isBarred_10 : decode cX4_isBarred 10 = .ok (.if_icmp .ge 7, 3) := by decide +kernel
theorem dX4_isBarred_13 : decode cX4_isBarred 13 = .ok (.iconst 1, 1) := by decide +kernel
theorem dX4_isBarred_14 : decode cX4_isBarred 14 = .ok (.goto 4, 3) := by decide +kernel
theorem dX4_isBarred_17 : decode cX4_isBarred 17 = .ok (.iconst 0, 1) := by decide +kernel
theorem dX4_isBarred_18 : decode cX4_isBarred 18 = .ok (.ireturn, 1) := by decide +kernel
theorem dX4_beside_0 : decode cX4_beside 0 = .ok (.iload_n 0, 1) := by decide +kernel
theorem dX4_beside_1 : decode cX4_beside 1 = .ok (.bipush 10, 2) := by decide +kernel
theorem dX4_beside_3 : decode cX4_beside 3 = .ok (.idiv, 1) := by decide +kernel
theorem dX4_beside_4 : decode cX4_beside 4 = .ok (.iload_n 1, 1) := by decide +kernel
theorem dX4_beside_5 : decode cX4_beside 5 = .ok (.ifCond .ne 7, 3) := by decide +kernel
theorem dX4_beside_8 : decode cX4_beside 8 = .ok (.iconst (-1), 1) := by decide +kernel
theorem dX4_beside_9 : decode cX4_beside 9 = .ok (.goto 13, 3) := by decide +kernel
theorem dX4_beside_12 : decode cX4_beside 12 = .ok (.iload_n 1, 1) := by decide +kernel
theorem dX4_beside_13 : decode cX4_beside 13 = .ok (.iconst 1, 1) := by decide +kernel
theorem dX4_beside_14 : decode cX4_beside 14 = .ok (.if_icmp .ne 7, 3) := by decide +kernel
theorem dX4_beside_17 : decode cX4_beside 17 = .ok (.iconst 1, 1) := by decide +kernel
theorem dX4_beside_18 : decode cX4_beside 18 = .ok (.goto 4, 3) := by decide +kernel
theorem dX4_beside_21 : decode cX4_beside 21 = .ok (.iconst 0, 1) := by decide +kernel
theorem dX4_beside_22 : decode cX4_beside 22 = .ok (.iadd, 1) := by decide +kernel
theorem dX4_beside_23 : decode cX4_beside 23 = .ok (.istore_n 2, 1) := by decide +kernel
theorem dX4_beside_24 : decode cX4_beside 24 = .ok (.iload_n 0, 1) := by decide +kernel
theorem dX4_beside_25 : decode cX4_beside 25 = .ok (.bipush 10, 2) := by decide +kernel
theorem dX4_beside_27 : decode cX4_beside 27 = .ok (.irem, 1) := by decide +kernel
theorem dX4_beside_28 : decode cX4_beside 28 = .ok (.iload_n 1, 1) := by decide +kernel
theorem dX4_beside_29 : decode cX4_beside 29 = .ok (.iconst 2, 1) := by decide +kernel
theorem dX4_beside_30 : decode cX4_beside 30 = .ok (.if_icmp .ne 7, 3) := by decide +kernel
theorem dX4_beside_33 : decode cX4_beside 33 = .ok (.iconst (-1), 1) := by decide +kernel
theorem dX4_beside_34 : decode cX4_beside 34 = .ok (.goto 13, 3) := by decide +kernel
theorem dX4_beside_37 : decode cX4_beside 37 = .ok (.iload_n 1, 1) := by decide +kernel
theorem dX4_beside_38 : decode cX4_beside 38 = .ok (.iconst 3, 1) := by decide +kernel
theorem dX4_beside_39 : decode cX4_beside 39 = .ok (.if_icmp .ne 7, 3) := by decide +kernel
theorem dX4_beside_42 : decode cX4_beside 42 = .ok (.iconst 1, 1) := by decide +kernel
theorem dX4_beside_43 : decode cX4_beside 43 = .ok (.goto 4, 3) := by decide +kernel
theorem dX4_beside_46 : decode cX4_beside 46 = .ok (.iconst 0, 1) := by decide +kernel
theorem dX4_beside_47 : decode cX4_beside 47 = .ok (.iadd, 1) := by decide +kernel
theorem dX4_beside_48 : decode cX4_beside 48 = .ok (.istore_n 3, 1) := by decide +kernel
theorem dX4_beside_49 : decode cX4_beside 49 = .ok (.iload_n 2, 1) := by decide +kernel
theorem dX4_beside_50 : decode cX4_beside 50 = .ok (.iconst 0, 1) := by decide +kernel
theorem dX4_beside_51 : decode cX4_beside 51 = .ok (.bipush 9, 2) := by decide +kernel
theorem dX4_beside_53 : decode cX4_beside 53 = .ok (.invokestatic 108, 3) := by decide +kernel
theorem dX4_beside_56 : decode cX4_beside 56 = .ok (.ifCond .eq 22, 3) := by decide +kernel
theorem dX4_beside_59 : decode cX4_beside 59 = .ok (.iload_n 3, 1) := by decide +kernel
theorem dX4_beside_60 : decode cX4_beside 60 = .ok (.iconst 0, 1) := by decide +kernel
theorem dX4_beside_61 : decode cX4_beside 61 = .ok (.bipush 9, 2) := by decide +kernel
theorem dX4_beside_63 : decode cX4_beside 63 = .ok (.invokestatic 108, 3) := by decide +kernel
theorem dX4_beside_66 : decode cX4_beside 66 = .ok (.ifCond .eq 12, 3) := by decide +kernel
theorem dX4_beside_69 : decode cX4_beside 69 = .ok (.bipush 10, 2) := by decide +kernel
theorem dX4_beside_71 : decode cX4_beside 71 = .ok (.iload_n 2, 1) := by decide +kernel
theorem dX4_beside_72 : decode cX4_beside 72 = .ok (.imul, 1) := by decide +kernel
theorem dX4_beside_73 : decode cX4_beside 73 = .ok (.iload_n 3, 1) := by decide +kernel
theorem dX4_beside_74 : decode cX4_beside 74 = .ok (.iadd, 1) := by decide +kernel
theorem dX4_beside_75 : decode cX4_beside 75 = .ok (.goto 4, 3) := by decide +kernel
theorem dX4_beside_78 : decode cX4_beside 78 = .ok (.iconst (-1), 1) := by decide +kernel
theorem dX4_beside_79 : decode cX4_beside 79 = .ok (.ireturn, 1) := by decide +kernel
theorem dX4_seam_0 : decode cX4_seam 0 = .ok (.iload_n 2, 1) := by decide +kernel
theorem dX4_seam_1 : decode cX4_seam 1 = .ok (.iconst 1, 1) := by decide +kernel
theorem dX4_seam_2 : decode cX4_seam 2 = .ok (.sipush 999, 3) := by decide +kernel
theorem dX4_seam_5 : decode cX4_seam 5 = .ok (.invokestatic 108, 3) := by decide +kernel
theorem dX4_seam_8 : decode cX4_seam 8 = .ok (.ifCond .eq 17, 3) := by decide +kernel
theorem dX4_seam_11 : decode cX4_seam 11 = .ok (.iload_n 3, 1) := by decide +kernel
theorem dX4_seam_12 : decode cX4_seam 12 = .ok (.iconst 0, 1) := by decide +kernel
theorem dX4_seam_13 : decode cX4_seam 13 = .ok (.bipush 9, 2) := by decide +kernel
theorem dX4_seam_15 : decode cX4_seam 15 = .ok (.invokestatic 108, 3) := by decide +kernel
theorem dX4_seam_18 : decode cX4_seam 18 = .ok (.ifCond .eq 7, 3) := by decide +kernel
theorem dX4_seam_21 : decode cX4_seam 21 = .ok (.iconst 1, 1) := by decide +kernel
theorem dX4_seam_22 : decode cX4_seam 22 = .ok (.goto 4, 3) := by decide +kernel
theorem dX4_seam_25 : decode cX4_seam 25 = .ok (.iconst 0, 1) := by decide +kernel
theorem dX4_seam_26 : decode cX4_seam 26 = .ok (.istore 4, 2) := by decide +kernel
theorem dX4_seam_28 : decode cX4_seam 28 = .ok (.aload_n 0, 1) := by decide +kernel
theorem dX4_seam_29 : decode cX4_seam 29 = .ok (.iload_n 1, 1) := by decide +kernel
theorem dX4_seam_30 : decode cX4_seam 30 = .ok (.invokestatic 121, 3) := by decide +kernel
theorem dX4_seam_33 : decode cX4_seam 33 = .ok (.ifCond .ne 7, 3) := by decide +kernel
theorem dX4_seam_36 : decode cX4_seam 36 = .ok (.iconst 1, 1) := by decide +kernel
theorem dX4_seam_37 : decode cX4_seam 37 = .ok (.goto 35, 3) := by decide +kernel
theorem dX4_seam_40 : decode cX4_seam 40 = .ok (.iload 4, 2) := by decide +kernel
theorem dX4_seam_42 : decode cX4_seam 42 = .ok (.ifCond .ne 7, 3) := by decide +kernel
theorem dX4_seam_45 : decode cX4_seam 45 = .ok (.iconst 2, 1) := by decide +kernel
theorem dX4_seam_46 : decode cX4_seam 46 = .ok (.goto 26, 3) := by decide +kernel
theorem dX4_seam_49 : decode cX4_seam 49 = .ok (.aload_n 0, 1) := by decide +kernel
theorem dX4_seam_50 : decode cX4_seam 50 = .ok (.getfield 7, 3) := by decide +kernel
theorem dX4_seam_53 : decode cX4_seam 53 = .ok (.iload_n 1, 1) := by decide +kernel
theorem dX4_seam_54 : decode cX4_seam 54 = .ok (.iaload, 1) := by decide +kernel
theorem dX4_seam_55 : decode cX4_seam 55 = .ok (.ifCond .ne 12, 3) := by decide +kernel
theorem dX4_seam_58 : decode cX4_seam 58 = .ok (.aload_n 0, 1) := by decide +kernel
theorem dX4_seam_59 : decode cX4_seam 59 = .ok (.getfield 19, 3) := by decide +kernel
theorem dX4_seam_62 : decode cX4_seam 62 = .ok (.iload_n 1, 1) := by decide +kernel
theorem dX4_seam_63 : decode cX4_seam 63 = .ok (.baload, 1) := by decide +kernel
theorem dX4_seam_64 : decode cX4_seam 64 = .ok (.ifCond .eq 7, 3) := by decide +kernel
theorem dX4_seam_67 : decode cX4_seam 67 = .ok (.iconst 3, 1) := by decide +kernel
theorem dX4_seam_68 : decode cX4_seam 68 = .ok (.goto 4, 3) := by decide +kernel
theorem dX4_seam_71 : decode cX4_seam 71 = .ok (.iconst 0, 1) := by decide +kernel
theorem dX4_seam_72 : decode cX4_seam 72 = .ok (.putfield 104, 3) := by decide +kernel
theorem dX4_seam_75 : decode cX4_seam 75 = .ok (.aload_n 0, 1) := by decide +kernel
theorem dX4_seam_76 : decode cX4_seam 76 = .ok (.getfield 104, 3) := by decide +kernel
theorem dX4_seam_79 : decode cX4_seam 79 = .ok (.ifCond .ne 34, 3) := by decide +kernel
theorem dX4_seam_82 : decode cX4_seam 82 = .ok (.aload_n 0, 1) := by decide +kernel
theorem dX4_seam_83 : decode cX4_seam 83 = .ok (.getfield 19, 3) := by decide +kernel
theorem dX4_seam_86 : decode cX4_seam 86 = .ok (.iload_n 1, 1) := by decide +kernel
theorem dX4_seam_87 : decode cX4_seam 87 = .ok (.iconst 1, 1) := by decide +kernel
theorem dX4_seam_88 : decode cX4_seam 88 = .ok (.bastore, 1) := by decide +kernel
theorem dX4_seam_89 : decode cX4_seam 89 = .ok (.aload_n 0, 1) := by decide +kernel
theorem dX4_seam_90 : decode cX4_seam 90 = .ok (.getfield 13, 3) := by decide +kernel
theorem dX4_seam_93 : decode cX4_seam 93 = .ok (.iload_n 1, 1) := by decide +kernel
theorem dX4_seam_94 : decode cX4_seam 94 = .ok (.iload_n 2, 1) := by decide +kernel
theorem dX4_seam_95 : decode cX4_seam 95 = .ok (.iastore, 1) := by decide +kernel
theorem dX4_seam_96 : decode cX4_seam 96 = .ok (.aload_n 0, 1) := by decide +kernel
theorem dX4_seam_97 : decode cX4_seam 97 = .ok (.getfield 16, 3) := by decide +kernel
theorem dX4_seam_100 : decode cX4_seam 100 = .ok (.iload_n 1, 1) := by decide +kernel
theorem dX4_seam_101 : decode cX4_seam 101 = .ok (.iload_n 3, 1) := by decide +kernel
theorem dX4_seam_102 : decode cX4_seam 102 = .ok (.iastore, 1) := by decide +kernel
theorem dX4_seam_103 : decode cX4_seam 103 = .ok (.aload_n 0, 1) := by decide +kernel
theorem dX4_seam_104 : decode cX4_seam 104 = .ok (.dup, 1) := by decide +kernel
theorem dX4_seam_105 : decode cX4_seam 105 = .ok (.getfield 125, 3) := by decide +kernel
theorem dX4_seam_108 : decode cX4_seam 108 = .ok (.iload_n 2, 1) := by decide +kernel
theorem dX4_seam_109 : decode cX4_seam 109 = .ok (.iadd, 1) := by decide +kernel
theorem dX4_seam_110 : decode cX4_seam 110 = .ok (.putfield 125, 3) := by decide +kernel
theorem dX4_seam_113 : decode cX4_seam 113 = .ok (.return_, 1) := by decide +kernel
theorem dX4_pass_0 : decode cX4_pass 0 = .ok (.aload_n 0, 1) := by decide +kernel
theorem dX4_pass_1 : decode cX4_pass 1 = .ok (.iload_n 1, 1) := by decide +kernel
theorem dX4_pass_2 : decode cX4_pass 2 = .ok (.iconst 1, 1) := by decide +kernel
theorem dX4_pass_3 : decode cX4_pass 3 = .ok (.bipush 99, 2) := by decide +kernel
theorem dX4_pass_5 : decode cX4_pass 5 = .ok (.invokestatic 108, 3) := by decide +kernel
theorem dX4_pass_8 : decode cX4_pass 8 = .ok (.ifCond .ne 7, 3) := by decide +kernel
theorem dX4_pass_11 : decode cX4_pass 11 = .ok (.iconst 1, 1) := by decide +kernel
theorem dX4_pass_12 : decode cX4_pass 12 = .ok (.goto 20, 3) := by decide +kernel
theorem dX4_pass_15 : decode cX4_pass 15 = .ok (.aload_n 0, 1) := by decide +kernel
theorem dX4_pass_16 : decode cX4_pass 16 = .ok (.getfield 118, 3) := by decide +kernel
theorem dX4_pass_19 : decode cX4_pass 19 = .ok (.iload_n 1, 1) := by decide +kernel
theorem dX4_pass_20 : decode cX4_pass 20 = .ok (.iadd, 1) := by decide +kernel
theorem dX4_pass_21 : decode cX4_pass 21 = .ok (.sipush 5000, 3) := by decide +kernel
theorem dX4_pass_24 : decode cX4_pass 24 = .ok (.if_icmp .le 7, 3) := by decide +kernel
theorem dX4_pass_27 : decode cX4_pass 27 = .ok (.iconst 2, 1) := by decide +kernel
theorem dX4_pass_28 : decode cX4_pass 28 = .ok (.goto 4, 3) := by decide +kernel
theorem dX4_pass_31 : decode cX4_pass 31 = .ok (.iconst 0, 1) := by decide +kernel
theorem dX4_pass_32 : decode cX4_pass 32 = .ok (.putfield 104, 3) := by decide +kernel
theorem dX4_pass_35 : decode cX4_pass 35 = .ok (.aload_n 0, 1) := by decide +kernel
theorem dX4_pass_36 : decode cX4_pass 36 = .ok (.getfield 104, 3) := by decide +kernel
theorem dX4_pass_39 : decode cX4_pass 39 = .ok (.ifCond .le 5, 3) := by decide +kernel
theorem dX4_pass_42 : decode cX4_pass 42 = .ok (.iconst 0, 1) := by decide +kernel
theorem dX4_pass_43 : decode cX4_pass 43 = .ok (.ireturn, 1) := by decide +kernel
theorem dX4_pass_44 : decode cX4_pass 44 = .ok (.aload_n 0, 1) := by decide +kernel
theorem dX4_pass_45 : decode cX4_pass 45 = .ok (.dup, 1) := by decide +kernel
theorem dX4_pass_46 : decode cX4_pass 46 = .ok (.getfield 118, 3) := by decide +kernel
theorem dX4_pass_49 : decode cX4_pass 49 = .ok (.iload_n 1, 1) := by decide +kernel
theorem dX4_pass_50 : decode cX4_pass 50 = .ok (.iadd, 1) := by decide +kernel
theorem dX4_pass_51 : decode cX4_pass 51 = .ok (.putfield 118, 3) := by decide +kernel
theorem dX4_pass_54 : decode cX4_pass 54 = .ok (.aload_n 0, 1) := by decide +kernel
theorem dX4_pass_55 : decode cX4_pass 55 = .ok (.getfield 118, 3) := by decide +kernel
theorem dX4_pass_58 : decode cX4_pass 58 = .ok (.ireturn, 1) := by decide +kernel
theorem dX4_peg_0 : decode cX4_peg 0 = .ok (.iload_n 3, 1) := by decide +kernel
theorem dX4_peg_1 : decode cX4_peg 1 = .ok (.iconst 1, 1) := by decide +kernel
theorem dX4_peg_2 : decode cX4_peg 2 = .ok (.iconst 4, 1) := by decide +kernel
theorem dX4_peg_3 : decode cX4_peg 3 = .ok (.invokestatic 108, 3) := by decide +kernel
theorem dX4_peg_6 : decode cX4_peg 6 = .ok (.ifCond .eq 17, 3) := by decide +kernel
theorem dX4_peg_9 : decode cX4_peg 9 = .ok (.iload 4, 2) := by decide +kernel
theorem dX4_peg_11 : decode cX4_peg 11 = .ok (.iconst 1, 1) := by decide +kernel
theorem dX4_peg_12 : decode cX4_peg 12 = .ok (.iconst 4, 1) := by decide +kernel
theorem dX4_peg_13 : decode cX4_peg 13 = .ok (.invokestatic 108, 3) := by decide +kernel
theorem dX4_peg_16 : decode cX4_peg 16 = .ok (.ifCond .eq 7, 3) := by decide +kernel
theorem dX4_peg_19 : decode cX4_peg 19 = .ok (.iconst 1, 1) := by decide +kernel
theorem dX4_peg_20 : decode cX4_peg 20 = .ok (.goto 4, 3) := by decide +kernel
theorem dX4_peg_23 : decode cX4_peg 23 = .ok (.iconst 0, 1) := by decide +kernel
theorem dX4_peg_24 : decode cX4_peg 24 = .ok (.istore 5, 2) := by decide +kernel
theorem dX4_peg_26 : decode cX4_peg 26 = .ok (.aload_n 0, 1) := by decide +kernel
theorem dX4_peg_27 : decode cX4_peg 27 = .ok (.iload_n 1, 1) := by decide +kernel
theorem dX4_peg_28 : decode cX4_peg 28 = .ok (.invokestatic 128, 3) := by decide +kernel
theorem dX4_peg_31 : decode cX4_peg 31 = .ok (.ifCond .eq 10, 3) := by decide +kernel
theorem dX4_peg_34 : decode cX4_peg 34 = .ok (.iload_n 2, 1) := by decide +kernel
theorem dX4_peg_35 : decode cX4_peg 35 = .ok (.invokestatic 121, 3) := by decide +kernel
theorem dX4_peg_38 : decode cX4_peg 38 = .ok (.ifCond .ne 7, 3) := by decide +kernel
theorem dX4_peg_41 : decode cX4_peg 41 = .ok (.iconst 1, 1) := by decide +kernel
theorem dX4_peg_42 : decode cX4_peg 42 = .ok (.goto 4, 3) := by decide +kernel
theorem dX4_peg_45 : decode cX4_peg 45 = .ok (.iconst 0, 1) := by decide +kernel
theorem dX4_peg_46 : decode cX4_peg 46 = .ok (.putfield 104, 3) := by decide +kernel
theorem dX4_peg_49 : decode cX4_peg 49 = .ok (.aload_n 0, 1) := by decide +kernel
theorem dX4_peg_50 : decode cX4_peg 50 = .ok (.getfield 104, 3) := by decide +kernel
theorem dX4_peg_53 : decode cX4_peg 53 = .ok (.ifCond .ne 36, 3) := by decide +kernel
theorem dX4_peg_56 : decode cX4_peg 56 = .ok (.iload 5, 2) := by decide +kernel
theorem dX4_peg_58 : decode cX4_peg 58 = .ok (.ifCond .eq 26, 3) := by decide +kernel
theorem dX4_peg_61 : decode cX4_peg 61 = .ok (.iload_n 2, 1) := by decide +kernel
theorem dX4_peg_62 : decode cX4_peg 62 = .ok (.bipush 10, 2) := by decide +kernel
theorem dX4_peg_64 : decode cX4_peg 64 = .ok (.idiv, 1) := by decide +kernel
theorem dX4_peg_65 : decode cX4_peg 65 = .ok (.iload_n 3, 1) := by decide +kernel
theorem dX4_peg_66 : decode cX4_peg 66 = .ok (.iadd, 1) := by decide +kernel
theorem dX4_peg_67 : decode cX4_peg 67 = .ok (.bipush 10, 2) := by decide +kernel
theorem dX4_peg_69 : decode cX4_peg 69 = .ok (.if_icmp .gt 15, 3) := by decide +kernel
theorem dX4_peg_72 : decode cX4_peg 72 = .ok (.iload_n 2, 1) := by decide +kernel
theorem dX4_peg_73 : decode cX4_peg 73 = .ok (.bipush 10, 2) := by decide +kernel
theorem dX4_peg_75 : decode cX4_peg 75 = .ok (.irem, 1) := by decide +kernel
theorem dX4_peg_76 : decode cX4_peg 76 = .ok (.iload 4, 2) := by decide +kernel
theorem dX4_peg_78 : decode cX4_peg 78 = .ok (.iadd, 1) := by decide +kernel
theorem dX4_peg_79 : decode cX4_peg 79 = .ok (.bipush 10, 2) := by decide +kernel
theorem dX4_peg_81 : decode cX4_peg 81 = .ok (.if_icmp .le 8, 3) := by decide +kernel
theorem dX4_peg_84 : decode cX4_peg 84 = .ok (.aload_n 0, 1) := by decide +kernel
theorem dX4_peg_85 : decode cX4_peg 85 = .ok (.iconst 2, 1) := by decide +kernel
theorem dX4_peg_86 : decode cX4_peg 86 = .ok (.putfield 104, 3) := by decide +kernel
theorem dX4_peg_89 : decode cX4_peg 89 = .ok (.aload_n 0, 1) := by decide +kernel
theorem dX4_peg_90 : decode cX4_peg 90 = .ok (.getfield 104, 3) := by decide +kernel
theorem dX4_peg_93 : decode cX4_peg 93 = .ok (.ifCond .ne 25, 3) := by decide +kernel
theorem dX4_peg_96 : decode cX4_peg 96 = .ok (.aload_n 0, 1) := by decide +kernel
theorem dX4_peg_97 : decode cX4_peg 97 = .ok (.getfield 112, 3) := by decide +kernel
theorem dX4_peg_100 : decode cX4_peg 100 = .ok (.bipush 12, 2) := by decide +kernel
theorem dX4_peg_102 : decode cX4_peg 102 = .ok (.if_icmp .eq 11, 3) := by decide +kernel
theorem dX4_peg_105 : decode cX4_peg 105 = .ok (.aload_n 0, 1) := by decide +kernel
theorem dX4_peg_106 : decode cX4_peg 106 = .ok (.iload_n 1, 1) := by decide +kernel
theorem dX4_peg_107 : decode cX4_peg 107 = .ok (.invokevirtual 131, 3) := by decide +kernel
theorem dX4_peg_110 : decode cX4_peg 110 = .ok (.ifCond .eq 8, 3) := by decide +kernel
theorem dX4_peg_113 : decode cX4_peg 113 = .ok (.aload_n 0, 1) := by decide +kernel
theorem dX4_peg_114 : decode cX4_peg 114 = .ok (.iconst 3, 1) := by decide +kernel
theorem dX4_peg_115 : decode cX4_peg 115 = .ok (.putfield 104, 3) := by decide +kernel
theorem dX4_peg_118 : decode cX4_peg 118 = .ok (.aload_n 0, 1) := by decide +kernel
theorem dX4_peg_119 : decode cX4_peg 119 = .ok (.getfield 104, 3) := by decide +kernel
theorem dX4_peg_122 : decode cX4_peg 122 = .ok (.ifCond .le 5, 3) := by decide +kernel
theorem dX4_peg_125 : decode cX4_peg 125 = .ok (.iconst 0, 1) := by decide +kernel
theorem dX4_peg_126 : decode cX4_peg 126 = .ok (.ireturn, 1) := by decide +kernel
theorem dX4_peg_127 : decode cX4_peg 127 = .ok (.aload_n 0, 1) := by decide +kernel
theorem dX4_peg_128 : decode cX4_peg 128 = .ok (.getfield 32, 3) := by decide +kernel
theorem dX4_peg_131 : decode cX4_peg 131 = .ok (.aload_n 0, 1) := by decide +kernel
theorem dX4_peg_132 : decode cX4_peg 132 = .ok (.getfield 112, 3) := by decide +kernel
theorem dX4_peg_135 : decode cX4_peg 135 = .ok (.iload_n 1, 1) := by decide +kernel
theorem dX4_peg_136 : decode cX4_peg 136 = .ok (.iastore, 1) := by decide +kernel
theorem dX4_peg_137 : decode cX4_peg 137 = .ok (.aload_n 0, 1) := by decide +kernel
theorem dX4_peg_138 : decode cX4_peg 138 = .ok (.getfield 35, 3) := by decide +kernel
theorem dX4_peg_141 : decode cX4_peg 141 = .ok (.aload_n 0, 1) := by decide +kernel
theorem dX4_peg_142 : decode cX4_peg 142 = .ok (.getfield 112, 3) := by decide +kernel
theorem dX4_peg_145 : decode cX4_peg 145 = .ok (.iload_n 2, 1) := by decide +kernel
theorem dX4_peg_146 : decode cX4_peg 146 = .ok (.iastore, 1) := by decide +kernel
theorem dX4_peg_147 : decode cX4_peg 147 = .ok (.aload_n 0, 1) := by decide +kernel
theorem dX4_peg_148 : decode cX4_peg 148 = .ok (.getfield 38, 3) := by decide +kernel
theorem dX4_peg_151 : decode cX4_peg 151 = .ok (.aload_n 0, 1) := by decide +kernel
theorem dX4_peg_152 : decode cX4_peg 152 = .ok (.getfield 112, 3) := by decide +kernel
theorem dX4_peg_155 : decode cX4_peg 155 = .ok (.iload_n 3, 1) := by decide +kernel
theorem dX4_peg_156 : decode cX4_peg 156 = .ok (.iastore, 1) := by decide +kernel
theorem dX4_peg_157 : decode cX4_peg 157 = .ok (.aload_n 0, 1) := by decide +kernel
theorem dX4_peg_158 : decode cX4_peg 158 = .ok (.getfield 41, 3) := by decide +kernel
theorem dX4_peg_161 : decode cX4_peg 161 = .ok (.aload_n 0, 1) := by decide +kernel
theorem dX4_peg_162 : decode cX4_peg 162 = .ok (.getfield 112, 3) := by decide +kernel
theorem dX4_peg_165 : decode cX4_peg 165 = .ok (.iload 4, 2) := by decide +kernel
theorem dX4_peg_167 : decode cX4_peg 167 = .ok (.iastore, 1) := by decide +kernel
theorem dX4_peg_168 : decode cX4_peg 168 = .ok (.aload_n 0, 1) := by decide +kernel
theorem dX4_peg_169 : decode cX4_peg 169 = .ok (.getfield 44, 3) := by decide +kernel
theorem dX4_peg_172 : decode cX4_peg 172 = .ok (.aload_n 0, 1) := by decide +kernel
theorem dX4_peg_173 : decode cX4_peg 173 = .ok (.getfield 112, 3) := by decide +kernel
theorem dX4_peg_176 : decode cX4_peg 176 = .ok (.aload_n 0, 1) := by decide +kernel
theorem dX4_peg_177 : decode cX4_peg 177 = .ok (.getfield 118, 3) := by decide +kernel
theorem dX4_peg_180 : decode cX4_peg 180 = .ok (.iastore, 1) := by decide +kernel
theorem dX4_peg_181 : decode cX4_peg 181 = .ok (.aload_n 0, 1) := by decide +kernel
theorem dX4_peg_182 : decode cX4_peg 182 = .ok (.getfield 47, 3) := by decide +kernel
theorem dX4_peg_185 : decode cX4_peg 185 = .ok (.aload_n 0, 1) := by decide +kernel
theorem dX4_peg_186 : decode cX4_peg 186 = .ok (.getfield 112, 3) := by decide +kernel
theorem dX4_peg_189 : decode cX4_peg 189 = .ok (.aload_n 0, 1) := by decide +kernel
theorem dX4_peg_190 : decode cX4_peg 190 = .ok (.getfield 118, 3) := by decide +kernel
theorem dX4_peg_193 : decode cX4_peg 193 = .ok (.iastore, 1) := by decide +kernel
theorem dX4_peg_194 : decode cX4_peg 194 = .ok (.iconst 0, 1) := by decide +kernel
theorem dX4_peg_195 : decode cX4_peg 195 = .ok (.istore 6, 2) := by decide +kernel
theorem dX4_peg_197 : decode cX4_peg 197 = .ok (.iload 6, 2) := by decide +kernel
theorem dX4_peg_199 : decode cX4_peg 199 = .ok (.bipush 8, 2) := by decide +kernel
theorem dX4_peg_201 : decode cX4_peg 201 = .ok (.if_icmp .ge 25, 3) := by decide +kernel
theorem dX4_peg_204 : decode cX4_peg 204 = .ok (.aload_n 0, 1) := by decide +kernel
theorem dX4_peg_205 : decode cX4_peg 205 = .ok (.getfield 56, 3) := by decide +kernel
theorem dX4_peg_208 : decode cX4_peg 208 = .ok (.bipush 8, 2) := by decide +kernel
theorem dX4_peg_210 : decode cX4_peg 210 = .ok (.aload_n 0, 1) := by decide +kernel
theorem dX4_peg_211 : decode cX4_peg 211 = .ok (.getfield 112, 3) := by decide +kernel
theorem dX4_peg_214 : decode cX4_peg 214 = .ok (.imul, 1) := by decide +kernel
theorem dX4_peg_215 : decode cX4_peg 215 = .ok (.iload 6, 2) := by decide +kernel
theorem dX4_peg_217 : decode cX4_peg 217 = .ok (.iadd, 1) := by decide +kernel
theorem dX4_peg_218 : decode cX4_peg 218 = .ok (.iconst (-1), 1) := by decide +kernel
theorem dX4_peg_219 : decode cX4_peg 219 = .ok (.iastore, 1) := by decide +kernel
theorem dX4_peg_220 : decode cX4_peg 220 = .ok (.iinc 6 1, 3) := by decide +kernel
theorem dX4_peg_223 : decode cX4_peg 223 = .ok (.goto (-26), 3) := by decide +kernel
theorem dX4_peg_226 : decode cX4_peg 226 = .ok (.aload_n 0, 1) := by decide +kernel
theorem dX4_peg_227 : decode cX4_peg 227 = .ok (.dup, 1) := by decide +kernel
theorem dX4_peg_228 : decode cX4_peg 228 = .ok (.getfield 112, 3) := by decide +kernel
theorem dX4_peg_231 : decode cX4_peg 231 = .ok (.iconst 1, 1) := by decide +kernel
theorem dX4_peg_232 : decode cX4_peg 232 = .ok (.iadd, 1) := by decide +kernel
theorem dX4_peg_233 : decode cX4_peg 233 = .ok (.putfield 112, 3) := by decide +kernel
theorem dX4_peg_236 : decode cX4_peg 236 = .ok (.aload_n 0, 1) := by decide +kernel
theorem dX4_peg_237 : decode cX4_peg 237 = .ok (.getfield 112, 3) := by decide +kernel
theorem dX4_peg_240 : decode cX4_peg 240 = .ok (.iconst 1, 1) := by decide +kernel
theorem dX4_peg_241 : decode cX4_peg 241 = .ok (.isub, 1) := by decide +kernel
theorem dX4_peg_242 : decode cX4_peg 242 = .ok (.ireturn, 1) := by decide +kernel
theorem dX4_ownersShare_0 : decode cX4_ownersShare 0 = .ok (.bipush 12, 2) := by decide +kernel
theorem dX4_ownersShare_2 : decode cX4_ownersShare 2 = .ok (.istore_n 2, 1) := by decide +kernel
theorem dX4_ownersShare_3 : decode cX4_ownersShare 3 = .ok (.iconst 0, 1) := by decide +kernel
theorem dX4_ownersShare_4 : decode cX4_ownersShare 4 = .ok (.istore_n 3, 1) := by decide +kernel
theorem dX4_ownersShare_5 : decode cX4_ownersShare 5 = .ok (.iload_n 3, 1) := by decide +kernel
theorem dX4_ownersShare_6 : decode cX4_ownersShare 6 = .ok (.bipush 8, 2) := by decide +kernel
theorem dX4_ownersShare_8 : decode cX4_ownersShare 8 = .ok (.if_icmp .ge 23, 3) := by decide +kernel
theorem dX4_ownersShare_11 : decode cX4_ownersShare 11 = .ok (.iload_n 2, 1) := by decide +kernel
theorem dX4_ownersShare_12 : decode cX4_ownersShare 12 = .ok (.aload_n 0, 1) := by decide +kernel
theorem dX4_ownersShare_13 : decode cX4_ownersShare 13 = .ok (.getfield 53, 3) := by decide +kernel
theorem dX4_ownersShare_16 : decode cX4_ownersShare 16 = .ok (.bipush 8, 2) := by decide +kernel
theorem dX4_ownersShare_18 : decode cX4_ownersShare 18 = .ok (.iload_n 1, 1) := by decide +kernel
theorem dX4_ownersShare_19 : decode cX4_ownersShare 19 = .ok (.imul, 1) := by decide +kernel
theorem dX4_ownersShare_20 : decode cX4_ownersShare 20 = .ok (.iload_n 3, 1) := by decide +kernel
theorem dX4_ownersShare_21 : decode cX4_ownersShare 21 = .ok (.iadd, 1) := by decide +kernel
theorem dX4_ownersShare_22 : decode cX4_ownersShare 22 = .ok (.iaload, 1) := by decide +kernel
theorem dX4_ownersShare_23 : decode cX4_ownersShare 23 = .ok (.isub, 1) := by decide +kernel
theorem dX4_ownersShare_24 : decode cX4_ownersShare 24 = .ok (.istore_n 2, 1) := by decide +kernel
theorem dX4_ownersShare_25 : decode cX4_ownersShare 25 = .ok (.iinc 3 1, 3) := by decide +kernel
theorem dX4_ownersShare_28 : decode cX4_ownersShare 28 = .ok (.goto (-23), 3) := by decide +kernel
theorem dX4_ownersShare_31 : decode cX4_ownersShare 31 = .ok (.iload_n 2, 1) := by decide +kernel
theorem dX4_ownersShare_32 : decode cX4_ownersShare 32 = .ok (.ireturn, 1) := by decide +kernel
theorem dX4_shareOf_0 : decode cX4_shareOf 0 = .ok (.iload_n 2, 1) := by decide +kernel
theorem dX4_shareOf_1 : decode cX4_shareOf 1 = .ok (.aload_n 0, 1) := by decide +kernel
theorem dX4_shareOf_2 : decode cX4_shareOf 2 = .ok (.getfield 32, 3) := by decide +kernel
theorem dX4_shareOf_5 : decode cX4_shareOf 5 = .ok (.iload_n 1, 1) := by decide +kernel
theorem dX4_shareOf_6 : decode cX4_shareOf 6 = .ok (.iaload, 1) := by decide +kernel
theorem dX4_shareOf_7 : decode cX4_shareOf 7 = .ok (.if_icmp .ne 11, 3) := by decide +kernel
theorem dX4_shareOf_10 : decode cX4_shareOf 10 = .ok (.aload_n 0, 1) := by decide +kernel
theorem dX4_shareOf_11 : decode cX4_shareOf 11 = .ok (.iload_n 1, 1) := by decide +kernel
theorem dX4_shareOf_12 : decode cX4_shareOf 12 = .ok (.invokevirtual 134, 3) := by decide +kernel
theorem dX4_shareOf_15 : decode cX4_shareOf 15 = .ok (.goto 14, 3) := by decide +kernel
theorem dX4_shareOf_18 : decode cX4_shareOf 18 = .ok (.aload_n 0, 1) := by decide +kernel
theorem dX4_shareOf_19 : decode cX4_shareOf 19 = .ok (.getfield 53, 3) := by decide +kernel
theorem dX4_shareOf_22 : decode cX4_shareOf 22 = .ok (.bipush 8, 2) := by decide +kernel
theorem dX4_shareOf_24 : decode cX4_shareOf 24 = .ok (.iload_n 1, 1) := by decide +kernel
theorem dX4_shareOf_25 : decode cX4_shareOf 25 = .ok (.imul, 1) := by decide +kernel
theorem dX4_shareOf_26 : decode cX4_shareOf 26 = .ok (.iload_n 2, 1) := by decide +kernel
theorem dX4_shareOf_27 : decode cX4_shareOf 27 = .ok (.iadd, 1) := by decide +kernel
theorem dX4_shareOf_28 : decode cX4_shareOf 28 = .ok (.iaload, 1) := by decide +kernel
theorem dX4_shareOf_29 : decode cX4_shareOf 29 = .ok (.ireturn, 1) := by decide +kernel
theorem dX4_isLive_0 : decode cX4_isLive 0 = .ok (.aload_n 0, 1) := by decide +kernel
theorem dX4_isLive_1 : decode cX4_isLive 1 = .ok (.getfield 118, 3) := by decide +kernel
theorem dX4_isLive_4 : decode cX4_isLive 4 = .ok (.aload_n 0, 1) := by decide +kernel
theorem dX4_isLive_5 : decode cX4_isLive 5 = .ok (.getfield 47, 3) := by decide +kernel
theorem dX4_isLive_8 : decode cX4_isLive 8 = .ok (.iload_n 1, 1) := by decide +kernel
theorem dX4_isLive_9 : decode cX4_isLive 9 = .ok (.iaload, 1) := by decide +kernel
theorem dX4_isLive_10 : decode cX4_isLive 10 = .ok (.isub, 1) := by decide +kernel
theorem dX4_isLive_11 : decode cX4_isLive 11 = .ok (.bipush 72, 2) := by decide +kernel
theorem dX4_isLive_13 : decode cX4_isLive 13 = .ok (.if_icmp .ge 7, 3) := by decide +kernel
theorem dX4_isLive_16 : decode cX4_isLive 16 = .ok (.iconst 1, 1) := by decide +kernel
theorem dX4_isLive_17 : decode cX4_isLive 17 = .ok (.goto 4, 3) := by decide +kernel
theorem dX4_isLive_20 : decode cX4_isLive 20 = .ok (.iconst 0, 1) := by decide +kernel
theorem dX4_isLive_21 : decode cX4_isLive 21 = .ok (.ireturn, 1) := by decide +kernel
theorem dX4_upTo_0 : decode cX4_upTo 0 = .ok (.iconst 0, 1) := by decide +kernel
theorem dX4_upTo_1 : decode cX4_upTo 1 = .ok (.istore_n 3, 1) := by decide +kernel
theorem dX4_upTo_2 : decode cX4_upTo 2 = .ok (.iconst 0, 1) := by decide +kernel
theorem dX4_upTo_3 : decode cX4_upTo 3 = .ok (.istore 4, 2) := by decide +kernel
theorem dX4_upTo_5 : decode cX4_upTo 5 = .ok (.iload 4, 2) := by decide +kernel
theorem dX4_upTo_7 : decode cX4_upTo 7 = .ok (.bipush 8, 2) := by decide +kernel
theorem dX4_upTo_9 : decode cX4_upTo 9 = .ok (.if_icmp .ge 43, 3) := by decide +kernel
theorem dX4_upTo_12 : decode cX4_upTo 12 = .ok (.aload_n 0, 1) := by decide +kernel
theorem dX4_upTo_13 : decode cX4_upTo 13 = .ok (.getfield 56, 3) := by decide +kernel
theorem dX4_upTo_16 : decode cX4_upTo 16 = .ok (.bipush 8, 2) := by decide +kernel
theorem dX4_upTo_18 : decode cX4_upTo 18 = .ok (.iload_n 1, 1) := by decide +kernel
theorem dX4_upTo_19 : decode cX4_upTo 19 = .ok (.imul, 1) := by decide +kernel
theorem dX4_upTo_20 : decode cX4_upTo 20 = .ok (.iload 4, 2) := by decide +kernel
theorem dX4_upTo_22 : decode cX4_upTo 22 = .ok (.iadd, 1) := by decide +kernel
theorem dX4_upTo_23 : decode cX4_upTo 23 = .ok (.iaload, 1) := by decide +kernel
theorem dX4_upTo_24 : decode cX4_upTo 24 = .ok (.istore 5, 2) := by decide +kernel
theorem dX4_upTo_26 : decode cX4_upTo 26 = .ok (.iload_n 3, 1) := by decide +kernel
theorem dX4_upTo_27 : decode cX4_upTo 27 = .ok (.iload 5, 2) := by decide +kernel
theorem dX4_upTo_29 : decode cX4_upTo 29 = .ok (.iconst (-1), 1) := by decide +kernel
theorem dX4_upTo_30 : decode cX4_upTo 30 = .ok (.if_icmp .eq 13, 3) := by decide +kernel
theorem dX4_upTo_33 : decode cX4_upTo 33 = .ok (.iload 5, 2) := by decide +kernel
theorem dX4_upTo_35 : decode cX4_upTo 35 = .ok (.iload_n 2, 1) := by decide +kernel
theorem dX4_upTo_36 : decode cX4_upTo 36 = .ok (.if_icmp .gt 7, 3) := by decide +kernel
theorem dX4_upTo_39 : decode cX4_upTo 39 = .ok (.iconst 1, 1) := by decide +kernel
theorem dX4_upTo_40 : decode cX4_upTo 40 = .ok (.goto 4, 3) := by decide +kernel
theorem dX4_upTo_43 : decode cX4_upTo 43 = .ok (.iconst 0, 1) := by decide +kernel
theorem dX4_upTo_44 : decode cX4_upTo 44 = .ok (.iadd, 1) := by decide +kernel
theorem dX4_upTo_45 : decode cX4_upTo 45 = .ok (.istore_n 3, 1) := by decide +kernel
theorem dX4_upTo_46 : decode cX4_upTo 46 = .ok (.iinc 4 1, 3) := by decide +kernel
theorem dX4_upTo_49 : decode cX4_upTo 49 = .ok (.goto (-44), 3) := by decide +kernel
theorem dX4_upTo_52 : decode cX4_upTo 52 = .ok (.iload_n 3, 1) := by decide +kernel
theorem dX4_upTo_53 : decode cX4_upTo 53 = .ok (.ireturn, 1) := by decide +kernel
theorem dX4_hourOf_0 : decode cX4_hourOf 0 = .ok (.aload_n 0, 1) := by decide +kernel
theorem dX4_hourOf_1 : decode cX4_hourOf 1 = .ok (.iload_n 1, 1) := by decide +kernel
theorem dX4_hourOf_2 : decode cX4_hourOf 2 = .ok (.sipush 5000, 3) := by decide +kernel
theorem dX4_hourOf_5 : decode cX4_hourOf 5 = .ok (.invokevirtual 138, 3) := by decide +kernel
theorem dX4_hourOf_8 : decode cX4_hourOf 8 = .ok (.istore_n 2, 1) := by decide +kernel
theorem dX4_hourOf_9 : decode cX4_hourOf 9 = .ok (.iload_n 2, 1) := by decide +kernel
theorem dX4_hourOf_10 : decode cX4_hourOf 10 = .ok (.ifCond .ne 10, 3) := by decide +kernel
theorem dX4_hourOf_13 : decode cX4_hourOf 13 = .ok (.aload_n 0, 1) := by decide +kernel
theorem dX4_hourOf_14 : decode cX4_hourOf 14 = .ok (.getfield 44, 3) := by decide +kernel
theorem dX4_hourOf_17 : decode cX4_hourOf 17 = .ok (.iload_n 1, 1) := by decide +kernel
theorem dX4_hourOf_18 : decode cX4_hourOf 18 = .ok (.iaload, 1) := by decide +kernel
theorem dX4_hourOf_19 : decode cX4_hourOf 19 = .ok (.ireturn, 1) := by decide +kernel
theorem dX4_hourOf_20 : decode cX4_hourOf 20 = .ok (.iconst (-1), 1) := by decide +kernel
theorem dX4_hourOf_21 : decode cX4_hourOf 21 = .ok (.istore_n 3, 1) := by decide +kernel
theorem dX4_hourOf_22 : decode cX4_hourOf 22 = .ok (.iconst 0, 1) := by decide +kernel
theorem dX4_hourOf_23 : decode cX4_hourOf 23 = .ok (.istore 4, 2) := by decide +kernel
theorem dX4_hourOf_25 : decode cX4_hourOf 25 = .ok (.iload 4, 2) := by decide +kernel
theorem dX4_hourOf_27 : decode cX4_hourOf 27 = .ok (.bipush 8, 2) := by decide +kernel
theorem dX4_hourOf_29 : decode cX4_hourOf 29 = .ok (.if_icmp .ge 74, 3) := by decide +kernel
theorem dX4_hourOf_32 : decode cX4_hourOf 32 = .ok (.aload_n 0, 1) := by decide +kernel
theorem dX4_hourOf_33 : decode cX4_hourOf 33 = .ok (.getfield 56, 3) := by decide +kernel
theorem dX4_hourOf_36 : decode cX4_hourOf 36 = .ok (.bipush 8, 2) := by decide +kernel
theorem dX4_hourOf_38 : decode cX4_hourOf 38 = .ok (.iload_n 1, 1) := by decide +kernel
theorem dX4_hourOf_39 : decode cX4_hourOf 39 = .ok (.imul, 1) := by decide +kernel
theorem dX4_hourOf_40 : decode cX4_hourOf 40 = .ok (.iload 4, 2) := by decide +kernel
theorem dX4_hourOf_42 : decode cX4_hourOf 42 = .ok (.iadd, 1) := by decide +kernel
theorem dX4_hourOf_43 : decode cX4_hourOf 43 = .ok (.iaload, 1) := by decide +kernel
theorem dX4_hourOf_44 : decode cX4_hourOf 44 = .ok (.istore 5, 2) := by decide +kernel
theorem dX4_hourOf_46 : decode cX4_hourOf 46 = .ok (.iload 5, 2) := by decide +kernel
theorem dX4_hourOf_48 : decode cX4_hourOf 48 = .ok (.iconst (-1), 1) := by decide +kernel
theorem dX4_hourOf_49 : decode cX4_hourOf 49 = .ok (.if_icmp .eq 22, 3) := by decide +kernel
theorem dX4_hourOf_52 : decode cX4_hourOf 52 = .ok (.aload_n 0, 1) := by decide +kernel
theorem dX4_hourOf_53 : decode cX4_hourOf 53 = .ok (.iload_n 1, 1) := by decide +kernel
theorem dX4_hourOf_54 : decode cX4_hourOf 54 = .ok (.iload 5, 2) := by decide +kernel
theorem dX4_hourOf_56 : decode cX4_hourOf 56 = .ok (.invokevirtual 138, 3) := by decide +kernel
theorem dX4_hourOf_59 : decode cX4_hourOf 59 = .ok (.iload_n 2, 1) := by decide +kernel
theorem dX4_hourOf_60 : decode cX4_hourOf 60 = .ok (.iconst 1, 1) := by decide +kernel
theorem dX4_hourOf_61 : decode cX4_hourOf 61 = .ok (.isub, 1) := by decide +kernel
theorem dX4_hourOf_62 : decode cX4_hourOf 62 = .ok (.iconst 2, 1) := by decide +kernel
theorem dX4_hourOf_63 : decode cX4_hourOf 63 = .ok (.idiv, 1) := by decide +kernel
theorem dX4_hourOf_64 : decode cX4_hourOf 64 = .ok (.if_icmp .le 7, 3) := by decide +kernel
theorem dX4_hourOf_67 : decode cX4_hourOf 67 = .ok (.iconst 1, 1) := by decide +kernel
theorem dX4_hourOf_68 : decode cX4_hourOf 68 = .ok (.goto 4, 3) := by decide +kernel
theorem dX4_hourOf_71 : decode cX4_hourOf 71 = .ok (.iconst 0, 1) := by decide +kernel
theorem dX4_hourOf_72 : decode cX4_hourOf 72 = .ok (.istore 6, 2) := by decide +kernel
theorem dX4_hourOf_74 : decode cX4_hourOf 74 = .ok (.iload 6, 2) := by decide +kernel
theorem dX4_hourOf_76 : decode cX4_hourOf 76 = .ok (.ifCond .eq 19, 3) := by decide +kernel
theorem dX4_hourOf_79 : decode cX4_hourOf 79 = .ok (.iload_n 3, 1) := by decide +kernel
theorem dX4_hourOf_80 : decode cX4_hourOf 80 = .ok (.iconst (-1), 1) := by decide +kernel
theorem dX4_hourOf_81 : decode cX4_hourOf 81 = .ok (.if_icmp .eq 9, 3) := by decide +kernel
theorem dX4_hourOf_84 : decode cX4_hourOf 84 = .ok (.iload 5, 2) := by decide +kernel
theorem dX4_hourOf_86 : decode cX4_hourOf 86 = .ok (.iload_n 3, 1) := by decide +kernel
theorem dX4_hourOf_87 : decode cX4_hourOf 87 = .ok (.if_icmp .ge 8, 3) := by decide +kernel
theorem dX4_hourOf_90 : decode cX4_hourOf 90 = .ok (.iload 5, 2) := by decide +kernel
theorem dX4_hourOf_92 : decode cX4_hourOf 92 = .ok (.goto 4, 3) := by decide +kernel
theorem dX4_hourOf_95 : decode cX4_hourOf 95 = .ok (.iload_n 3, 1) := by decide +kernel
theorem dX4_hourOf_96 : decode cX4_hourOf 96 = .ok (.istore_n 3, 1) := by decide +kernel
theorem dX4_hourOf_97 : decode cX4_hourOf 97 = .ok (.iinc 4 1, 3) := by decide +kernel
theorem dX4_hourOf_100 : decode cX4_hourOf 100 = .ok (.goto (-75), 3) := by decide +kernel
theorem dX4_hourOf_103 : decode cX4_hourOf 103 = .ok (.iload_n 3, 1) := by decide +kernel
theorem dX4_hourOf_104 : decode cX4_hourOf 104 = .ok (.ireturn, 1) := by decide +kernel
theorem dX4_witness_0 : decode cX4_witness 0 = .ok (.aload_n 0, 1) := by decide +kernel
theorem dX4_witness_1 : decode cX4_witness 1 = .ok (.aload_n 0, 1) := by decide +kernel
theorem dX4_witness_2 : decode cX4_witness 2 = .ok (.iload_n 1, 1) := by decide +kernel
theorem dX4_witness_3 : decode cX4_witness 3 = .ok (.invokevirtual 142, 3) := by decide +kernel
theorem dX4_witness_6 : decode cX4_witness 6 = .ok (.ifCond .eq 10, 3) := by decide +kernel
theorem dX4_witness_9 : decode cX4_witness 9 = .ok (.iload_n 2, 1) := by decide +kernel
theorem dX4_witness_10 : decode cX4_witness 10 = .ok (.invokestatic 128, 3) := by decide +kernel
theorem dX4_witness_13 : decode cX4_witness 13 = .ok (.ifCond .ne 7, 3) := by decide +kernel
theorem dX4_witness_16 : decode cX4_witness 16 = .ok (.iconst 1, 1) := by decide +kernel
theorem dX4_witness_17 : decode cX4_witness 17 = .ok (.goto 20, 3) := by decide +kernel
theorem dX4_witness_20 : decode cX4_witness 20 = .ok (.iload_n 3, 1) := by decide +kernel
theorem dX4_witness_21 : decode cX4_witness 21 = .ok (.iconst 0, 1) := by decide +kernel
theorem dX4_witness_22 : decode cX4_witness 22 = .ok (.aload_n 0, 1) := by decide +kernel
theorem dX4_witness_23 : decode cX4_witness 23 = .ok (.getfield 118, 3) := by decide +kernel
theorem dX4_witness_26 : decode cX4_witness 26 = .ok (.invokestatic 108, 3) := by decide +kernel
theorem dX4_witness_29 : decode cX4_witness 29 = .ok (.ifCond .ne 7, 3) := by decide +kernel
theorem dX4_witness_32 : decode cX4_witness 32 = .ok (.iconst 2, 1) := by decide +kernel
theorem dX4_witness_33 : decode cX4_witness 33 = .ok (.goto 4, 3) := by decide +kernel
theorem dX4_witness_36 : decode cX4_witness 36 = .ok (.iconst 0, 1) := by decide +kernel
theorem dX4_witness_37 : decode cX4_witness 37 = .ok (.putfield 104, 3) := by decide +kernel
theorem dX4_witness_40 : decode cX4_witness 40 = .ok (.aload_n 0, 1) := by decide +kernel
theorem dX4_witness_41 : decode cX4_witness 41 = .ok (.getfield 104, 3) := by decide +kernel
theorem dX4_witness_44 : decode cX4_witness 44 = .ok (.ifCond .ne 32, 3) := by decide +kernel
theorem dX4_witness_47 : decode cX4_witness 47 = .ok (.aload_n 0, 1) := by decide +kernel
theorem dX4_witness_48 : decode cX4_witness 48 = .ok (.iload_n 1, 1) := by decide +kernel
theorem dX4_witness_49 : decode cX4_witness 49 = .ok (.iload_n 2, 1) := by decide +kernel
theorem dX4_witness_50 : decode cX4_witness 50 = .ok (.invokevirtual 145, 3) := by decide +kernel
theorem dX4_witness_53 : decode cX4_witness 53 = .ok (.ifCond .gt 18, 3) := by decide +kernel
theorem dX4_witness_56 : decode cX4_witness 56 = .ok (.aload_n 0, 1) := by decide +kernel
theorem dX4_witness_57 : decode cX4_witness 57 = .ok (.getfield 56, 3) := by decide +kernel
theorem dX4_witness_60 : decode cX4_witness 60 = .ok (.bipush 8, 2) := by decide +kernel
theorem dX4_witness_62 : decode cX4_witness 62 = .ok (.iload_n 1, 1) := by decide +kernel
theorem dX4_witness_63 : decode cX4_witness 63 = .ok (.imul, 1) := by decide +kernel
theorem dX4_witness_64 : decode cX4_witness 64 = .ok (.iload_n 2, 1) := by decide +kernel
theorem dX4_witness_65 : decode cX4_witness 65 = .ok (.iadd, 1) := by decide +kernel
theorem dX4_witness_66 : decode cX4_witness 66 = .ok (.iaload, 1) := by decide +kernel
theorem dX4_witness_67 : decode cX4_witness 67 = .ok (.iconst (-1), 1) := by decide +kernel
theorem dX4_witness_68 : decode cX4_witness 68 = .ok (.if_icmp .eq 8, 3) := by decide +kernel
theorem dX4_witness_71 : decode cX4_witness 71 = .ok (.aload_n 0, 1) := by decide +kernel
theorem dX4_witness_72 : decode cX4_witness 72 = .ok (.iconst 3, 1) := by decide +kernel
theorem dX4_witness_73 : decode cX4_witness 73 = .ok (.putfield 104, 3) := by decide +kernel
theorem dX4_witness_76 : decode cX4_witness 76 = .ok (.aload_n 0, 1) := by decide +kernel
theorem dX4_witness_77 : decode cX4_witness 77 = .ok (.getfield 104, 3) := by decide +kernel
theorem dX4_witness_80 : decode cX4_witness 80 = .ok (.ifCond .le 5, 3) := by decide +kernel
theorem dX4_witness_83 : decode cX4_witness 83 = .ok (.iconst 0, 1) := by decide +kernel
theorem dX4_witness_84 : decode cX4_witness 84 = .ok (.ireturn, 1) := by decide +kernel
theorem dX4_witness_85 : decode cX4_witness 85 = .ok (.aload_n 0, 1) := by decide +kernel
theorem dX4_witness_86 : decode cX4_witness 86 = .ok (.getfield 56, 3) := by decide +kernel
theorem dX4_witness_89 : decode cX4_witness 89 = .ok (.bipush 8, 2) := by decide +kernel
theorem dX4_witness_91 : decode cX4_witness 91 = .ok (.iload_n 1, 1) := by decide +kernel
theorem dX4_witness_92 : decode cX4_witness 92 = .ok (.imul, 1) := by decide +kernel
theorem dX4_witness_93 : decode cX4_witness 93 = .ok (.iload_n 2, 1) := by decide +kernel
theorem dX4_witness_94 : decode cX4_witness 94 = .ok (.iadd, 1) := by decide +kernel
theorem dX4_witness_95 : decode cX4_witness 95 = .ok (.iload_n 3, 1) := by decide +kernel
theorem dX4_witness_96 : decode cX4_witness 96 = .ok (.iastore, 1) := by decide +kernel
theorem dX4_witness_97 : decode cX4_witness 97 = .ok (.aload_n 0, 1) := by decide +kernel
theorem dX4_witness_98 : decode cX4_witness 98 = .ok (.iload_n 1, 1) := by decide +kernel
theorem dX4_witness_99 : decode cX4_witness 99 = .ok (.invokevirtual 148, 3) := by decide +kernel
theorem dX4_witness_102 : decode cX4_witness 102 = .ok (.ireturn, 1) := by decide +kernel
theorem dX4_partner_0 : decode cX4_partner 0 = .ok (.aload_n 0, 1) := by decide +kernel
theorem dX4_partner_1 : decode cX4_partner 1 = .ok (.aload_n 0, 1) := by decide +kernel
theorem dX4_partner_2 : decode cX4_partner 2 = .ok (.iload_n 1, 1) := by decide +kernel
theorem dX4_partner_3 : decode cX4_partner 3 = .ok (.invokevirtual 142, 3) := by decide +kernel
theorem dX4_partner_6 : decode cX4_partner 6 = .ok (.ifCond .eq 10, 3) := by decide +kernel
theorem dX4_partner_9 : decode cX4_partner 9 = .ok (.iload_n 2, 1) := by decide +kernel
theorem dX4_partner_10 : decode cX4_partner 10 = .ok (.invokestatic 128, 3) := by decide +kernel
theorem dX4_partner_13 : decode cX4_partner 13 = .ok (.ifCond .ne 7, 3) := by decide +kernel
theorem dX4_partner_16 : decode cX4_partner 16 = .ok (.iconst 1, 1) := by decide +kernel
theorem dX4_partner_17 : decode cX4_partner 17 = .ok (.goto 18, 3) := by decide +kernel
theorem dX4_partner_20 : decode cX4_partner 20 = .ok (.iload_n 3, 1) := by decide +kernel
theorem dX4_partner_21 : decode cX4_partner 21 = .ok (.iconst 1, 1) := by decide +kernel
theorem dX4_partner_22 : decode cX4_partner 22 = .ok (.bipush 11, 2) := by decide +kernel
theorem dX4_partner_24 : decode cX4_partner 24 = .ok (.invokestatic 108, 3) := by decide +kernel
theorem dX4_partner_27 : decode cX4_partner 27 = .ok (.ifCond .ne 7, 3) := by decide +kernel
theorem dX4_partner_30 : decode cX4_partner 30 = .ok (.iconst 2, 1) := by decide +kernel
theorem dX4_partner_31 : decode cX4_partner 31 = .ok (.goto 4, 3) := by decide +kernel
theorem dX4_partner_34 : decode cX4_partner 34 = .ok (.iconst 0, 1) := by decide +kernel
theorem dX4_partner_35 : decode cX4_partner 35 = .ok (.putfield 104, 3) := by decide +kernel
theorem dX4_partner_38 : decode cX4_partner 38 = .ok (.aload_n 0, 1) := by decide +kernel
theorem dX4_partner_39 : decode cX4_partner 39 = .ok (.getfield 104, 3) := by decide +kernel
theorem dX4_partner_42 : decode cX4_partner 42 = .ok (.ifCond .ne 28, 3) := by decide +kernel
theorem dX4_partner_45 : decode cX4_partner 45 = .ok (.aload_n 0, 1) := by decide +kernel
theorem dX4_partner_46 : decode cX4_partner 46 = .ok (.iload_n 1, 1) := by decide +kernel
theorem dX4_partner_47 : decode cX4_partner 47 = .ok (.iload_n 2, 1) := by decide +kernel
theorem dX4_partner_48 : decode cX4_partner 48 = .ok (.invokevirtual 145, 3) := by decide +kernel
theorem dX4_partner_51 : decode cX4_partner 51 = .ok (.ifCond .gt 14, 3) := by decide +kernel
theorem dX4_partner_54 : decode cX4_partner 54 = .ok (.aload_n 0, 1) := by decide +kernel
theorem dX4_partner_55 : decode cX4_partner 55 = .ok (.iload_n 1, 1) := by decide +kernel
theorem dX4_partner_56 : decode cX4_partner 56 = .ok (.invokevirtual 134, 3) := by decide +kernel
theorem dX4_partner_59 : decode cX4_partner 59 = .ok (.iload_n 3, 1) := by decide +kernel
theorem dX4_partner_60 : decode cX4_partner 60 = .ok (.isub, 1) := by decide +kernel
theorem dX4_partner_61 : decode cX4_partner 61 = .ok (.iconst 1, 1) := by decide +kernel
theorem dX4_partner_62 : decode cX4_partner 62 = .ok (.if_icmp .ge 8, 3) := by decide +kernel
theorem dX4_partner_65 : decode cX4_partner 65 = .ok (.aload_n 0, 1) := by decide +kernel
theorem dX4_partner_66 : decode cX4_partner 66 = .ok (.iconst 3, 1) := by decide +kernel
theorem dX4_partner_67 : decode cX4_partner 67 = .ok (.putfield 104, 3) := by decide +kernel
theorem dX4_partner_70 : decode cX4_partner 70 = .ok (.aload_n 0, 1) := by decide +kernel
theorem dX4_partner_71 : decode cX4_partner 71 = .ok (.getfield 104, 3) := by decide +kernel
theorem dX4_partner_74 : decode cX4_partner 74 = .ok (.ifCond .le 5, 3) := by decide +kernel
theorem dX4_partner_77 : decode cX4_partner 77 = .ok (.iconst 0, 1) := by decide +kernel
theorem dX4_partner_78 : decode cX4_partner 78 = .ok (.ireturn, 1) := by decide +kernel
theorem dX4_partner_79 : decode cX4_partner 79 = .ok (.aload_n 0, 1) := by decide +kernel
theorem dX4_partner_80 : decode cX4_partner 80 = .ok (.getfield 53, 3) := by decide +kernel
theorem dX4_partner_83 : decode cX4_partner 83 = .ok (.bipush 8, 2) := by decide +kernel
theorem dX4_partner_85 : decode cX4_partner 85 = .ok (.iload_n 1, 1) := by decide +kernel
theorem dX4_partner_86 : decode cX4_partner 86 = .ok (.imul, 1) := by decide +kernel
theorem dX4_partner_87 : decode cX4_partner 87 = .ok (.iload_n 2, 1) := by decide +kernel
theorem dX4_partner_88 : decode cX4_partner 88 = .ok (.iadd, 1) := by decide +kernel
theorem dX4_partner_89 : decode cX4_partner 89 = .ok (.iload_n 3, 1) := by decide +kernel
theorem dX4_partner_90 : decode cX4_partner 90 = .ok (.iastore, 1) := by decide +kernel
theorem dX4_partner_91 : decode cX4_partner 91 = .ok (.aload_n 0, 1) := by decide +kernel
theorem dX4_partner_92 : decode cX4_partner 92 = .ok (.iload_n 1, 1) := by decide +kernel
theorem dX4_partner_93 : decode cX4_partner 93 = .ok (.invokevirtual 134, 3) := by decide +kernel
theorem dX4_partner_96 : decode cX4_partner 96 = .ok (.ireturn, 1) := by decide +kernel
theorem dX4_covers_0 : decode cX4_covers 0 = .ok (.iload_n 2, 1) := by decide +kernel
theorem dX4_covers_1 : decode cX4_covers 1 = .ok (.bipush 10, 2) := by decide +kernel
theorem dX4_covers_3 : decode cX4_covers 3 = .ok (.idiv, 1) := by decide +kernel
theorem dX4_covers_4 : decode cX4_covers 4 = .ok (.aload_n 0, 1) := by decide +kernel
theorem dX4_covers_5 : decode cX4_covers 5 = .ok (.getfield 35, 3) := by decide +kernel
theorem dX4_covers_8 : decode cX4_covers 8 = .ok (.iload_n 1, 1) := by decide +kernel
theorem dX4_covers_9 : decode cX4_covers 9 = .ok (.iaload, 1) := by decide +kernel
theorem dX4_covers_10 : decode cX4_covers 10 = .ok (.bipush 10, 2) := by decide +kernel
theorem dX4_covers_12 : decode cX4_covers 12 = .ok (.idiv, 1) := by decide +kernel
theorem dX4_covers_13 : decode cX4_covers 13 = .ok (.isub, 1) := by decide +kernel
theorem dX4_covers_14 : decode cX4_covers 14 = .ok (.istore_n 3, 1) := by decide +kernel
theorem dX4_covers_15 : decode cX4_covers 15 = .ok (.iload_n 2, 1) := by decide +kernel
theorem dX4_covers_16 : decode cX4_covers 16 = .ok (.bipush 10, 2) := by decide +kernel
theorem dX4_covers_18 : decode cX4_covers 18 = .ok (.irem, 1) := by decide +kernel
theorem dX4_covers_19 : decode cX4_covers 19 = .ok (.aload_n 0, 1) := by decide +kernel
theorem dX4_covers_20 : decode cX4_covers 20 = .ok (.getfield 35, 3) := by decide +kernel
theorem dX4_covers_23 : decode cX4_covers 23 = .ok (.iload_n 1, 1) := by decide +kernel
theorem dX4_covers_24 : decode cX4_covers 24 = .ok (.iaload, 1) := by decide +kernel
theorem dX4_covers_25 : decode cX4_covers 25 = .ok (.bipush 10, 2) := by decide +kernel
theorem dX4_covers_27 : decode cX4_covers 27 = .ok (.irem, 1) := by decide +kernel
theorem dX4_covers_28 : decode cX4_covers 28 = .ok (.isub, 1) := by decide +kernel
theorem dX4_covers_29 : decode cX4_covers 29 = .ok (.istore 4, 2) := by decide +kernel
theorem dX4_covers_31 : decode cX4_covers 31 = .ok (.iload_n 3, 1) := by decide +kernel
theorem dX4_covers_32 : decode cX4_covers 32 = .ok (.iconst 0, 1) := by decide +kernel
theorem dX4_covers_33 : decode cX4_covers 33 = .ok (.aload_n 0, 1) := by decide +kernel
theorem dX4_covers_34 : decode cX4_covers 34 = .ok (.getfield 38, 3) := by decide +kernel
theorem dX4_covers_37 : decode cX4_covers 37 = .ok (.iload_n 1, 1) := by decide +kernel
theorem dX4_covers_38 : decode cX4_covers 38 = .ok (.iaload, 1) := by decide +kernel
theorem dX4_covers_39 : decode cX4_covers 39 = .ok (.iconst 1, 1) := by decide +kernel
theorem dX4_covers_40 : decode cX4_covers 40 = .ok (.isub, 1) := by decide +kernel
theorem dX4_covers_41 : decode cX4_covers 41 = .ok (.invokestatic 108, 3) := by decide +kernel
theorem dX4_covers_44 : decode cX4_covers 44 = .ok (.ifCond .eq 24, 3) := by decide +kernel
theorem dX4_covers_47 : decode cX4_covers 47 = .ok (.iload 4, 2) := by decide +kernel
theorem dX4_covers_49 : decode cX4_covers 49 = .ok (.iconst 0, 1) := by decide +kernel
theorem dX4_covers_50 : decode cX4_covers 50 = .ok (.aload_n 0, 1) := by decide +kernel
theorem dX4_covers_51 : decode cX4_covers 51 = .ok (.getfield 41, 3) := by decide +kernel
theorem dX4_covers_54 : decode cX4_covers 54 = .ok (.iload_n 1, 1) := by decide +kernel
theorem dX4_covers_55 : decode cX4_covers 55 = .ok (.iaload, 1) := by decide +kernel
theorem dX4_covers_56 : decode cX4_covers 56 = .ok (.iconst 1, 1) := by decide +kernel
theorem dX4_covers_57 : decode cX4_covers 57 = .ok (.isub, 1) := by decide +kernel
theorem dX4_covers_58 : decode cX4_covers 58 = .ok (.invokestatic 108, 3) := by decide +kernel
theorem dX4_covers_61 : decode cX4_covers 61 = .ok (.ifCond .eq 7, 3) := by decide +kernel
theorem dX4_covers_64 : decode cX4_covers 64 = .ok (.iconst 1, 1) := by decide +kernel
theorem dX4_covers_65 : decode cX4_covers 65 = .ok (.goto 4, 3) := by decide +kernel
theorem dX4_covers_68 : decode cX4_covers 68 = .ok (.iconst 0, 1) := by decide +kernel
theorem dX4_covers_69 : decode cX4_covers 69 = .ok (.ireturn, 1) := by decide +kernel
theorem dX4_holder_0 : decode cX4_holder 0 = .ok (.iconst (-1), 1) := by decide +kernel
theorem dX4_holder_1 : decode cX4_holder 1 = .ok (.istore_n 2, 1) := by decide +kernel
theorem dX4_holder_2 : decode cX4_holder 2 = .ok (.iconst 0, 1) := by decide +kernel
theorem dX4_holder_3 : decode cX4_holder 3 = .ok (.istore_n 3, 1) := by decide +kernel
theorem dX4_holder_4 : decode cX4_holder 4 = .ok (.iload_n 3, 1) := by decide +kernel
theorem dX4_holder_5 : decode cX4_holder 5 = .ok (.aload_n 0, 1) := by decide +kernel
theorem dX4_holder_6 : decode cX4_holder 6 = .ok (.getfield 112, 3) := by decide +kernel
theorem dX4_holder_9 : decode cX4_holder 9 = .ok (.if_icmp .ge 46, 3) := by decide +kernel
theorem dX4_holder_12 : decode cX4_holder 12 = .ok (.aload_n 0, 1) := by decide +kernel
theorem dX4_holder_13 : decode cX4_holder 13 = .ok (.iload_n 3, 1) := by decide +kernel
theorem dX4_holder_14 : decode cX4_holder 14 = .ok (.invokevirtual 151, 3) := by decide +kernel
theorem dX4_holder_17 : decode cX4_holder 17 = .ok (.ifCond .eq 32, 3) := by decide +kernel
theorem dX4_holder_20 : decode cX4_holder 20 = .ok (.aload_n 0, 1) := by decide +kernel
theorem dX4_holder_21 : decode cX4_holder 21 = .ok (.iload_n 3, 1) := by decide +kernel
theorem dX4_holder_22 : decode cX4_holder 22 = .ok (.iload_n 1, 1) := by decide +kernel
theorem dX4_holder_23 : decode cX4_holder 23 = .ok (.invokevirtual 154, 3) := by decide +kernel
theorem dX4_holder_26 : decode cX4_holder 26 = .ok (.ifCond .eq 23, 3) := by decide +kernel
theorem dX4_holder_29 : decode cX4_holder 29 = .ok (.iload_n 2, 1) := by decide +kernel
theorem dX4_holder_30 : decode cX4_holder 30 = .ok (.iconst (-1), 1) := by decide +kernel
theorem dX4_holder_31 : decode cX4_holder 31 = .ok (.if_icmp .eq 16, 3) := by decide +kernel
theorem dX4_holder_34 : decode cX4_holder 34 = .ok (.aload_n 0, 1) := by decide +kernel
theorem dX4_holder_35 : decode cX4_holder 35 = .ok (.iload_n 3, 1) := by decide +kernel
theorem dX4_holder_36 : decode cX4_holder 36 = .ok (.invokevirtual 148, 3) := by decide +kernel
theorem dX4_holder_39 : decode cX4_holder 39 = .ok (.aload_n 0, 1) := by decide +kernel
theorem dX4_holder_40 : decode cX4_holder 40 = .ok (.iload_n 2, 1) := by decide +kernel
theorem dX4_holder_41 : decode cX4_holder 41 = .ok (.invokevirtual 148, 3) := by decide +kernel
theorem dX4_holder_44 : decode cX4_holder 44 = .ok (.if_icmp .ge 5, 3) := by decide +kernel
theorem dX4_holder_47 : decode cX4_holder 47 = .ok (.iload_n 3, 1) := by decide +kernel
theorem dX4_holder_48 : decode cX4_holder 48 = .ok (.istore_n 2, 1) := by decide +kernel
theorem dX4_holder_49 : decode cX4_holder 49 = .ok (.iinc 3 1, 3) := by decide +kernel
theorem dX4_holder_52 : decode cX4_holder 52 = .ok (.goto (-48), 3) := by decide +kernel
theorem dX4_holder_55 : decode cX4_holder 55 = .ok (.iload_n 2, 1) := by decide +kernel
theorem dX4_holder_56 : decode cX4_holder 56 = .ok (.ireturn, 1) := by decide +kernel
theorem dX4_isBesideOpen_0 : decode cX4_isBesideOpen 0 = .ok (.iconst 0, 1) := by decide +kernel
theorem dX4_isBesideOpen_1 : decode cX4_isBesideOpen 1 = .ok (.istore_n 2, 1) := by decide +kernel
theorem dX4_isBesideOpen_2 : decode cX4_isBesideOpen 2 = .ok (.iconst 0, 1) := by decide +kernel
theorem dX4_isBesideOpen_3 : decode cX4_isBesideOpen 3 = .ok (.istore_n 3, 1) := by decide +kernel
theorem dX4_isBesideOpen_4 : decode cX4_isBesideOpen 4 = .ok (.iload_n 3, 1) := by decide +kernel
theorem dX4_isBesideOpen_5 : decode cX4_isBesideOpen 5 = .ok (.iconst 4, 1) := by decide +kernel
theorem dX4_isBesideOpen_6 : decode cX4_isBesideOpen 6 = .ok (.if_icmp .ge 43, 3) := by decide +kernel
theorem dX4_isBesideOpen_9 : decode cX4_isBesideOpen 9 = .ok (.iload_n 1, 1) := by decide +kernel
theorem dX4_isBesideOpen_10 : decode cX4_isBesideOpen 10 = .ok (.iload_n 3, 1) := by decide +kernel
theorem dX4_isBesideOpen_11 : decode cX4_isBesideOpen 11 = .ok (.invokestatic 158, 3) := by decide +kernel
theorem dX4_isBesideOpen_14 : decode cX4_isBesideOpen 14 = .ok (.istore 4, 2) := by decide +kernel
theorem dX4_isBesideOpen_16 : decode cX4_isBesideOpen 16 = .ok (.iload_n 2, 1) := by decide +kernel
theorem dX4_isBesideOpen_17 : decode cX4_isBesideOpen 17 = .ok (.ifCond .ne 20, 3) := by decide +kernel
theorem dX4_isBesideOpen_20 : decode cX4_isBesideOpen 20 = .ok (.iload 4, 2) := by decide +kernel
theorem dX4_isBesideOpen_22 : decode cX4_isBesideOpen 22 = .ok (.iconst (-1), 1) := by decide +kernel
theorem dX4_isBesideOpen_23 : decode cX4_isBesideOpen 23 = .ok (.if_icmp .eq 18, 3) := by decide +kernel
theorem dX4_isBesideOpen_26 : decode cX4_isBesideOpen 26 = .ok (.aload_n 0, 1) := by decide +kernel
theorem dX4_isBesideOpen_27 : decode cX4_isBesideOpen 27 = .ok (.getfield 7, 3) := by decide +kernel
theorem dX4_isBesideOpen_30 : decode cX4_isBesideOpen 30 = .ok (.iload 4, 2) := by decide +kernel
theorem dX4_isBesideOpen_32 : decode cX4_isBesideOpen 32 = .ok (.iaload, 1) := by decide +kernel
theorem dX4_isBesideOpen_33 : decode cX4_isBesideOpen 33 = .ok (.iconst 1, 1) := by decide +kernel
theorem dX4_isBesideOpen_34 : decode cX4_isBesideOpen 34 = .ok (.if_icmp .ne 7, 3) := by decide +kernel
theorem dX4_isBesideOpen_37 : decode cX4_isBesideOpen 37 = .ok (.iconst 1, 1) := by decide +kernel
theorem dX4_isBesideOpen_38 : decode cX4_isBesideOpen 38 = .ok (.goto 4, 3) := by decide +kernel
theorem dX4_isBesideOpen_41 : decode cX4_isBesideOpen 41 = .ok (.iconst 0, 1) := by decide +kernel
theorem dX4_isBesideOpen_42 : decode cX4_isBesideOpen 42 = .ok (.istore_n 2, 1) := by decide +kernel
theorem dX4_isBesideOpen_43 : decode cX4_isBesideOpen 43 = .ok (.iinc 3 1, 3) := by decide +kernel
theorem dX4_isBesideOpen_46 : decode cX4_isBesideOpen 46 = .ok (.goto (-42), 3) := by decide +kernel
theorem dX4_isBesideOpen_49 : decode cX4_isBesideOpen 49 = .ok (.iload_n 2, 1) := by decide +kernel
theorem dX4_isBesideOpen_50 : decode cX4_isBesideOpen 50 = .ok (.ireturn, 1) := by decide +kernel
theorem dX4_isLoose_0 : decode cX4_isLoose 0 = .ok (.iload_n 1, 1) := by decide +kernel
theorem dX4_isLoose_1 : decode cX4_isLoose 1 = .ok (.iconst (-1), 1) := by decide +kernel
theorem dX4_isLoose_2 : decode cX4_isLoose 2 = .ok (.if_icmp .eq 26, 3) := by decide +kernel
theorem dX4_isLoose_5 : decode cX4_isLoose 5 = .ok (.aload_n 0, 1) := by decide +kernel
theorem dX4_isLoose_6 : decode cX4_isLoose 6 = .ok (.getfield 7, 3) := by decide +kernel
theorem dX4_isLoose_9 : decode cX4_isLoose 9 = .ok (.iload_n 1, 1) := by decide +kernel
theorem dX4_isLoose_10 : decode cX4_isLoose 10 = .ok (.iaload, 1) := by decide +kernel
theorem dX4_isLoose_11 : decode cX4_isLoose 11 = .ok (.iconst 1, 1) := by decide +kernel
theorem dX4_isLoose_12 : decode cX4_isLoose 12 = .ok (.if_icmp .ne 16, 3) := by decide +kernel
theorem dX4_isLoose_15 : decode cX4_isLoose 15 = .ok (.aload_n 0, 1) := by decide +kernel
theorem dX4_isLoose_16 : decode cX4_isLoose 16 = .ok (.getfield 23, 3) := by decide +kernel
theorem dX4_isLoose_19 : decode cX4_isLoose 19 = .ok (.iload_n 1, 1) := by decide +kernel
theorem dX4_isLoose_20 : decode cX4_isLoose 20 = .ok (.baload, 1) := by decide +kernel
theorem dX4_isLoose_21 : decode cX4_isLoose 21 = .ok (.ifCond .ne 7, 3) := by decide +kernel
theorem dX4_isLoose_24 : decode cX4_isLoose 24 = .ok (.iconst 1, 1) := by decide +kernel
theorem dX4_isLoose_25 : decode cX4_isLoose 25 = .ok (.goto 4, 3) := by decide +kernel
theorem dX4_isLoose_28 : decode cX4_isLoose 28 = .ok (.iconst 0, 1) := by decide +kernel
theorem dX4_isLoose_29 : decode cX4_isLoose 29 = .ok (.ireturn, 1) := by decide +kernel
theorem dX4_run_0 : decode cX4_run 0 = .ok (.iconst 1, 1) := by decide +kernel
theorem dX4_run_1 : decode cX4_run 1 = .ok (.istore_n 3, 1) := by decide +kernel
theorem dX4_run_2 : decode cX4_run 2 = .ok (.iload_n 1, 1) := by decide +kernel
theorem dX4_run_3 : decode cX4_run 3 = .ok (.iload_n 2, 1) := by decide +kernel
theorem dX4_run_4 : decode cX4_run 4 = .ok (.invokestatic 158, 3) := by decide +kernel
theorem dX4_run_7 : decode cX4_run 7 = .ok (.istore 4, 2) := by decide +kernel
theorem dX4_run_9 : decode cX4_run 9 = .ok (.aload_n 0, 1) := by decide +kernel
theorem dX4_run_10 : decode cX4_run 10 = .ok (.iload 4, 2) := by decide +kernel
theorem dX4_run_12 : decode cX4_run 12 = .ok (.invokevirtual 161, 3) := by decide +kernel
theorem dX4_run_15 : decode cX4_run 15 = .ok (.ifCond .eq 17, 3) := by decide +kernel
theorem dX4_run_18 : decode cX4_run 18 = .ok (.iinc 3 1, 3) := by decide +kernel
theorem dX4_run_21 : decode cX4_run 21 = .ok (.iload 4, 2) := by decide +kernel
theorem dX4_run_23 : decode cX4_run 23 = .ok (.iload_n 2, 1) := by decide +kernel
theorem dX4_run_24 : decode cX4_run 24 = .ok (.invokestatic 158, 3) := by decide +kernel
theorem dX4_run_27 : decode cX4_run 27 = .ok (.istore 4, 2) := by decide +kernel
theorem dX4_run_29 : decode cX4_run 29 = .ok (.goto (-20), 3) := by decide +kernel
theorem dX4_run_32 : decode cX4_run 32 = .ok (.iload_n 1, 1) := by decide +kernel
theorem dX4_run_33 : decode cX4_run 33 = .ok (.iload_n 2, 1) := by decide +kernel
theorem dX4_run_34 : decode cX4_run 34 = .ok (.iconst 1, 1) := by decide +kernel
theorem dX4_run_35 : decode cX4_run 35 = .ok (.iadd, 1) := by decide +kernel
theorem dX4_run_36 : decode cX4_run 36 = .ok (.invokestatic 158, 3) := by decide +kernel
theorem dX4_run_39 : decode cX4_run 39 = .ok (.istore 4, 2) := by decide +kernel
theorem dX4_run_41 : decode cX4_run 41 = .ok (.aload_n 0, 1) := by decide +kernel
theorem dX4_run_42 : decode cX4_run 42 = .ok (.iload 4, 2) := by decide +kernel
theorem dX4_run_44 : decode cX4_run 44 = .ok (.invokevirtual 161, 3) := by decide +kernel
theorem dX4_run_47 : decode cX4_run 47 = .ok (.ifCond .eq 19, 3) := by decide +kernel
theorem dX4_run_50 : decode cX4_run 50 = .ok (.iinc 3 1, 3) := by decide +kernel
theorem dX4_run_53 : decode cX4_run 53 = .ok (.iload 4, 2) := by decide +kernel
theorem dX4_run_55 : decode cX4_run 55 = .ok (.iload_n 2, 1) := by decide +kernel
theorem dX4_run_56 : decode cX4_run 56 = .ok (.iconst 1, 1) := by decide +kernel
theorem dX4_run_57 : decode cX4_run 57 = .ok (.iadd, 1) := by decide +kernel
theorem dX4_run_58 : decode cX4_run 58 = .ok (.invokestatic 158, 3) := by decide +kernel
theorem dX4_run_61 : decode cX4_run 61 = .ok (.istore 4, 2) := by decide +kernel
theorem dX4_run_63 : decode cX4_run 63 = .ok (.goto (-22), 3) := by decide +kernel
theorem dX4_run_66 : decode cX4_run 66 = .ok (.iload_n 3, 1) := by decide +kernel
theorem dX4_run_67 : decode cX4_run 67 = .ok (.ireturn, 1) := by decide +kernel
theorem dX4_marks_0 : decode cX4_marks 0 = .ok (.iload_n 1, 1) := by decide +kernel
theorem dX4_marks_1 : decode cX4_marks 1 = .ok (.istore_n 3, 1) := by decide +kernel
theorem dX4_marks_2 : decode cX4_marks 2 = .ok (.aload_n 0, 1) := by decide +kernel
theorem dX4_marks_3 : decode cX4_marks 3 = .ok (.iload_n 3, 1) := by decide +kernel
theorem dX4_marks_4 : decode cX4_marks 4 = .ok (.invokevirtual 161, 3) := by decide +kernel
theorem dX4_marks_7 : decode cX4_marks 7 = .ok (.ifCond .eq 19, 3) := by decide +kernel
theorem dX4_marks_10 : decode cX4_marks 10 = .ok (.aload_n 0, 1) := by decide +kernel
theorem dX4_marks_11 : decode cX4_marks 11 = .ok (.getfield 29, 3) := by decide +kernel
theorem dX4_marks_14 : decode cX4_marks 14 = .ok (.iload_n 3, 1) := by decide +kernel
theorem dX4_marks_15 : decode cX4_marks 15 = .ok (.iconst 1, 1) := by decide +kernel
theorem dX4_marks_16 : decode cX4_marks 16 = .ok (.bastore, 1) := by decide +kernel
theorem dX4_marks_17 : decode cX4_marks 17 = .ok (.iload_n 3, 1) := by decide +kernel
theorem dX4_marks_18 : decode cX4_marks 18 = .ok (.iload_n 2, 1) := by decide +kernel
theorem dX4_marks_19 : decode cX4_marks 19 = .ok (.invokestatic 158, 3) := by decide +kernel
theorem dX4_marks_22 : decode cX4_marks 22 = .ok (.istore_n 3, 1) := by decide +kernel
theorem dX4_marks_23 : decode cX4_marks 23 = .ok (.goto (-21), 3) := by decide +kernel
theorem dX4_marks_26 : decode cX4_marks 26 = .ok (.iload_n 1, 1) := by decide +kernel
theorem dX4_marks_27 : decode cX4_marks 27 = .ok (.istore_n 3, 1) := by decide +kernel
theorem dX4_marks_28 : decode cX4_marks 28 = .ok (.aload_n 0, 1) := by decide +kernel
theorem dX4_marks_29 : decode cX4_marks 29 = .ok (.iload_n 3, 1) := by decide +kernel
theorem dX4_marks_30 : decode cX4_marks 30 = .ok (.invokevirtual 161, 3) := by decide +kernel
theorem dX4_marks_33 : decode cX4_marks 33 = .ok (.ifCond .eq 21, 3) := by decide +kernel
theorem dX4_marks_36 : decode cX4_marks 36 = .ok (.aload_n 0, 1) := by decide +kernel
theorem dX4_marks_37 : decode cX4_marks 37 = .ok (.getfield 29, 3) := by decide +kernel
theorem dX4_marks_40 : decode cX4_marks 40 = .ok (.iload_n 3, 1) := by decide +kernel
theorem dX4_marks_41 : decode cX4_marks 41 = .ok (.iconst 1, 1) := by decide +kernel
theorem dX4_marks_42 : decode cX4_marks 42 = .ok (.bastore, 1) := by decide +kernel
theorem dX4_marks_43 : decode cX4_marks 43 = .ok (.iload_n 3, 1) := by decide +kernel
theorem dX4_marks_44 : decode cX4_marks 44 = .ok (.iload_n 2, 1) := by decide +kernel
theorem dX4_marks_45 : decode cX4_marks 45 = .ok (.iconst 1, 1) := by decide +kernel
theorem dX4_marks_46 : decode cX4_marks 46 = .ok (.iadd, 1) := by decide +kernel
theorem dX4_marks_47 : decode cX4_marks 47 = .ok (.invokestatic 158, 3) := by decide +kernel
theorem dX4_marks_50 : decode cX4_marks 50 = .ok (.istore_n 3, 1) := by decide +kernel
theorem dX4_marks_51 : decode cX4_marks 51 = .ok (.goto (-23), 3) := by decide +kernel
theorem dX4_marks_54 : decode cX4_marks 54 = .ok (.return_, 1) := by decide +kernel
theorem dX4_isFall_0 : decode cX4_isFall 0 = .ok (.aload_n 0, 1) := by decide +kernel
theorem dX4_isFall_1 : decode cX4_isFall 1 = .ok (.iload_n 1, 1) := by decide +kernel
theorem dX4_isFall_2 : decode cX4_isFall 2 = .ok (.iconst 0, 1) := by decide +kernel
theorem dX4_isFall_3 : decode cX4_isFall 3 = .ok (.invokevirtual 164, 3) := by decide +kernel
theorem dX4_isFall_6 : decode cX4_isFall 6 = .ok (.iconst 3, 1) := by decide +kernel
theorem dX4_isFall_7 : decode cX4_isFall 7 = .ok (.if_icmp .gt 13, 3) := by decide +kernel
theorem dX4_isFall_10 : decode cX4_isFall 10 = .ok (.aload_n 0, 1) := by decide +kernel
theorem dX4_isFall_11 : decode cX4_isFall 11 = .ok (.iload_n 1, 1) := by decide +kernel
theorem dX4_isFall_12 : decode cX4_isFall 12 = .ok (.iconst 2, 1) := by decide +kernel
theorem dX4_isFall_13 : decode cX4_isFall 13 = .ok (.invokevirtual 164, 3) := by decide +kernel
theorem dX4_isFall_16 : decode cX4_isFall 16 = .ok (.iconst 3, 1) := by decide +kernel
theorem dX4_isFall_17 : decode cX4_isFall 17 = .ok (.if_icmp .le 7, 3) := by decide +kernel
theorem dX4_isFall_20 : decode cX4_isFall 20 = .ok (.iconst 1, 1) := by decide +kernel
theorem dX4_isFall_21 : decode cX4_isFall 21 = .ok (.goto 4, 3) := by decide +kernel
theorem dX4_isFall_24 : decode cX4_isFall 24 = .ok (.iconst 0, 1) := by decide +kernel
theorem dX4_isFall_25 : decode cX4_isFall 25 = .ok (.ireturn, 1) := by decide +kernel
theorem dX4_mayFall_0 : decode cX4_mayFall 0 = .ok (.iconst 0, 1) := by decide +kernel
theorem dX4_mayFall_1 : decode cX4_mayFall 1 = .ok (.istore_n 2, 1) := by decide +kernel
theorem dX4_mayFall_2 : decode cX4_mayFall 2 = .ok (.iload_n 2, 1) := by decide +kernel
theorem dX4_mayFall_3 : decode cX4_mayFall 3 = .ok (.bipush 100, 2) := by decide +kernel
theorem dX4_mayFall_5 : decode cX4_mayFall 5 = .ok (.if_icmp .ge 16, 3) := by decide +kernel
theorem dX4_mayFall_8 : decode cX4_mayFall 8 = .ok (.aload_n 0, 1) := by decide +kernel
theorem dX4_mayFall_9 : decode cX4_mayFall 9 = .ok (.getfield 29, 3) := by decide +kernel
theorem dX4_mayFall_12 : decode cX4_mayFall 12 = .ok (.iload_n 2, 1) := by decide +kernel
theorem dX4_mayFall_13 : decode cX4_mayFall 13 = .ok (.iconst 0, 1) := by decide +kernel
theorem dX4_mayFall_14 : decode cX4_mayFall 14 = .ok (.bastore, 1) := by decide +kernel
theorem dX4_mayFall_15 : decode cX4_mayFall 15 = .ok (.iinc 2 1, 3) := by decide +kernel
theorem dX4_mayFall_18 : decode cX4_mayFall 18 = .ok (.goto (-16), 3) := by decide +kernel
theorem dX4_mayFall_21 : decode cX4_mayFall 21 = .ok (.aload_n 0, 1) := by decide +kernel
theorem dX4_mayFall_22 : decode cX4_mayFall 22 = .ok (.iload_n 1, 1) := by decide +kernel
theorem dX4_mayFall_23 : decode cX4_mayFall 23 = .ok (.iconst 2, 1) := by decide +kernel
theorem dX4_mayFall_24 : decode cX4_mayFall 24 = .ok (.invokevirtual 164, 3) := by decide +kernel
theorem dX4_mayFall_27 : decode cX4_mayFall 27 = .ok (.iconst 3, 1) := by decide +kernel
theorem dX4_mayFall_28 : decode cX4_mayFall 28 = .ok (.if_icmp .le 9, 3) := by decide +kernel
theorem dX4_mayFall_31 : decode cX4_mayFall 31 = .ok (.aload_n 0, 1) := by decide +kernel
theorem dX4_mayFall_32 : decode cX4_mayFall 32 = .ok (.iload_n 1, 1) := by decide +kernel
theorem dX4_mayFall_33 : decode cX4_mayFall 33 = .ok (.iconst 2, 1) := by decide +kernel
theorem dX4_mayFall_34 : decode cX4_mayFall 34 = .ok (.invokevirtual 167, 3) := by decide +kernel
theorem dX4_mayFall_37 : decode cX4_mayFall 37 = .ok (.aload_n 0, 1) := by decide +kernel
theorem dX4_mayFall_38 : decode cX4_mayFall 38 = .ok (.iload_n 1, 1) := by decide +kernel
theorem dX4_mayFall_39 : decode cX4_mayFall 39 = .ok (.iconst 0, 1) := by decide +kernel
theorem dX4_mayFall_40 : decode cX4_mayFall 40 = .ok (.invokevirtual 164, 3) := by decide +kernel
theorem dX4_mayFall_43 : decode cX4_mayFall 43 = .ok (.iconst 3, 1) := by decide +kernel
theorem dX4_mayFall_44 : decode cX4_mayFall 44 = .ok (.if_icmp .le 9, 3) := by decide +kernel
theorem dX4_mayFall_47 : decode cX4_mayFall 47 = .ok (.aload_n 0, 1) := by decide +kernel
theorem dX4_mayFall_48 : decode cX4_mayFall 48 = .ok (.iload_n 1, 1) := by decide +kernel
theorem dX4_mayFall_49 : decode cX4_mayFall 49 = .ok (.iconst 0, 1) := by decide +kernel
theorem dX4_mayFall_50 : decode cX4_mayFall 50 = .ok (.invokevirtual 167, 3) := by decide +kernel
theorem dX4_mayFall_53 : decode cX4_mayFall 53 = .ok (.iconst 0, 1) := by decide +kernel
theorem dX4_mayFall_54 : decode cX4_mayFall 54 = .ok (.istore_n 2, 1) := by decide +kernel
theorem dX4_mayFall_55 : decode cX4_mayFall 55 = .ok (.iload_n 2, 1) := by decide +kernel
theorem dX4_mayFall_56 : decode cX4_mayFall 56 = .ok (.bipush 100, 2) := by decide +kernel
theorem dX4_mayFall_58 : decode cX4_mayFall 58 = .ok (.if_icmp .ge 34, 3) := by decide +kernel
theorem dX4_mayFall_61 : decode cX4_mayFall 61 = .ok (.aload_n 0, 1) := by decide +kernel
theorem dX4_mayFall_62 : decode cX4_mayFall 62 = .ok (.getfield 7, 3) := by decide +kernel
theorem dX4_mayFall_65 : decode cX4_mayFall 65 = .ok (.iload_n 2, 1) := by decide +kernel
theorem dX4_mayFall_66 : decode cX4_mayFall 66 = .ok (.aload_n 0, 1) := by decide +kernel
theorem dX4_mayFall_67 : decode cX4_mayFall 67 = .ok (.getfield 29, 3) := by decide +kernel
theorem dX4_mayFall_70 : decode cX4_mayFall 70 = .ok (.iload_n 2, 1) := by decide +kernel
theorem dX4_mayFall_71 : decode cX4_mayFall 71 = .ok (.baload, 1) := by decide +kernel
theorem dX4_mayFall_72 : decode cX4_mayFall 72 = .ok (.ifCond .eq 7, 3) := by decide +kernel
theorem dX4_mayFall_75 : decode cX4_mayFall 75 = .ok (.iconst 2, 1) := by decide +kernel
theorem dX4_mayFall_76 : decode cX4_mayFall 76 = .ok (.goto 9, 3) := by decide +kernel
theorem dX4_mayFall_79 : decode cX4_mayFall 79 = .ok (.aload_n 0, 1) := by decide +kernel
theorem dX4_mayFall_80 : decode cX4_mayFall 80 = .ok (.getfield 7, 3) := by decide +kernel
theorem dX4_mayFall_83 : decode cX4_mayFall 83 = .ok (.iload_n 2, 1) := by decide +kernel
theorem dX4_mayFall_84 : decode cX4_mayFall 84 = .ok (.iaload, 1) := by decide +kernel
theorem dX4_mayFall_85 : decode cX4_mayFall 85 = .ok (.iastore, 1) := by decide +kernel
theorem dX4_mayFall_86 : decode cX4_mayFall 86 = .ok (.iinc 2 1, 3) := by decide +kernel
theorem dX4_mayFall_89 : decode cX4_mayFall 89 = .ok (.goto (-34), 3) := by decide +kernel
theorem dX4_mayFall_92 : decode cX4_mayFall 92 = .ok (.return_, 1) := by decide +kernel
theorem dX4_opens_0 : decode cX4_opens 0 = .ok (.aload_n 0, 1) := by decide +kernel
theorem dX4_opens_1 : decode cX4_opens 1 = .ok (.getfield 13, 3) := by decide +kernel
theorem dX4_opens_4 : decode cX4_opens 4 = .ok (.iload_n 1, 1) := by decide +kernel
theorem dX4_opens_5 : decode cX4_opens 5 = .ok (.iaload, 1) := by decide +kernel
theorem dX4_opens_6 : decode cX4_opens 6 = .ok (.istore 4, 2) := by decide +kernel
theorem dX4_opens_8 : decode cX4_opens 8 = .ok (.aload_n 0, 1) := by decide +kernel
theorem dX4_opens_9 : decode cX4_opens 9 = .ok (.getfield 7, 3) := by decide +kernel
theorem dX4_opens_12 : decode cX4_opens 12 = .ok (.iload_n 1, 1) := by decide +kernel
theorem dX4_opens_13 : decode cX4_opens 13 = .ok (.iconst 1, 1) := by decide +kernel
theorem dX4_opens_14 : decode cX4_opens 14 = .ok (.iastore, 1) := by decide +kernel
theorem dX4_opens_15 : decode cX4_opens 15 = .ok (.aload_n 0, 1) := by decide +kernel
theorem dX4_opens_16 : decode cX4_opens 16 = .ok (.getfield 26, 3) := by decide +kernel
theorem dX4_opens_19 : decode cX4_opens 19 = .ok (.iload_n 1, 1) := by decide +kernel
theorem dX4_opens_20 : decode cX4_opens 20 = .ok (.iconst (-1), 1) := by decide +kernel
theorem dX4_opens_21 : decode cX4_opens 21 = .ok (.iastore, 1) := by decide +kernel
theorem dX4_opens_22 : decode cX4_opens 22 = .ok (.iload 4, 2) := by decide +kernel
theorem dX4_opens_24 : decode cX4_opens 24 = .ok (.ifCond .le 79, 3) := by decide +kernel
theorem dX4_opens_27 : decode cX4_opens 27 = .ok (.aload_n 0, 1) := by decide +kernel
theorem dX4_opens_28 : decode cX4_opens 28 = .ok (.getfield 71, 3) := by decide +kernel
theorem dX4_opens_31 : decode cX4_opens 31 = .ok (.aload_n 0, 1) := by decide +kernel
theorem dX4_opens_32 : decode cX4_opens 32 = .ok (.getfield 115, 3) := by decide +kernel
theorem dX4_opens_35 : decode cX4_opens 35 = .ok (.iload 4, 2) := by decide +kernel
theorem dX4_opens_37 : decode cX4_opens 37 = .ok (.iastore, 1) := by decide +kernel
theorem dX4_opens_38 : decode cX4_opens 38 = .ok (.aload_n 0, 1) := by decide +kernel
theorem dX4_opens_39 : decode cX4_opens 39 = .ok (.getfield 74, 3) := by decide +kernel
theorem dX4_opens_42 : decode cX4_opens 42 = .ok (.aload_n 0, 1) := by decide +kernel
theorem dX4_opens_43 : decode cX4_opens 43 = .ok (.getfield 115, 3) := by decide +kernel
theorem dX4_opens_46 : decode cX4_opens 46 = .ok (.aload_n 0, 1) := by decide +kernel
theorem dX4_opens_47 : decode cX4_opens 47 = .ok (.getfield 16, 3) := by decide +kernel
theorem dX4_opens_50 : decode cX4_opens 50 = .ok (.iload_n 1, 1) := by decide +kernel
theorem dX4_opens_51 : decode cX4_opens 51 = .ok (.iaload, 1) := by decide +kernel
theorem dX4_opens_52 : decode cX4_opens 52 = .ok (.iastore, 1) := by decide +kernel
theorem dX4_opens_53 : decode cX4_opens 53 = .ok (.aload_n 0, 1) := by decide +kernel
theorem dX4_opens_54 : decode cX4_opens 54 = .ok (.getfield 80, 3) := by decide +kernel
theorem dX4_opens_57 : decode cX4_opens 57 = .ok (.aload_n 0, 1) := by decide +kernel
theorem dX4_opens_58 : decode cX4_opens 58 = .ok (.getfield 115, 3) := by decide +kernel
theorem dX4_opens_61 : decode cX4_opens 61 = .ok (.iload_n 2, 1) := by decide +kernel
theorem dX4_opens_62 : decode cX4_opens 62 = .ok (.iastore, 1) := by decide +kernel
theorem dX4_opens_63 : decode cX4_opens 63 = .ok (.aload_n 0, 1) := by decide +kernel
theorem dX4_opens_64 : decode cX4_opens 64 = .ok (.getfield 83, 3) := by decide +kernel
theorem dX4_opens_67 : decode cX4_opens 67 = .ok (.aload_n 0, 1) := by decide +kernel
theorem dX4_opens_68 : decode cX4_opens 68 = .ok (.getfield 115, 3) := by decide +kernel
theorem dX4_opens_71 : decode cX4_opens 71 = .ok (.iload_n 3, 1) := by decide +kernel
theorem dX4_opens_72 : decode cX4_opens 72 = .ok (.iastore, 1) := by decide +kernel
theorem dX4_opens_73 : decode cX4_opens 73 = .ok (.aload_n 0, 1) := by decide +kernel
theorem dX4_opens_74 : decode cX4_opens 74 = .ok (.getfield 86, 3) := by decide +kernel
theorem dX4_opens_77 : decode cX4_opens 77 = .ok (.aload_n 0, 1) := by decide +kernel
theorem dX4_opens_78 : decode cX4_opens 78 = .ok (.getfield 115, 3) := by decide +kernel
theorem dX4_opens_81 : decode cX4_opens 81 = .ok (.iload_n 1, 1) := by decide +kernel
theorem dX4_opens_82 : decode cX4_opens 82 = .ok (.iastore, 1) := by decide +kernel
theorem dX4_opens_83 : decode cX4_opens 83 = .ok (.aload_n 0, 1) := by decide +kernel
theorem dX4_opens_84 : decode cX4_opens 84 = .ok (.getfield 89, 3) := by decide +kernel
theorem dX4_opens_87 : decode cX4_opens 87 = .ok (.aload_n 0, 1) := by decide +kernel
theorem dX4_opens_88 : decode cX4_opens 88 = .ok (.getfield 115, 3) := by decide +kernel
theorem dX4_opens_91 : decode cX4_opens 91 = .ok (.iconst (-1), 1) := by decide +kernel
theorem dX4_opens_92 : decode cX4_opens 92 = .ok (.iastore, 1) := by decide +kernel
theorem dX4_opens_93 : decode cX4_opens 93 = .ok (.aload_n 0, 1) := by decide +kernel
theorem dX4_opens_94 : decode cX4_opens 94 = .ok (.dup, 1) := by decide +kernel
theorem dX4_opens_95 : decode cX4_opens 95 = .ok (.getfield 115, 3) := by decide +kernel
theorem dX4_opens_98 : decode cX4_opens 98 = .ok (.iconst 1, 1) := by decide +kernel
theorem dX4_opens_99 : decode cX4_opens 99 = .ok (.iadd, 1) := by decide +kernel
theorem dX4_opens_100 : decode cX4_opens 100 = .ok (.putfield 115, 3) := by decide +kernel
theorem dX4_opens_103 : decode cX4_opens 103 = .ok (.aload_n 0, 1) := by decide +kernel
theorem dX4_opens_104 : decode cX4_opens 104 = .ok (.getfield 13, 3) := by decide +kernel
end
section
theorem dX4_opens_107 : decode cX4_opens 107 = .ok (.iload_n 1, 1) := by decide +kernel
theorem dX4_opens_108 : decode cX4_opens 108 = .ok (.iconst 0, 1) := by decide +kernel
theorem dX4_opens_109 : decode cX4_opens 109 = .ok (.iastore, 1) := by decide +kernel
theorem dX4_opens_110 : decode cX4_opens 110 = .ok (.aload_n 0, 1) := by decide +kernel
theorem dX4_opens_111 : decode cX4_opens 111 = .ok (.iload_n 1, 1) := by decide +kernel
theorem dX4_opens_112 : decode cX4_opens 112 = .ok (.invokevirtual 171, 3) := by decide +kernel
theorem dX4_opens_115 : decode cX4_opens 115 = .ok (.iload 4, 2) := by decide +kernel
theorem dX4_opens_117 : decode cX4_opens 117 = .ok (.ireturn, 1) := by decide +kernel
theorem dX4_asks_0 : decode cX4_asks 0 = .ok (.aload_n 0, 1) := by decide +kernel
theorem dX4_asks_1 : decode cX4_asks 1 = .ok (.aload_n 0, 1) := by decide +kernel
theorem dX4_asks_2 : decode cX4_asks 2 = .ok (.iload_n 1, 1) := by decide +kernel
theorem dX4_asks_3 : decode cX4_asks 3 = .ok (.invokevirtual 142, 3) := by decide +kernel
theorem dX4_asks_6 : decode cX4_asks 6 = .ok (.ifCond .eq 21, 3) := by decide +kernel
theorem dX4_asks_9 : decode cX4_asks 9 = .ok (.iload_n 2, 1) := by decide +kernel
theorem dX4_asks_10 : decode cX4_asks 10 = .ok (.invokestatic 128, 3) := by decide +kernel
theorem dX4_asks_13 : decode cX4_asks 13 = .ok (.ifCond .eq 14, 3) := by decide +kernel
theorem dX4_asks_16 : decode cX4_asks 16 = .ok (.iload_n 3, 1) := by decide +kernel
theorem dX4_asks_17 : decode cX4_asks 17 = .ok (.invokestatic 121, 3) := by decide +kernel
theorem dX4_asks_20 : decode cX4_asks 20 = .ok (.ifCond .eq 7, 3) := by decide +kernel
theorem dX4_asks_23 : decode cX4_asks 23 = .ok (.iconst 0, 1) := by decide +kernel
theorem dX4_asks_24 : decode cX4_asks 24 = .ok (.goto 4, 3) := by decide +kernel
theorem dX4_asks_27 : decode cX4_asks 27 = .ok (.iconst 1, 1) := by decide +kernel
theorem dX4_asks_28 : decode cX4_asks 28 = .ok (.putfield 104, 3) := by decide +kernel
theorem dX4_asks_31 : decode cX4_asks 31 = .ok (.aload_n 0, 1) := by decide +kernel
theorem dX4_asks_32 : decode cX4_asks 32 = .ok (.getfield 104, 3) := by decide +kernel
theorem dX4_asks_35 : decode cX4_asks 35 = .ok (.ifCond .ne 34, 3) := by decide +kernel
theorem dX4_asks_38 : decode cX4_asks 38 = .ok (.aload_n 0, 1) := by decide +kernel
theorem dX4_asks_39 : decode cX4_asks 39 = .ok (.iload_n 1, 1) := by decide +kernel
theorem dX4_asks_40 : decode cX4_asks 40 = .ok (.iload_n 2, 1) := by decide +kernel
theorem dX4_asks_41 : decode cX4_asks 41 = .ok (.invokevirtual 145, 3) := by decide +kernel
theorem dX4_asks_44 : decode cX4_asks 44 = .ok (.ifCond .eq 20, 3) := by decide +kernel
theorem dX4_asks_47 : decode cX4_asks 47 = .ok (.aload_n 0, 1) := by decide +kernel
theorem dX4_asks_48 : decode cX4_asks 48 = .ok (.iload_n 2, 1) := by decide +kernel
theorem dX4_asks_49 : decode cX4_asks 49 = .ok (.invokevirtual 131, 3) := by decide +kernel
theorem dX4_asks_52 : decode cX4_asks 52 = .ok (.ifCond .ne 12, 3) := by decide +kernel
theorem dX4_asks_55 : decode cX4_asks 55 = .ok (.aload_n 0, 1) := by decide +kernel
theorem dX4_asks_56 : decode cX4_asks 56 = .ok (.iload_n 3, 1) := by decide +kernel
theorem dX4_asks_57 : decode cX4_asks 57 = .ok (.invokevirtual 175, 3) := by decide +kernel
theorem dX4_asks_60 : decode cX4_asks 60 = .ok (.iload_n 1, 1) := by decide +kernel
theorem dX4_asks_61 : decode cX4_asks 61 = .ok (.if_icmp .eq 8, 3) := by decide +kernel
theorem dX4_asks_64 : decode cX4_asks 64 = .ok (.aload_n 0, 1) := by decide +kernel
theorem dX4_asks_65 : decode cX4_asks 65 = .ok (.iconst 2, 1) := by decide +kernel
theorem dX4_asks_66 : decode cX4_asks 66 = .ok (.putfield 104, 3) := by decide +kernel
theorem dX4_asks_69 : decode cX4_asks 69 = .ok (.return_, 1) := by decide +kernel
theorem dX4_dig_0 : decode cX4_dig 0 = .ok (.aload_n 0, 1) := by decide +kernel
theorem dX4_dig_1 : decode cX4_dig 1 = .ok (.iload_n 1, 1) := by decide +kernel
theorem dX4_dig_2 : decode cX4_dig 2 = .ok (.iload_n 2, 1) := by decide +kernel
theorem dX4_dig_3 : decode cX4_dig 3 = .ok (.iload_n 3, 1) := by decide +kernel
theorem dX4_dig_4 : decode cX4_dig 4 = .ok (.invokevirtual 178, 3) := by decide +kernel
theorem dX4_dig_7 : decode cX4_dig 7 = .ok (.aload_n 0, 1) := by decide +kernel
theorem dX4_dig_8 : decode cX4_dig 8 = .ok (.getfield 104, 3) := by decide +kernel
theorem dX4_dig_11 : decode cX4_dig 11 = .ok (.ifCond .ne 26, 3) := by decide +kernel
theorem dX4_dig_14 : decode cX4_dig 14 = .ok (.aload_n 0, 1) := by decide +kernel
theorem dX4_dig_15 : decode cX4_dig 15 = .ok (.getfield 7, 3) := by decide +kernel
theorem dX4_dig_18 : decode cX4_dig 18 = .ok (.iload_n 3, 1) := by decide +kernel
theorem dX4_dig_19 : decode cX4_dig 19 = .ok (.iaload, 1) := by decide +kernel
theorem dX4_dig_20 : decode cX4_dig 20 = .ok (.iconst 1, 1) := by decide +kernel
theorem dX4_dig_21 : decode cX4_dig 21 = .ok (.if_icmp .eq 11, 3) := by decide +kernel
theorem dX4_dig_24 : decode cX4_dig 24 = .ok (.aload_n 0, 1) := by decide +kernel
theorem dX4_dig_25 : decode cX4_dig 25 = .ok (.iload_n 3, 1) := by decide +kernel
theorem dX4_dig_26 : decode cX4_dig 26 = .ok (.invokevirtual 182, 3) := by decide +kernel
theorem dX4_dig_29 : decode cX4_dig 29 = .ok (.ifCond .ne 8, 3) := by decide +kernel
theorem dX4_dig_32 : decode cX4_dig 32 = .ok (.aload_n 0, 1) := by decide +kernel
theorem dX4_dig_33 : decode cX4_dig 33 = .ok (.iconst 2, 1) := by decide +kernel
theorem dX4_dig_34 : decode cX4_dig 34 = .ok (.putfield 104, 3) := by decide +kernel
theorem dX4_dig_37 : decode cX4_dig 37 = .ok (.aload_n 0, 1) := by decide +kernel
theorem dX4_dig_38 : decode cX4_dig 38 = .ok (.getfield 104, 3) := by decide +kernel
theorem dX4_dig_41 : decode cX4_dig 41 = .ok (.ifCond .le 5, 3) := by decide +kernel
theorem dX4_dig_44 : decode cX4_dig 44 = .ok (.iconst 0, 1) := by decide +kernel
theorem dX4_dig_45 : decode cX4_dig 45 = .ok (.ireturn, 1) := by decide +kernel
theorem dX4_dig_46 : decode cX4_dig 46 = .ok (.aload_n 0, 1) := by decide +kernel
theorem dX4_dig_47 : decode cX4_dig 47 = .ok (.getfield 47, 3) := by decide +kernel
theorem dX4_dig_50 : decode cX4_dig 50 = .ok (.iload_n 1, 1) := by decide +kernel
theorem dX4_dig_51 : decode cX4_dig 51 = .ok (.aload_n 0, 1) := by decide +kernel
theorem dX4_dig_52 : decode cX4_dig 52 = .ok (.getfield 118, 3) := by decide +kernel
theorem dX4_dig_55 : decode cX4_dig 55 = .ok (.iastore, 1) := by decide +kernel
theorem dX4_dig_56 : decode cX4_dig 56 = .ok (.aload_n 0, 1) := by decide +kernel
theorem dX4_dig_57 : decode cX4_dig 57 = .ok (.iload_n 3, 1) := by decide +kernel
theorem dX4_dig_58 : decode cX4_dig 58 = .ok (.iconst (-1), 1) := by decide +kernel
theorem dX4_dig_59 : decode cX4_dig 59 = .ok (.iload_n 1, 1) := by decide +kernel
theorem dX4_dig_60 : decode cX4_dig 60 = .ok (.invokevirtual 185, 3) := by decide +kernel
theorem dX4_dig_63 : decode cX4_dig 63 = .ok (.ireturn, 1) := by decide +kernel
theorem dX4_sink_0 : decode cX4_sink 0 = .ok (.aload_n 0, 1) := by decide +kernel
theorem dX4_sink_1 : decode cX4_sink 1 = .ok (.iload_n 1, 1) := by decide +kernel
theorem dX4_sink_2 : decode cX4_sink 2 = .ok (.iload_n 2, 1) := by decide +kernel
theorem dX4_sink_3 : decode cX4_sink 3 = .ok (.iload_n 3, 1) := by decide +kernel
theorem dX4_sink_4 : decode cX4_sink 4 = .ok (.invokevirtual 178, 3) := by decide +kernel
theorem dX4_sink_7 : decode cX4_sink 7 = .ok (.aload_n 0, 1) := by decide +kernel
theorem dX4_sink_8 : decode cX4_sink 8 = .ok (.getfield 104, 3) := by decide +kernel
theorem dX4_sink_11 : decode cX4_sink 11 = .ok (.ifCond .ne 28, 3) := by decide +kernel
theorem dX4_sink_14 : decode cX4_sink 14 = .ok (.aload_n 0, 1) := by decide +kernel
theorem dX4_sink_15 : decode cX4_sink 15 = .ok (.getfield 7, 3) := by decide +kernel
theorem dX4_sink_18 : decode cX4_sink 18 = .ok (.iload_n 3, 1) := by decide +kernel
theorem dX4_sink_19 : decode cX4_sink 19 = .ok (.iaload, 1) := by decide +kernel
theorem dX4_sink_20 : decode cX4_sink 20 = .ok (.iconst 1, 1) := by decide +kernel
theorem dX4_sink_21 : decode cX4_sink 21 = .ok (.if_icmp .eq 13, 3) := by decide +kernel
theorem dX4_sink_24 : decode cX4_sink 24 = .ok (.aload_n 0, 1) := by decide +kernel
theorem dX4_sink_25 : decode cX4_sink 25 = .ok (.getfield 50, 3) := by decide +kernel
theorem dX4_sink_28 : decode cX4_sink 28 = .ok (.iload_n 1, 1) := by decide +kernel
theorem dX4_sink_29 : decode cX4_sink 29 = .ok (.iaload, 1) := by decide +kernel
theorem dX4_sink_30 : decode cX4_sink 30 = .ok (.iconst 2, 1) := by decide +kernel
theorem dX4_sink_31 : decode cX4_sink 31 = .ok (.if_icmp .ne 8, 3) := by decide +kernel
theorem dX4_sink_34 : decode cX4_sink 34 = .ok (.aload_n 0, 1) := by decide +kernel
theorem dX4_sink_35 : decode cX4_sink 35 = .ok (.iconst 2, 1) := by decide +kernel
theorem dX4_sink_36 : decode cX4_sink 36 = .ok (.putfield 104, 3) := by decide +kernel
theorem dX4_sink_39 : decode cX4_sink 39 = .ok (.aload_n 0, 1) := by decide +kernel
theorem dX4_sink_40 : decode cX4_sink 40 = .ok (.getfield 104, 3) := by decide +kernel
theorem dX4_sink_43 : decode cX4_sink 43 = .ok (.ifCond .le 5, 3) := by decide +kernel
theorem dX4_sink_46 : decode cX4_sink 46 = .ok (.iconst 0, 1) := by decide +kernel
theorem dX4_sink_47 : decode cX4_sink 47 = .ok (.ireturn, 1) := by decide +kernel
theorem dX4_sink_48 : decode cX4_sink 48 = .ok (.aload_n 0, 1) := by decide +kernel
theorem dX4_sink_49 : decode cX4_sink 49 = .ok (.getfield 47, 3) := by decide +kernel
theorem dX4_sink_52 : decode cX4_sink 52 = .ok (.iload_n 1, 1) := by decide +kernel
theorem dX4_sink_53 : decode cX4_sink 53 = .ok (.aload_n 0, 1) := by decide +kernel
theorem dX4_sink_54 : decode cX4_sink 54 = .ok (.getfield 118, 3) := by decide +kernel
theorem dX4_sink_57 : decode cX4_sink 57 = .ok (.iastore, 1) := by decide +kernel
theorem dX4_sink_58 : decode cX4_sink 58 = .ok (.aload_n 0, 1) := by decide +kernel
theorem dX4_sink_59 : decode cX4_sink 59 = .ok (.getfield 50, 3) := by decide +kernel
theorem dX4_sink_62 : decode cX4_sink 62 = .ok (.iload_n 1, 1) := by decide +kernel
theorem dX4_sink_63 : decode cX4_sink 63 = .ok (.dup2, 1) := by decide +kernel
theorem dX4_sink_64 : decode cX4_sink 64 = .ok (.iaload, 1) := by decide +kernel
theorem dX4_sink_65 : decode cX4_sink 65 = .ok (.iconst 1, 1) := by decide +kernel
theorem dX4_sink_66 : decode cX4_sink 66 = .ok (.iadd, 1) := by decide +kernel
theorem dX4_sink_67 : decode cX4_sink 67 = .ok (.iastore, 1) := by decide +kernel
theorem dX4_sink_68 : decode cX4_sink 68 = .ok (.aload_n 0, 1) := by decide +kernel
theorem dX4_sink_69 : decode cX4_sink 69 = .ok (.iload_n 3, 1) := by decide +kernel
theorem dX4_sink_70 : decode cX4_sink 70 = .ok (.iconst (-1), 1) := by decide +kernel
theorem dX4_sink_71 : decode cX4_sink 71 = .ok (.iload_n 1, 1) := by decide +kernel
theorem dX4_sink_72 : decode cX4_sink 72 = .ok (.invokevirtual 185, 3) := by decide +kernel
theorem dX4_sink_75 : decode cX4_sink 75 = .ok (.ireturn, 1) := by decide +kernel
theorem dX4_prop_0 : decode cX4_prop 0 = .ok (.aload_n 0, 1) := by decide +kernel
theorem dX4_prop_1 : decode cX4_prop 1 = .ok (.iload_n 1, 1) := by decide +kernel
theorem dX4_prop_2 : decode cX4_prop 2 = .ok (.iload_n 2, 1) := by decide +kernel
theorem dX4_prop_3 : decode cX4_prop 3 = .ok (.iload_n 3, 1) := by decide +kernel
theorem dX4_prop_4 : decode cX4_prop 4 = .ok (.invokevirtual 178, 3) := by decide +kernel
theorem dX4_prop_7 : decode cX4_prop 7 = .ok (.aload_n 0, 1) := by decide +kernel
theorem dX4_prop_8 : decode cX4_prop 8 = .ok (.getfield 104, 3) := by decide +kernel
theorem dX4_prop_11 : decode cX4_prop 11 = .ok (.ifCond .ne 27, 3) := by decide +kernel
theorem dX4_prop_14 : decode cX4_prop 14 = .ok (.aload_n 0, 1) := by decide +kernel
theorem dX4_prop_15 : decode cX4_prop 15 = .ok (.getfield 7, 3) := by decide +kernel
theorem dX4_prop_18 : decode cX4_prop 18 = .ok (.iload_n 3, 1) := by decide +kernel
theorem dX4_prop_19 : decode cX4_prop 19 = .ok (.iaload, 1) := by decide +kernel
theorem dX4_prop_20 : decode cX4_prop 20 = .ok (.iconst 1, 1) := by decide +kernel
theorem dX4_prop_21 : decode cX4_prop 21 = .ok (.if_icmp .ne 12, 3) := by decide +kernel
theorem dX4_prop_24 : decode cX4_prop 24 = .ok (.aload_n 0, 1) := by decide +kernel
theorem dX4_prop_25 : decode cX4_prop 25 = .ok (.getfield 23, 3) := by decide +kernel
theorem dX4_prop_28 : decode cX4_prop 28 = .ok (.iload_n 3, 1) := by decide +kernel
theorem dX4_prop_29 : decode cX4_prop 29 = .ok (.baload, 1) := by decide +kernel
theorem dX4_prop_30 : decode cX4_prop 30 = .ok (.ifCond .eq 8, 3) := by decide +kernel
theorem dX4_prop_33 : decode cX4_prop 33 = .ok (.aload_n 0, 1) := by decide +kernel
theorem dX4_prop_34 : decode cX4_prop 34 = .ok (.iconst 2, 1) := by decide +kernel
theorem dX4_prop_35 : decode cX4_prop 35 = .ok (.putfield 104, 3) := by decide +kernel
theorem dX4_prop_38 : decode cX4_prop 38 = .ok (.aload_n 0, 1) := by decide +kernel
theorem dX4_prop_39 : decode cX4_prop 39 = .ok (.getfield 104, 3) := by decide +kernel
theorem dX4_prop_42 : decode cX4_prop 42 = .ok (.ifCond .ne 10, 3) := by decide +kernel
theorem dX4_prop_45 : decode cX4_prop 45 = .ok (.aload_n 0, 1) := by decide +kernel
theorem dX4_prop_46 : decode cX4_prop 46 = .ok (.getfield 23, 3) := by decide +kernel
theorem dX4_prop_49 : decode cX4_prop 49 = .ok (.iload_n 3, 1) := by decide +kernel
theorem dX4_prop_50 : decode cX4_prop 50 = .ok (.iconst 1, 1) := by decide +kernel
theorem dX4_prop_51 : decode cX4_prop 51 = .ok (.bastore, 1) := by decide +kernel
theorem dX4_prop_52 : decode cX4_prop 52 = .ok (.return_, 1) := by decide +kernel
theorem dX4_trapsOf_0 : decode cX4_trapsOf 0 = .ok (.iconst 0, 1) := by decide +kernel
theorem dX4_trapsOf_1 : decode cX4_trapsOf 1 = .ok (.istore_n 2, 1) := by decide +kernel
theorem dX4_trapsOf_2 : decode cX4_trapsOf 2 = .ok (.iconst 0, 1) := by decide +kernel
theorem dX4_trapsOf_3 : decode cX4_trapsOf 3 = .ok (.istore_n 3, 1) := by decide +kernel
theorem dX4_trapsOf_4 : decode cX4_trapsOf 4 = .ok (.iload_n 3, 1) := by decide +kernel
theorem dX4_trapsOf_5 : decode cX4_trapsOf 5 = .ok (.bipush 100, 2) := by decide +kernel
theorem dX4_trapsOf_7 : decode cX4_trapsOf 7 = .ok (.if_icmp .ge 27, 3) := by decide +kernel
theorem dX4_trapsOf_10 : decode cX4_trapsOf 10 = .ok (.iload_n 2, 1) := by decide +kernel
theorem dX4_trapsOf_11 : decode cX4_trapsOf 11 = .ok (.aload_n 0, 1) := by decide +kernel
theorem dX4_trapsOf_12 : decode cX4_trapsOf 12 = .ok (.getfield 26, 3) := by decide +kernel
theorem dX4_trapsOf_15 : decode cX4_trapsOf 15 = .ok (.iload_n 3, 1) := by decide +kernel
theorem dX4_trapsOf_16 : decode cX4_trapsOf 16 = .ok (.iaload, 1) := by decide +kernel
theorem dX4_trapsOf_17 : decode cX4_trapsOf 17 = .ok (.iload_n 1, 1) := by decide +kernel
theorem dX4_trapsOf_18 : decode cX4_trapsOf 18 = .ok (.if_icmp .ne 7, 3) := by decide +kernel
theorem dX4_trapsOf_21 : decode cX4_trapsOf 21 = .ok (.iconst 1, 1) := by decide +kernel
theorem dX4_trapsOf_22 : decode cX4_trapsOf 22 = .ok (.goto 4, 3) := by decide +kernel
theorem dX4_trapsOf_25 : decode cX4_trapsOf 25 = .ok (.iconst 0, 1) := by decide +kernel
theorem dX4_trapsOf_26 : decode cX4_trapsOf 26 = .ok (.iadd, 1) := by decide +kernel
theorem dX4_trapsOf_27 : decode cX4_trapsOf 27 = .ok (.istore_n 2, 1) := by decide +kernel
theorem dX4_trapsOf_28 : decode cX4_trapsOf 28 = .ok (.iinc 3 1, 3) := by decide +kernel
theorem dX4_trapsOf_31 : decode cX4_trapsOf 31 = .ok (.goto (-27), 3) := by decide +kernel
theorem dX4_trapsOf_34 : decode cX4_trapsOf 34 = .ok (.iload_n 2, 1) := by decide +kernel
theorem dX4_trapsOf_35 : decode cX4_trapsOf 35 = .ok (.ireturn, 1) := by decide +kernel
theorem dX4_trap_0 : decode cX4_trap 0 = .ok (.aload_n 0, 1) := by decide +kernel
theorem dX4_trap_1 : decode cX4_trap 1 = .ok (.iload_n 1, 1) := by decide +kernel
theorem dX4_trap_2 : decode cX4_trap 2 = .ok (.iload_n 2, 1) := by decide +kernel
theorem dX4_trap_3 : decode cX4_trap 3 = .ok (.iload_n 3, 1) := by decide +kernel
theorem dX4_trap_4 : decode cX4_trap 4 = .ok (.invokevirtual 178, 3) := by decide +kernel
theorem dX4_trap_7 : decode cX4_trap 7 = .ok (.aload_n 0, 1) := by decide +kernel
theorem dX4_trap_8 : decode cX4_trap 8 = .ok (.getfield 104, 3) := by decide +kernel
theorem dX4_trap_11 : decode cX4_trap 11 = .ok (.ifCond .ne 37, 3) := by decide +kernel
theorem dX4_trap_14 : decode cX4_trap 14 = .ok (.aload_n 0, 1) := by decide +kernel
theorem dX4_trap_15 : decode cX4_trap 15 = .ok (.getfield 7, 3) := by decide +kernel
theorem dX4_trap_18 : decode cX4_trap 18 = .ok (.iload_n 3, 1) := by decide +kernel
theorem dX4_trap_19 : decode cX4_trap 19 = .ok (.iaload, 1) := by decide +kernel
theorem dX4_trap_20 : decode cX4_trap 20 = .ok (.iconst 1, 1) := by decide +kernel
theorem dX4_trap_21 : decode cX4_trap 21 = .ok (.if_icmp .eq 22, 3) := by decide +kernel
theorem dX4_trap_24 : decode cX4_trap 24 = .ok (.aload_n 0, 1) := by decide +kernel
theorem dX4_trap_25 : decode cX4_trap 25 = .ok (.getfield 26, 3) := by decide +kernel
theorem dX4_trap_28 : decode cX4_trap 28 = .ok (.iload_n 3, 1) := by decide +kernel
theorem dX4_trap_29 : decode cX4_trap 29 = .ok (.iaload, 1) := by decide +kernel
theorem dX4_trap_30 : decode cX4_trap 30 = .ok (.iconst (-1), 1) := by decide +kernel
theorem dX4_trap_31 : decode cX4_trap 31 = .ok (.if_icmp .ne 12, 3) := by decide +kernel
theorem dX4_trap_34 : decode cX4_trap 34 = .ok (.aload_n 0, 1) := by decide +kernel
theorem dX4_trap_35 : decode cX4_trap 35 = .ok (.iload_n 1, 1) := by decide +kernel
theorem dX4_trap_36 : decode cX4_trap 36 = .ok (.invokevirtual 189, 3) := by decide +kernel
theorem dX4_trap_39 : decode cX4_trap 39 = .ok (.iconst 3, 1) := by decide +kernel
theorem dX4_trap_40 : decode cX4_trap 40 = .ok (.if_icmp .ne 8, 3) := by decide +kernel
theorem dX4_trap_43 : decode cX4_trap 43 = .ok (.aload_n 0, 1) := by decide +kernel
theorem dX4_trap_44 : decode cX4_trap 44 = .ok (.iconst 2, 1) := by decide +kernel
theorem dX4_trap_45 : decode cX4_trap 45 = .ok (.putfield 104, 3) := by decide +kernel
theorem dX4_trap_48 : decode cX4_trap 48 = .ok (.aload_n 0, 1) := by decide +kernel
theorem dX4_trap_49 : decode cX4_trap 49 = .ok (.getfield 104, 3) := by decide +kernel
theorem dX4_trap_52 : decode cX4_trap 52 = .ok (.ifCond .le 5, 3) := by decide +kernel
theorem dX4_trap_55 : decode cX4_trap 55 = .ok (.iconst 0, 1) := by decide +kernel
theorem dX4_trap_56 : decode cX4_trap 56 = .ok (.ireturn, 1) := by decide +kernel
theorem dX4_trap_57 : decode cX4_trap 57 = .ok (.aload_n 0, 1) := by decide +kernel
theorem dX4_trap_58 : decode cX4_trap 58 = .ok (.getfield 26, 3) := by decide +kernel
theorem dX4_trap_61 : decode cX4_trap 61 = .ok (.iload_n 3, 1) := by decide +kernel
theorem dX4_trap_62 : decode cX4_trap 62 = .ok (.iload_n 1, 1) := by decide +kernel
theorem dX4_trap_63 : decode cX4_trap 63 = .ok (.iastore, 1) := by decide +kernel
theorem dX4_trap_64 : decode cX4_trap 64 = .ok (.aload_n 0, 1) := by decide +kernel
theorem dX4_trap_65 : decode cX4_trap 65 = .ok (.iload_n 1, 1) := by decide +kernel
theorem dX4_trap_66 : decode cX4_trap 66 = .ok (.invokevirtual 189, 3) := by decide +kernel
theorem dX4_trap_69 : decode cX4_trap 69 = .ok (.ireturn, 1) := by decide +kernel
theorem dX4_isNight_0 : decode cX4_isNight 0 = .ok (.aload_n 0, 1) := by decide +kernel
theorem dX4_isNight_1 : decode cX4_isNight 1 = .ok (.getfield 118, 3) := by decide +kernel
theorem dX4_isNight_4 : decode cX4_isNight 4 = .ok (.bipush 24, 2) := by decide +kernel
theorem dX4_isNight_6 : decode cX4_isNight 6 = .ok (.irem, 1) := by decide +kernel
theorem dX4_isNight_7 : decode cX4_isNight 7 = .ok (.istore_n 1, 1) := by decide +kernel
theorem dX4_isNight_8 : decode cX4_isNight 8 = .ok (.iload_n 1, 1) := by decide +kernel
theorem dX4_isNight_9 : decode cX4_isNight 9 = .ok (.bipush 21, 2) := by decide +kernel
theorem dX4_isNight_11 : decode cX4_isNight 11 = .ok (.if_icmp .ge 8, 3) := by decide +kernel
theorem dX4_isNight_14 : decode cX4_isNight 14 = .ok (.iload_n 1, 1) := by decide +kernel
theorem dX4_isNight_15 : decode cX4_isNight 15 = .ok (.iconst 4, 1) := by decide +kernel
theorem dX4_isNight_16 : decode cX4_isNight 16 = .ok (.if_icmp .gt 7, 3) := by decide +kernel
theorem dX4_isNight_19 : decode cX4_isNight 19 = .ok (.iconst 1, 1) := by decide +kernel
theorem dX4_isNight_20 : decode cX4_isNight 20 = .ok (.goto 4, 3) := by decide +kernel
theorem dX4_isNight_23 : decode cX4_isNight 23 = .ok (.iconst 0, 1) := by decide +kernel
theorem dX4_isNight_24 : decode cX4_isNight 24 = .ok (.ireturn, 1) := by decide +kernel
theorem dX4_canRat_0 : decode cX4_canRat 0 = .ok (.aload_n 0, 1) := by decide +kernel
theorem dX4_canRat_1 : decode cX4_canRat 1 = .ok (.iload_n 2, 1) := by decide +kernel
theorem dX4_canRat_2 : decode cX4_canRat 2 = .ok (.invokevirtual 175, 3) := by decide +kernel
theorem dX4_canRat_5 : decode cX4_canRat 5 = .ok (.istore_n 3, 1) := by decide +kernel
theorem dX4_canRat_6 : decode cX4_canRat 6 = .ok (.aload_n 0, 1) := by decide +kernel
theorem dX4_canRat_7 : decode cX4_canRat 7 = .ok (.invokevirtual 192, 3) := by decide +kernel
theorem dX4_canRat_10 : decode cX4_canRat 10 = .ok (.ifCond .eq 29, 3) := by decide +kernel
theorem dX4_canRat_13 : decode cX4_canRat 13 = .ok (.aload_n 0, 1) := by decide +kernel
theorem dX4_canRat_14 : decode cX4_canRat 14 = .ok (.iload_n 1, 1) := by decide +kernel
theorem dX4_canRat_15 : decode cX4_canRat 15 = .ok (.invokevirtual 131, 3) := by decide +kernel
theorem dX4_canRat_18 : decode cX4_canRat 18 = .ok (.ifCond .ne 21, 3) := by decide +kernel
theorem dX4_canRat_21 : decode cX4_canRat 21 = .ok (.iload_n 3, 1) := by decide +kernel
theorem dX4_canRat_22 : decode cX4_canRat 22 = .ok (.iconst (-1), 1) := by decide +kernel
theorem dX4_canRat_23 : decode cX4_canRat 23 = .ok (.if_icmp .eq 16, 3) := by decide +kernel
theorem dX4_canRat_26 : decode cX4_canRat 26 = .ok (.aload_n 0, 1) := by decide +kernel
theorem dX4_canRat_27 : decode cX4_canRat 27 = .ok (.iload_n 3, 1) := by decide +kernel
theorem dX4_canRat_28 : decode cX4_canRat 28 = .ok (.iload_n 1, 1) := by decide +kernel
theorem dX4_canRat_29 : decode cX4_canRat 29 = .ok (.invokevirtual 145, 3) := by decide +kernel
theorem dX4_canRat_32 : decode cX4_canRat 32 = .ok (.ifCond .ne 7, 3) := by decide +kernel
theorem dX4_canRat_35 : decode cX4_canRat 35 = .ok (.iconst 1, 1) := by decide +kernel
theorem dX4_canRat_36 : decode cX4_canRat 36 = .ok (.goto 4, 3) := by decide +kernel
theorem dX4_canRat_39 : decode cX4_canRat 39 = .ok (.iconst 0, 1) := by decide +kernel
theorem dX4_canRat_40 : decode cX4_canRat 40 = .ok (.istore 4, 2) := by decide +kernel
theorem dX4_canRat_42 : decode cX4_canRat 42 = .ok (.iload 4, 2) := by decide +kernel
theorem dX4_canRat_44 : decode cX4_canRat 44 = .ok (.ifCond .eq 25, 3) := by decide +kernel
theorem dX4_canRat_47 : decode cX4_canRat 47 = .ok (.aload_n 0, 1) := by decide +kernel
theorem dX4_canRat_48 : decode cX4_canRat 48 = .ok (.getfield 7, 3) := by decide +kernel
theorem dX4_canRat_51 : decode cX4_canRat 51 = .ok (.iload_n 2, 1) := by decide +kernel
theorem dX4_canRat_52 : decode cX4_canRat 52 = .ok (.iaload, 1) := by decide +kernel
theorem dX4_canRat_53 : decode cX4_canRat 53 = .ok (.iconst 1, 1) := by decide +kernel
theorem dX4_canRat_54 : decode cX4_canRat 54 = .ok (.if_icmp .eq 15, 3) := by decide +kernel
theorem dX4_canRat_57 : decode cX4_canRat 57 = .ok (.aload_n 0, 1) := by decide +kernel
theorem dX4_canRat_58 : decode cX4_canRat 58 = .ok (.iload_n 2, 1) := by decide +kernel
theorem dX4_canRat_59 : decode cX4_canRat 59 = .ok (.invokevirtual 182, 3) := by decide +kernel
theorem dX4_canRat_62 : decode cX4_canRat 62 = .ok (.ifCond .eq 7, 3) := by decide +kernel
theorem dX4_canRat_65 : decode cX4_canRat 65 = .ok (.iconst 1, 1) := by decide +kernel
theorem dX4_canRat_66 : decode cX4_canRat 66 = .ok (.goto 4, 3) := by decide +kernel
theorem dX4_canRat_69 : decode cX4_canRat 69 = .ok (.iconst 0, 1) := by decide +kernel
theorem dX4_canRat_70 : decode cX4_canRat 70 = .ok (.ireturn, 1) := by decide +kernel
theorem dX4_rat_0 : decode cX4_rat 0 = .ok (.aload_n 0, 1) := by decide +kernel
theorem dX4_rat_1 : decode cX4_rat 1 = .ok (.iload_n 1, 1) := by decide +kernel
theorem dX4_rat_2 : decode cX4_rat 2 = .ok (.invokestatic 128, 3) := by decide +kernel
theorem dX4_rat_5 : decode cX4_rat 5 = .ok (.ifCond .eq 14, 3) := by decide +kernel
theorem dX4_rat_8 : decode cX4_rat 8 = .ok (.iload_n 2, 1) := by decide +kernel
theorem dX4_rat_9 : decode cX4_rat 9 = .ok (.invokestatic 121, 3) := by decide +kernel
theorem dX4_rat_12 : decode cX4_rat 12 = .ok (.ifCond .eq 7, 3) := by decide +kernel
theorem dX4_rat_15 : decode cX4_rat 15 = .ok (.iconst 0, 1) := by decide +kernel
theorem dX4_rat_16 : decode cX4_rat 16 = .ok (.goto 4, 3) := by decide +kernel
theorem dX4_rat_19 : decode cX4_rat 19 = .ok (.iconst 1, 1) := by decide +kernel
theorem dX4_rat_20 : decode cX4_rat 20 = .ok (.putfield 104, 3) := by decide +kernel
theorem dX4_rat_23 : decode cX4_rat 23 = .ok (.aload_n 0, 1) := by decide +kernel
theorem dX4_rat_24 : decode cX4_rat 24 = .ok (.getfield 104, 3) := by decide +kernel
theorem dX4_rat_27 : decode cX4_rat 27 = .ok (.ifCond .ne 17, 3) := by decide +kernel
theorem dX4_rat_30 : decode cX4_rat 30 = .ok (.aload_n 0, 1) := by decide +kernel
theorem dX4_rat_31 : decode cX4_rat 31 = .ok (.iload_n 1, 1) := by decide +kernel
theorem dX4_rat_32 : decode cX4_rat 32 = .ok (.iload_n 2, 1) := by decide +kernel
theorem dX4_rat_33 : decode cX4_rat 33 = .ok (.invokevirtual 196, 3) := by decide +kernel
theorem dX4_rat_36 : decode cX4_rat 36 = .ok (.ifCond .ne 8, 3) := by decide +kernel
theorem dX4_rat_39 : decode cX4_rat 39 = .ok (.aload_n 0, 1) := by decide +kernel
theorem dX4_rat_40 : decode cX4_rat 40 = .ok (.iconst 2, 1) := by decide +kernel
theorem dX4_rat_41 : decode cX4_rat 41 = .ok (.putfield 104, 3) := by decide +kernel
theorem dX4_rat_44 : decode cX4_rat 44 = .ok (.aload_n 0, 1) := by decide +kernel
theorem dX4_rat_45 : decode cX4_rat 45 = .ok (.getfield 104, 3) := by decide +kernel
theorem dX4_rat_48 : decode cX4_rat 48 = .ok (.ifCond .le 5, 3) := by decide +kernel
theorem dX4_rat_51 : decode cX4_rat 51 = .ok (.iconst 0, 1) := by decide +kernel
theorem dX4_rat_52 : decode cX4_rat 52 = .ok (.ireturn, 1) := by decide +kernel
theorem dX4_rat_53 : decode cX4_rat 53 = .ok (.aload_n 0, 1) := by decide +kernel
theorem dX4_rat_54 : decode cX4_rat 54 = .ok (.getfield 26, 3) := by decide +kernel
theorem dX4_rat_57 : decode cX4_rat 57 = .ok (.iload_n 2, 1) := by decide +kernel
theorem dX4_rat_58 : decode cX4_rat 58 = .ok (.iaload, 1) := by decide +kernel
theorem dX4_rat_59 : decode cX4_rat 59 = .ok (.iconst (-1), 1) := by decide +kernel
theorem dX4_rat_60 : decode cX4_rat 60 = .ok (.if_icmp .eq 36, 3) := by decide +kernel
theorem dX4_rat_63 : decode cX4_rat 63 = .ok (.aload_n 0, 1) := by decide +kernel
theorem dX4_rat_64 : decode cX4_rat 64 = .ok (.getfield 26, 3) := by decide +kernel
theorem dX4_rat_67 : decode cX4_rat 67 = .ok (.iload_n 2, 1) := by decide +kernel
theorem dX4_rat_68 : decode cX4_rat 68 = .ok (.iconst (-1), 1) := by decide +kernel
theorem dX4_rat_69 : decode cX4_rat 69 = .ok (.iastore, 1) := by decide +kernel
theorem dX4_rat_70 : decode cX4_rat 70 = .ok (.aload_n 0, 1) := by decide +kernel
theorem dX4_rat_71 : decode cX4_rat 71 = .ok (.getfield 59, 3) := by decide +kernel
theorem dX4_rat_74 : decode cX4_rat 74 = .ok (.iload_n 1, 1) := by decide +kernel
theorem dX4_rat_75 : decode cX4_rat 75 = .ok (.aload_n 0, 1) := by decide +kernel
theorem dX4_rat_76 : decode cX4_rat 76 = .ok (.getfield 118, 3) := by decide +kernel
theorem dX4_rat_79 : decode cX4_rat 79 = .ok (.sipush 168, 3) := by decide +kernel
theorem dX4_rat_82 : decode cX4_rat 82 = .ok (.iadd, 1) := by decide +kernel
theorem dX4_rat_83 : decode cX4_rat 83 = .ok (.iastore, 1) := by decide +kernel
theorem dX4_rat_84 : decode cX4_rat 84 = .ok (.aload_n 0, 1) := by decide +kernel
theorem dX4_rat_85 : decode cX4_rat 85 = .ok (.getfield 65, 3) := by decide +kernel
theorem dX4_rat_88 : decode cX4_rat 88 = .ok (.iload_n 1, 1) := by decide +kernel
theorem dX4_rat_89 : decode cX4_rat 89 = .ok (.dup2, 1) := by decide +kernel
theorem dX4_rat_90 : decode cX4_rat 90 = .ok (.iaload, 1) := by decide +kernel
theorem dX4_rat_91 : decode cX4_rat 91 = .ok (.iconst 1, 1) := by decide +kernel
theorem dX4_rat_92 : decode cX4_rat 92 = .ok (.iadd, 1) := by decide +kernel
theorem dX4_rat_93 : decode cX4_rat 93 = .ok (.iastore, 1) := by decide +kernel
theorem dX4_rat_94 : decode cX4_rat 94 = .ok (.iconst (-1), 1) := by decide +kernel
theorem dX4_rat_95 : decode cX4_rat 95 = .ok (.ireturn, 1) := by decide +kernel
theorem dX4_rat_96 : decode cX4_rat 96 = .ok (.aload_n 0, 1) := by decide +kernel
theorem dX4_rat_97 : decode cX4_rat 97 = .ok (.iload_n 2, 1) := by decide +kernel
theorem dX4_rat_98 : decode cX4_rat 98 = .ok (.iload_n 1, 1) := by decide +kernel
theorem dX4_rat_99 : decode cX4_rat 99 = .ok (.iconst (-1), 1) := by decide +kernel
theorem dX4_rat_100 : decode cX4_rat 100 = .ok (.invokevirtual 185, 3) := by decide +kernel
theorem dX4_rat_103 : decode cX4_rat 103 = .ok (.ireturn, 1) := by decide +kernel
theorem dX4_isIn_0 : decode cX4_isIn 0 = .ok (.aload_n 0, 1) := by decide +kernel
theorem dX4_isIn_1 : decode cX4_isIn 1 = .ok (.getfield 83, 3) := by decide +kernel
theorem dX4_isIn_4 : decode cX4_isIn 4 = .ok (.iload_n 1, 1) := by decide +kernel
theorem dX4_isIn_5 : decode cX4_isIn 5 = .ok (.iaload, 1) := by decide +kernel
theorem dX4_isIn_6 : decode cX4_isIn 6 = .ok (.iload_n 2, 1) := by decide +kernel
theorem dX4_isIn_7 : decode cX4_isIn 7 = .ok (.if_icmp .ne 17, 3) := by decide +kernel
theorem dX4_isIn_10 : decode cX4_isIn 10 = .ok (.aload_n 0, 1) := by decide +kernel
theorem dX4_isIn_11 : decode cX4_isIn 11 = .ok (.getfield 80, 3) := by decide +kernel
theorem dX4_isIn_14 : decode cX4_isIn 14 = .ok (.iload_n 1, 1) := by decide +kernel
theorem dX4_isIn_15 : decode cX4_isIn 15 = .ok (.iaload, 1) := by decide +kernel
theorem dX4_isIn_16 : decode cX4_isIn 16 = .ok (.iconst (-1), 1) := by decide +kernel
theorem dX4_isIn_17 : decode cX4_isIn 17 = .ok (.if_icmp .ne 7, 3) := by decide +kernel
theorem dX4_isIn_20 : decode cX4_isIn 20 = .ok (.iconst 1, 1) := by decide +kernel
theorem dX4_isIn_21 : decode cX4_isIn 21 = .ok (.goto 4, 3) := by decide +kernel
theorem dX4_isIn_24 : decode cX4_isIn 24 = .ok (.iconst 0, 1) := by decide +kernel
theorem dX4_isIn_25 : decode cX4_isIn 25 = .ok (.ireturn, 1) := by decide +kernel
theorem dX4_parcel_0 : decode cX4_parcel 0 = .ok (.iconst 0, 1) := by decide +kernel
theorem dX4_parcel_1 : decode cX4_parcel 1 = .ok (.istore_n 2, 1) := by decide +kernel
theorem dX4_parcel_2 : decode cX4_parcel 2 = .ok (.iconst 0, 1) := by decide +kernel
theorem dX4_parcel_3 : decode cX4_parcel 3 = .ok (.istore_n 3, 1) := by decide +kernel
theorem dX4_parcel_4 : decode cX4_parcel 4 = .ok (.iload_n 3, 1) := by decide +kernel
theorem dX4_parcel_5 : decode cX4_parcel 5 = .ok (.aload_n 0, 1) := by decide +kernel
theorem dX4_parcel_6 : decode cX4_parcel 6 = .ok (.getfield 115, 3) := by decide +kernel
theorem dX4_parcel_9 : decode cX4_parcel 9 = .ok (.if_icmp .ge 26, 3) := by decide +kernel
theorem dX4_parcel_12 : decode cX4_parcel 12 = .ok (.iload_n 2, 1) := by decide +kernel
theorem dX4_parcel_13 : decode cX4_parcel 13 = .ok (.aload_n 0, 1) := by decide +kernel
theorem dX4_parcel_14 : decode cX4_parcel 14 = .ok (.iload_n 3, 1) := by decide +kernel
theorem dX4_parcel_15 : decode cX4_parcel 15 = .ok (.iload_n 1, 1) := by decide +kernel
theorem dX4_parcel_16 : decode cX4_parcel 16 = .ok (.invokevirtual 199, 3) := by decide +kernel
theorem dX4_parcel_19 : decode cX4_parcel 19 = .ok (.ifCond .eq 7, 3) := by decide +kernel
theorem dX4_parcel_22 : decode cX4_parcel 22 = .ok (.iconst 1, 1) := by decide +kernel
theorem dX4_parcel_23 : decode cX4_parcel 23 = .ok (.goto 4, 3) := by decide +kernel
theorem dX4_parcel_26 : decode cX4_parcel 26 = .ok (.iconst 0, 1) := by decide +kernel
theorem dX4_parcel_27 : decode cX4_parcel 27 = .ok (.iadd, 1) := by decide +kernel
theorem dX4_parcel_28 : decode cX4_parcel 28 = .ok (.istore_n 2, 1) := by decide +kernel
theorem dX4_parcel_29 : decode cX4_parcel 29 = .ok (.iinc 3 1, 3) := by decide +kernel
theorem dX4_parcel_32 : decode cX4_parcel 32 = .ok (.goto (-28), 3) := by decide +kernel
theorem dX4_parcel_35 : decode cX4_parcel 35 = .ok (.iload_n 2, 1) := by decide +kernel
theorem dX4_parcel_36 : decode cX4_parcel 36 = .ok (.ireturn, 1) := by decide +kernel
theorem dX4_greatest_0 : decode cX4_greatest 0 = .ok (.iconst (-1), 1) := by decide +kernel
theorem dX4_greatest_1 : decode cX4_greatest 1 = .ok (.istore_n 2, 1) := by decide +kernel
theorem dX4_greatest_2 : decode cX4_greatest 2 = .ok (.iconst 0, 1) := by decide +kernel
theorem dX4_greatest_3 : decode cX4_greatest 3 = .ok (.istore_n 3, 1) := by decide +kernel
theorem dX4_greatest_4 : decode cX4_greatest 4 = .ok (.iload_n 3, 1) := by decide +kernel
theorem dX4_greatest_5 : decode cX4_greatest 5 = .ok (.aload_n 0, 1) := by decide +kernel
theorem dX4_greatest_6 : decode cX4_greatest 6 = .ok (.getfield 115, 3) := by decide +kernel
theorem dX4_greatest_9 : decode cX4_greatest 9 = .ok (.if_icmp .ge 44, 3) := by decide +kernel
theorem dX4_greatest_12 : decode cX4_greatest 12 = .ok (.aload_n 0, 1) := by decide +kernel
theorem dX4_greatest_13 : decode cX4_greatest 13 = .ok (.iload_n 3, 1) := by decide +kernel
theorem dX4_greatest_14 : decode cX4_greatest 14 = .ok (.iload_n 1, 1) := by decide +kernel
theorem dX4_greatest_15 : decode cX4_greatest 15 = .ok (.invokevirtual 199, 3) := by decide +kernel
theorem dX4_greatest_18 : decode cX4_greatest 18 = .ok (.ifCond .eq 27, 3) := by decide +kernel
theorem dX4_greatest_21 : decode cX4_greatest 21 = .ok (.iload_n 2, 1) := by decide +kernel
theorem dX4_greatest_22 : decode cX4_greatest 22 = .ok (.iconst (-1), 1) := by decide +kernel
theorem dX4_greatest_23 : decode cX4_greatest 23 = .ok (.if_icmp .eq 18, 3) := by decide +kernel
theorem dX4_greatest_26 : decode cX4_greatest 26 = .ok (.aload_n 0, 1) := by decide +kernel
theorem dX4_greatest_27 : decode cX4_greatest 27 = .ok (.getfield 71, 3) := by decide +kernel
theorem dX4_greatest_30 : decode cX4_greatest 30 = .ok (.iload_n 3, 1) := by decide +kernel
theorem dX4_greatest_31 : decode cX4_greatest 31 = .ok (.iaload, 1) := by decide +kernel
theorem dX4_greatest_32 : decode cX4_greatest 32 = .ok (.aload_n 0, 1) := by decide +kernel
theorem dX4_greatest_33 : decode cX4_greatest 33 = .ok (.getfield 71, 3) := by decide +kernel
theorem dX4_greatest_36 : decode cX4_greatest 36 = .ok (.iload_n 2, 1) := by decide +kernel
theorem dX4_greatest_37 : decode cX4_greatest 37 = .ok (.iaload, 1) := by decide +kernel
theorem dX4_greatest_38 : decode cX4_greatest 38 = .ok (.if_icmp .le 7, 3) := by decide +kernel
theorem dX4_greatest_41 : decode cX4_greatest 41 = .ok (.iload_n 3, 1) := by decide +kernel
theorem dX4_greatest_42 : decode cX4_greatest 42 = .ok (.goto 4, 3) := by decide +kernel
theorem dX4_greatest_45 : decode cX4_greatest 45 = .ok (.iload_n 2, 1) := by decide +kernel
theorem dX4_greatest_46 : decode cX4_greatest 46 = .ok (.istore_n 2, 1) := by decide +kernel
theorem dX4_greatest_47 : decode cX4_greatest 47 = .ok (.iinc 3 1, 3) := by decide +kernel
theorem dX4_greatest_50 : decode cX4_greatest 50 = .ok (.goto (-46), 3) := by decide +kernel
theorem dX4_greatest_53 : decode cX4_greatest 53 = .ok (.iload_n 2, 1) := by decide +kernel
theorem dX4_greatest_54 : decode cX4_greatest 54 = .ok (.ireturn, 1) := by decide +kernel
theorem dX4_next_0 : decode cX4_next 0 = .ok (.iconst (-1), 1) := by decide +kernel
theorem dX4_next_1 : decode cX4_next 1 = .ok (.istore_n 3, 1) := by decide +kernel
theorem dX4_next_2 : decode cX4_next 2 = .ok (.iconst 0, 1) := by decide +kernel
theorem dX4_next_3 : decode cX4_next 3 = .ok (.istore 4, 2) := by decide +kernel
theorem dX4_next_5 : decode cX4_next 5 = .ok (.iconst 0, 1) := by decide +kernel
theorem dX4_next_6 : decode cX4_next 6 = .ok (.istore 5, 2) := by decide +kernel
theorem dX4_next_8 : decode cX4_next 8 = .ok (.iload 5, 2) := by decide +kernel
theorem dX4_next_10 : decode cX4_next 10 = .ok (.bipush 8, 2) := by decide +kernel
theorem dX4_next_12 : decode cX4_next 12 = .ok (.if_icmp .ge 60, 3) := by decide +kernel
theorem dX4_next_15 : decode cX4_next 15 = .ok (.aload_n 0, 1) := by decide +kernel
theorem dX4_next_16 : decode cX4_next 16 = .ok (.iload_n 1, 1) := by decide +kernel
theorem dX4_next_17 : decode cX4_next 17 = .ok (.iload 5, 2) := by decide +kernel
theorem dX4_next_19 : decode cX4_next 19 = .ok (.invokevirtual 145, 3) := by decide +kernel
theorem dX4_next_22 : decode cX4_next 22 = .ok (.iload_n 2, 1) := by decide +kernel
theorem dX4_next_23 : decode cX4_next 23 = .ok (.imul, 1) := by decide +kernel
theorem dX4_next_24 : decode cX4_next 24 = .ok (.bipush 12, 2) := by decide +kernel
theorem dX4_next_26 : decode cX4_next 26 = .ok (.aload_n 0, 1) := by decide +kernel
theorem dX4_next_27 : decode cX4_next 27 = .ok (.getfield 68, 3) := by decide +kernel
theorem dX4_next_30 : decode cX4_next 30 = .ok (.iload 5, 2) := by decide +kernel
theorem dX4_next_32 : decode cX4_next 32 = .ok (.iaload, 1) := by decide +kernel
theorem dX4_next_33 : decode cX4_next 33 = .ok (.imul, 1) := by decide +kernel
theorem dX4_next_34 : decode cX4_next 34 = .ok (.isub, 1) := by decide +kernel
theorem dX4_next_35 : decode cX4_next 35 = .ok (.istore 6, 2) := by decide +kernel
theorem dX4_next_37 : decode cX4_next 37 = .ok (.aload_n 0, 1) := by decide +kernel
theorem dX4_next_38 : decode cX4_next 38 = .ok (.iload_n 1, 1) := by decide +kernel
theorem dX4_next_39 : decode cX4_next 39 = .ok (.iload 5, 2) := by decide +kernel
theorem dX4_next_41 : decode cX4_next 41 = .ok (.invokevirtual 145, 3) := by decide +kernel
theorem dX4_next_44 : decode cX4_next 44 = .ok (.ifCond .le 22, 3) := by decide +kernel
theorem dX4_next_47 : decode cX4_next 47 = .ok (.iload_n 3, 1) := by decide +kernel
theorem dX4_next_48 : decode cX4_next 48 = .ok (.iconst (-1), 1) := by decide +kernel
theorem dX4_next_49 : decode cX4_next 49 = .ok (.if_icmp .eq 10, 3) := by decide +kernel
theorem dX4_next_52 : decode cX4_next 52 = .ok (.iload 6, 2) := by decide +kernel
theorem dX4_next_54 : decode cX4_next 54 = .ok (.iload 4, 2) := by decide +kernel
theorem dX4_next_56 : decode cX4_next 56 = .ok (.if_icmp .le 10, 3) := by decide +kernel
theorem dX4_next_59 : decode cX4_next 59 = .ok (.iload 5, 2) := by decide +kernel
theorem dX4_next_61 : decode cX4_next 61 = .ok (.istore_n 3, 1) := by decide +kernel
theorem dX4_next_62 : decode cX4_next 62 = .ok (.iload 6, 2) := by decide +kernel
theorem dX4_next_64 : decode cX4_next 64 = .ok (.istore 4, 2) := by decide +kernel
theorem dX4_next_66 : decode cX4_next 66 = .ok (.iinc 5 1, 3) := by decide +kernel
theorem dX4_next_69 : decode cX4_next 69 = .ok (.goto (-61), 3) := by decide +kernel
theorem dX4_next_72 : decode cX4_next 72 = .ok (.iload_n 3, 1) := by decide +kernel
theorem dX4_next_73 : decode cX4_next 73 = .ok (.ireturn, 1) := by decide +kernel
theorem dX4_divide_0 : decode cX4_divide 0 = .ok (.aload_n 0, 1) := by decide +kernel
theorem dX4_divide_1 : decode cX4_divide 1 = .ok (.aload_n 0, 1) := by decide +kernel
theorem dX4_divide_2 : decode cX4_divide 2 = .ok (.iload_n 1, 1) := by decide +kernel
theorem dX4_divide_3 : decode cX4_divide 3 = .ok (.invokevirtual 142, 3) := by decide +kernel
theorem dX4_divide_6 : decode cX4_divide 6 = .ok (.ifCond .ne 7, 3) := by decide +kernel
theorem dX4_divide_9 : decode cX4_divide 9 = .ok (.iconst 1, 1) := by decide +kernel
theorem dX4_divide_10 : decode cX4_divide 10 = .ok (.goto 16, 3) := by decide +kernel
theorem dX4_divide_13 : decode cX4_divide 13 = .ok (.aload_n 0, 1) := by decide +kernel
theorem dX4_divide_14 : decode cX4_divide 14 = .ok (.iload_n 1, 1) := by decide +kernel
theorem dX4_divide_15 : decode cX4_divide 15 = .ok (.invokevirtual 202, 3) := by decide +kernel
theorem dX4_divide_18 : decode cX4_divide 18 = .ok (.ifCond .ne 7, 3) := by decide +kernel
theorem dX4_divide_21 : decode cX4_divide 21 = .ok (.iconst 2, 1) := by decide +kernel
theorem dX4_divide_22 : decode cX4_divide 22 = .ok (.goto 4, 3) := by decide +kernel
theorem dX4_divide_25 : decode cX4_divide 25 = .ok (.iconst 0, 1) := by decide +kernel
theorem dX4_divide_26 : decode cX4_divide 26 = .ok (.putfield 104, 3) := by decide +kernel
theorem dX4_divide_29 : decode cX4_divide 29 = .ok (.aload_n 0, 1) := by decide +kernel
theorem dX4_divide_30 : decode cX4_divide 30 = .ok (.getfield 104, 3) := by decide +kernel
theorem dX4_divide_33 : decode cX4_divide 33 = .ok (.ifCond .le 5, 3) := by decide +kernel
theorem dX4_divide_36 : decode cX4_divide 36 = .ok (.iconst 0, 1) := by decide +kernel
theorem dX4_divide_37 : decode cX4_divide 37 = .ok (.ireturn, 1) := by decide +kernel
theorem dX4_divide_38 : decode cX4_divide 38 = .ok (.aload_n 0, 1) := by decide +kernel
theorem dX4_divide_39 : decode cX4_divide 39 = .ok (.iload_n 1, 1) := by decide +kernel
theorem dX4_divide_40 : decode cX4_divide 40 = .ok (.invokevirtual 202, 3) := by decide +kernel
theorem dX4_divide_43 : decode cX4_divide 43 = .ok (.istore_n 2, 1) := by decide +kernel
theorem dX4_divide_44 : decode cX4_divide 44 = .ok (.iconst 0, 1) := by decide +kernel
theorem dX4_divide_45 : decode cX4_divide 45 = .ok (.istore_n 3, 1) := by decide +kernel
theorem dX4_divide_46 : decode cX4_divide 46 = .ok (.iconst 0, 1) := by decide +kernel
theorem dX4_divide_47 : decode cX4_divide 47 = .ok (.istore 4, 2) := by decide +kernel
theorem dX4_divide_49 : decode cX4_divide 49 = .ok (.iload 4, 2) := by decide +kernel
theorem dX4_divide_51 : decode cX4_divide 51 = .ok (.aload_n 0, 1) := by decide +kernel
theorem dX4_divide_52 : decode cX4_divide 52 = .ok (.getfield 115, 3) := by decide +kernel
theorem dX4_divide_55 : decode cX4_divide 55 = .ok (.if_icmp .ge 33, 3) := by decide +kernel
theorem dX4_divide_58 : decode cX4_divide 58 = .ok (.iload_n 3, 1) := by decide +kernel
theorem dX4_divide_59 : decode cX4_divide 59 = .ok (.aload_n 0, 1) := by decide +kernel
theorem dX4_divide_60 : decode cX4_divide 60 = .ok (.iload 4, 2) := by decide +kernel
theorem dX4_divide_62 : decode cX4_divide 62 = .ok (.iload_n 1, 1) := by decide +kernel
theorem dX4_divide_63 : decode cX4_divide 63 = .ok (.invokevirtual 199, 3) := by decide +kernel
theorem dX4_divide_66 : decode cX4_divide 66 = .ok (.ifCond .eq 13, 3) := by decide +kernel
theorem dX4_divide_69 : decode cX4_divide 69 = .ok (.aload_n 0, 1) := by decide +kernel
theorem dX4_divide_70 : decode cX4_divide 70 = .ok (.getfield 71, 3) := by decide +kernel
theorem dX4_divide_73 : decode cX4_divide 73 = .ok (.iload 4, 2) := by decide +kernel
theorem dX4_divide_75 : decode cX4_divide 75 = .ok (.iaload, 1) := by decide +kernel
theorem dX4_divide_76 : decode cX4_divide 76 = .ok (.goto 4, 3) := by decide +kernel
theorem dX4_divide_79 : decode cX4_divide 79 = .ok (.iconst 0, 1) := by decide +kernel
theorem dX4_divide_80 : decode cX4_divide 80 = .ok (.iadd, 1) := by decide +kernel
theorem dX4_divide_81 : decode cX4_divide 81 = .ok (.istore_n 3, 1) := by decide +kernel
theorem dX4_divide_82 : decode cX4_divide 82 = .ok (.iinc 4 1, 3) := by decide +kernel
theorem dX4_divide_85 : decode cX4_divide 85 = .ok (.goto (-36), 3) := by decide +kernel
theorem dX4_divide_88 : decode cX4_divide 88 = .ok (.iconst 0, 1) := by decide +kernel
theorem dX4_divide_89 : decode cX4_divide 89 = .ok (.istore 4, 2) := by decide +kernel
theorem dX4_divide_91 : decode cX4_divide 91 = .ok (.iload 4, 2) := by decide +kernel
theorem dX4_divide_93 : decode cX4_divide 93 = .ok (.bipush 8, 2) := by decide +kernel
theorem dX4_divide_95 : decode cX4_divide 95 = .ok (.if_icmp .ge 17, 3) := by decide +kernel
theorem dX4_divide_98 : decode cX4_divide 98 = .ok (.aload_n 0, 1) := by decide +kernel
theorem dX4_divide_99 : decode cX4_divide 99 = .ok (.getfield 68, 3) := by decide +kernel
theorem dX4_divide_102 : decode cX4_divide 102 = .ok (.iload 4, 2) := by decide +kernel
theorem dX4_divide_104 : decode cX4_divide 104 = .ok (.iconst 0, 1) := by decide +kernel
theorem dX4_divide_105 : decode cX4_divide 105 = .ok (.iastore, 1) := by decide +kernel
theorem dX4_divide_106 : decode cX4_divide 106 = .ok (.iinc 4 1, 3) := by decide +kernel
theorem dX4_divide_109 : decode cX4_divide 109 = .ok (.goto (-18), 3) := by decide +kernel
theorem dX4_divide_112 : decode cX4_divide 112 = .ok (.iconst 0, 1) := by decide +kernel
theorem dX4_divide_113 : decode cX4_divide 113 = .ok (.istore 4, 2) := by decide +kernel
theorem dX4_divide_115 : decode cX4_divide 115 = .ok (.iload 4, 2) := by decide +kernel
theorem dX4_divide_117 : decode cX4_divide 117 = .ok (.iload_n 2, 1) := by decide +kernel
theorem dX4_divide_118 : decode cX4_divide 118 = .ok (.if_icmp .ge 50, 3) := by decide +kernel
theorem dX4_divide_121 : decode cX4_divide 121 = .ok (.aload_n 0, 1) := by decide +kernel
theorem dX4_divide_122 : decode cX4_divide 122 = .ok (.iload_n 1, 1) := by decide +kernel
theorem dX4_divide_123 : decode cX4_divide 123 = .ok (.invokevirtual 205, 3) := by decide +kernel
theorem dX4_divide_126 : decode cX4_divide 126 = .ok (.istore 5, 2) := by decide +kernel
theorem dX4_divide_128 : decode cX4_divide 128 = .ok (.aload_n 0, 1) := by decide +kernel
theorem dX4_divide_129 : decode cX4_divide 129 = .ok (.iload_n 1, 1) := by decide +kernel
theorem dX4_divide_130 : decode cX4_divide 130 = .ok (.iload_n 3, 1) := by decide +kernel
theorem dX4_divide_131 : decode cX4_divide 131 = .ok (.invokevirtual 208, 3) := by decide +kernel
theorem dX4_divide_134 : decode cX4_divide 134 = .ok (.istore 6, 2) := by decide +kernel
theorem dX4_divide_136 : decode cX4_divide 136 = .ok (.aload_n 0, 1) := by decide +kernel
theorem dX4_divide_137 : decode cX4_divide 137 = .ok (.getfield 80, 3) := by decide +kernel
theorem dX4_divide_140 : decode cX4_divide 140 = .ok (.iload 5, 2) := by decide +kernel
theorem dX4_divide_142 : decode cX4_divide 142 = .ok (.iload 6, 2) := by decide +kernel
theorem dX4_divide_144 : decode cX4_divide 144 = .ok (.iastore, 1) := by decide +kernel
theorem dX4_divide_145 : decode cX4_divide 145 = .ok (.aload_n 0, 1) := by decide +kernel
theorem dX4_divide_146 : decode cX4_divide 146 = .ok (.getfield 68, 3) := by decide +kernel
theorem dX4_divide_149 : decode cX4_divide 149 = .ok (.iload 6, 2) := by decide +kernel
theorem dX4_divide_151 : decode cX4_divide 151 = .ok (.dup2, 1) := by decide +kernel
theorem dX4_divide_152 : decode cX4_divide 152 = .ok (.iaload, 1) := by decide +kernel
theorem dX4_divide_153 : decode cX4_divide 153 = .ok (.aload_n 0, 1) := by decide +kernel
theorem dX4_divide_154 : decode cX4_divide 154 = .ok (.getfield 71, 3) := by decide +kernel
theorem dX4_divide_157 : decode cX4_divide 157 = .ok (.iload 5, 2) := by decide +kernel
theorem dX4_divide_159 : decode cX4_divide 159 = .ok (.iaload, 1) := by decide +kernel
theorem dX4_divide_160 : decode cX4_divide 160 = .ok (.iadd, 1) := by decide +kernel
theorem dX4_divide_161 : decode cX4_divide 161 = .ok (.iastore, 1) := by decide +kernel
theorem dX4_divide_162 : decode cX4_divide 162 = .ok (.iinc 4 1, 3) := by decide +kernel
theorem dX4_divide_165 : decode cX4_divide 165 = .ok (.goto (-50), 3) := by decide +kernel
theorem dX4_divide_168 : decode cX4_divide 168 = .ok (.iload_n 2, 1) := by decide +kernel
theorem dX4_divide_169 : decode cX4_divide 169 = .ok (.ireturn, 1) := by decide +kernel
theorem dX4_isInParcel_0 : decode cX4_isInParcel 0 = .ok (.aload_n 0, 1) := by decide +kernel
theorem dX4_isInParcel_1 : decode cX4_isInParcel 1 = .ok (.getfield 80, 3) := by decide +kernel
theorem dX4_isInParcel_4 : decode cX4_isInParcel 4 = .ok (.iload_n 1, 1) := by decide +kernel
theorem dX4_isInParcel_5 : decode cX4_isInParcel 5 = .ok (.iaload, 1) := by decide +kernel
theorem dX4_isInParcel_6 : decode cX4_isInParcel 6 = .ok (.iconst (-1), 1) := by decide +kernel
theorem dX4_isInParcel_7 : decode cX4_isInParcel 7 = .ok (.if_icmp .ne 7, 3) := by decide +kernel
theorem dX4_isInParcel_10 : decode cX4_isInParcel 10 = .ok (.iconst 1, 1) := by decide +kernel
theorem dX4_isInParcel_11 : decode cX4_isInParcel 11 = .ok (.goto 4, 3) := by decide +kernel
theorem dX4_isInParcel_14 : decode cX4_isInParcel 14 = .ok (.iconst 0, 1) := by decide +kernel
theorem dX4_isInParcel_15 : decode cX4_isInParcel 15 = .ok (.ireturn, 1) := by decide +kernel
theorem dX4_looks_0 : decode cX4_looks 0 = .ok (.aload_n 0, 1) := by decide +kernel
theorem dX4_looks_1 : decode cX4_looks 1 = .ok (.getfield 77, 3) := by decide +kernel
theorem dX4_looks_4 : decode cX4_looks 4 = .ok (.iload_n 1, 1) := by decide +kernel
theorem dX4_looks_5 : decode cX4_looks 5 = .ok (.iaload, 1) := by decide +kernel
theorem dX4_looks_6 : decode cX4_looks 6 = .ok (.aload_n 0, 1) := by decide +kernel
theorem dX4_looks_7 : decode cX4_looks 7 = .ok (.getfield 74, 3) := by decide +kernel
theorem dX4_looks_10 : decode cX4_looks 10 = .ok (.iload_n 1, 1) := by decide +kernel
theorem dX4_looks_11 : decode cX4_looks 11 = .ok (.iaload, 1) := by decide +kernel
theorem dX4_looks_12 : decode cX4_looks 12 = .ok (.if_icmp .ge 7, 3) := by decide +kernel
theorem dX4_looks_15 : decode cX4_looks 15 = .ok (.iconst 0, 1) := by decide +kernel
theorem dX4_looks_16 : decode cX4_looks 16 = .ok (.goto 25, 3) := by decide +kernel
theorem dX4_looks_19 : decode cX4_looks 19 = .ok (.aload_n 0, 1) := by decide +kernel
theorem dX4_looks_20 : decode cX4_looks 20 = .ok (.getfield 77, 3) := by decide +kernel
theorem dX4_looks_23 : decode cX4_looks 23 = .ok (.iload_n 1, 1) := by decide +kernel
theorem dX4_looks_24 : decode cX4_looks 24 = .ok (.iaload, 1) := by decide +kernel
theorem dX4_looks_25 : decode cX4_looks 25 = .ok (.aload_n 0, 1) := by decide +kernel
theorem dX4_looks_26 : decode cX4_looks 26 = .ok (.getfield 74, 3) := by decide +kernel
theorem dX4_looks_29 : decode cX4_looks 29 = .ok (.iload_n 1, 1) := by decide +kernel
theorem dX4_looks_30 : decode cX4_looks 30 = .ok (.iaload, 1) := by decide +kernel
theorem dX4_looks_31 : decode cX4_looks 31 = .ok (.iconst 2, 1) := by decide +kernel
theorem dX4_looks_32 : decode cX4_looks 32 = .ok (.iadd, 1) := by decide +kernel
theorem dX4_looks_33 : decode cX4_looks 33 = .ok (.if_icmp .gt 7, 3) := by decide +kernel
theorem dX4_looks_36 : decode cX4_looks 36 = .ok (.iconst 1, 1) := by decide +kernel
theorem dX4_looks_37 : decode cX4_looks 37 = .ok (.goto 4, 3) := by decide +kernel
theorem dX4_looks_40 : decode cX4_looks 40 = .ok (.iconst 2, 1) := by decide +kernel
theorem dX4_looks_41 : decode cX4_looks 41 = .ok (.ireturn, 1) := by decide +kernel
theorem dX4_rub_0 : decode cX4_rub 0 = .ok (.aload_n 0, 1) := by decide +kernel
theorem dX4_rub_1 : decode cX4_rub 1 = .ok (.aload_n 0, 1) := by decide +kernel
theorem dX4_rub_2 : decode cX4_rub 2 = .ok (.iload_n 1, 1) := by decide +kernel
theorem dX4_rub_3 : decode cX4_rub 3 = .ok (.invokevirtual 211, 3) := by decide +kernel
theorem dX4_rub_6 : decode cX4_rub 6 = .ok (.ifCond .ne 7, 3) := by decide +kernel
theorem dX4_rub_9 : decode cX4_rub 9 = .ok (.iconst 1, 1) := by decide +kernel
theorem dX4_rub_10 : decode cX4_rub 10 = .ok (.goto 35, 3) := by decide +kernel
theorem dX4_rub_13 : decode cX4_rub 13 = .ok (.aload_n 0, 1) := by decide +kernel
theorem dX4_rub_14 : decode cX4_rub 14 = .ok (.iload_n 1, 1) := by decide +kernel
theorem dX4_rub_15 : decode cX4_rub 15 = .ok (.invokevirtual 214, 3) := by decide +kernel
theorem dX4_rub_18 : decode cX4_rub 18 = .ok (.ifCond .ne 22, 3) := by decide +kernel
theorem dX4_rub_21 : decode cX4_rub 21 = .ok (.aload_n 0, 1) := by decide +kernel
theorem dX4_rub_22 : decode cX4_rub 22 = .ok (.getfield 89, 3) := by decide +kernel
theorem dX4_rub_25 : decode cX4_rub 25 = .ok (.iload_n 1, 1) := by decide +kernel
theorem dX4_rub_26 : decode cX4_rub 26 = .ok (.iaload, 1) := by decide +kernel
theorem dX4_rub_27 : decode cX4_rub 27 = .ok (.iconst (-1), 1) := by decide +kernel
theorem dX4_rub_28 : decode cX4_rub 28 = .ok (.if_icmp .ne 12, 3) := by decide +kernel
theorem dX4_rub_31 : decode cX4_rub 31 = .ok (.aload_n 0, 1) := by decide +kernel
theorem dX4_rub_32 : decode cX4_rub 32 = .ok (.iload_n 1, 1) := by decide +kernel
theorem dX4_rub_33 : decode cX4_rub 33 = .ok (.invokevirtual 217, 3) := by decide +kernel
theorem dX4_rub_36 : decode cX4_rub 36 = .ok (.iconst 2, 1) := by decide +kernel
theorem dX4_rub_37 : decode cX4_rub 37 = .ok (.if_icmp .ne 7, 3) := by decide +kernel
theorem dX4_rub_40 : decode cX4_rub 40 = .ok (.iconst 2, 1) := by decide +kernel
theorem dX4_rub_41 : decode cX4_rub 41 = .ok (.goto 4, 3) := by decide +kernel
theorem dX4_rub_44 : decode cX4_rub 44 = .ok (.iconst 0, 1) := by decide +kernel
theorem dX4_rub_45 : decode cX4_rub 45 = .ok (.putfield 104, 3) := by decide +kernel
theorem dX4_rub_48 : decode cX4_rub 48 = .ok (.aload_n 0, 1) := by decide +kernel
theorem dX4_rub_49 : decode cX4_rub 49 = .ok (.getfield 104, 3) := by decide +kernel
theorem dX4_rub_52 : decode cX4_rub 52 = .ok (.ifCond .le 5, 3) := by decide +kernel
theorem dX4_rub_55 : decode cX4_rub 55 = .ok (.iconst 0, 1) := by decide +kernel
theorem dX4_rub_56 : decode cX4_rub 56 = .ok (.ireturn, 1) := by decide +kernel
theorem dX4_rub_57 : decode cX4_rub 57 = .ok (.aload_n 0, 1) := by decide +kernel
theorem dX4_rub_58 : decode cX4_rub 58 = .ok (.getfield 71, 3) := by decide +kernel
theorem dX4_rub_61 : decode cX4_rub 61 = .ok (.iload_n 1, 1) := by decide +kernel
theorem dX4_rub_62 : decode cX4_rub 62 = .ok (.iaload, 1) := by decide +kernel
theorem dX4_rub_63 : decode cX4_rub 63 = .ok (.bipush 10, 2) := by decide +kernel
theorem dX4_rub_65 : decode cX4_rub 65 = .ok (.idiv, 1) := by decide +kernel
theorem dX4_rub_66 : decode cX4_rub 66 = .ok (.istore_n 2, 1) := by decide +kernel
theorem dX4_rub_67 : decode cX4_rub 67 = .ok (.aload_n 0, 1) := by decide +kernel
theorem dX4_rub_68 : decode cX4_rub 68 = .ok (.getfield 71, 3) := by decide +kernel
theorem dX4_rub_71 : decode cX4_rub 71 = .ok (.iload_n 1, 1) := by decide +kernel
theorem dX4_rub_72 : decode cX4_rub 72 = .ok (.dup2, 1) := by decide +kernel
theorem dX4_rub_73 : decode cX4_rub 73 = .ok (.iaload, 1) := by decide +kernel
theorem dX4_rub_74 : decode cX4_rub 74 = .ok (.iload_n 2, 1) := by decide +kernel
theorem dX4_rub_75 : decode cX4_rub 75 = .ok (.isub, 1) := by decide +kernel
theorem dX4_rub_76 : decode cX4_rub 76 = .ok (.iastore, 1) := by decide +kernel
theorem dX4_rub_77 : decode cX4_rub 77 = .ok (.aload_n 0, 1) := by decide +kernel
theorem dX4_rub_78 : decode cX4_rub 78 = .ok (.dup, 1) := by decide +kernel
theorem dX4_rub_79 : decode cX4_rub 79 = .ok (.getfield 220, 3) := by decide +kernel
theorem dX4_rub_82 : decode cX4_rub 82 = .ok (.iload_n 2, 1) := by decide +kernel
theorem dX4_rub_83 : decode cX4_rub 83 = .ok (.iadd, 1) := by decide +kernel
theorem dX4_rub_84 : decode cX4_rub 84 = .ok (.putfield 220, 3) := by decide +kernel
theorem dX4_rub_87 : decode cX4_rub 87 = .ok (.aload_n 0, 1) := by decide +kernel
theorem dX4_rub_88 : decode cX4_rub 88 = .ok (.getfield 77, 3) := by decide +kernel
theorem dX4_rub_91 : decode cX4_rub 91 = .ok (.iload_n 1, 1) := by decide +kernel
theorem dX4_rub_92 : decode cX4_rub 92 = .ok (.dup2, 1) := by decide +kernel
theorem dX4_rub_93 : decode cX4_rub 93 = .ok (.iaload, 1) := by decide +kernel
theorem dX4_rub_94 : decode cX4_rub 94 = .ok (.iconst 1, 1) := by decide +kernel
theorem dX4_rub_95 : decode cX4_rub 95 = .ok (.iadd, 1) := by decide +kernel
theorem dX4_rub_96 : decode cX4_rub 96 = .ok (.iastore, 1) := by decide +kernel
theorem dX4_rub_97 : decode cX4_rub 97 = .ok (.aload_n 0, 1) := by decide +kernel
theorem dX4_rub_98 : decode cX4_rub 98 = .ok (.getfield 71, 3) := by decide +kernel
theorem dX4_rub_101 : decode cX4_rub 101 = .ok (.iload_n 1, 1) := by decide +kernel
theorem dX4_rub_102 : decode cX4_rub 102 = .ok (.iaload, 1) := by decide +kernel
theorem dX4_rub_103 : decode cX4_rub 103 = .ok (.ireturn, 1) := by decide +kernel
theorem dX4_isBuyer_0 : decode cX4_isBuyer 0 = .ok (.iload_n 0, 1) := by decide +kernel
theorem dX4_isBuyer_1 : decode cX4_isBuyer 1 = .ok (.iconst 0, 1) := by decide +kernel
theorem dX4_isBuyer_2 : decode cX4_isBuyer 2 = .ok (.iconst 4, 1) := by decide +kernel
theorem dX4_isBuyer_3 : decode cX4_isBuyer 3 = .ok (.invokestatic 108, 3) := by decide +kernel
theorem dX4_isBuyer_6 : decode cX4_isBuyer 6 = .ok (.ireturn, 1) := by decide +kernel
theorem dX4_bid_0 : decode cX4_bid 0 = .ok (.aload_n 0, 1) := by decide +kernel
theorem dX4_bid_1 : decode cX4_bid 1 = .ok (.iload_n 1, 1) := by decide +kernel
theorem dX4_bid_2 : decode cX4_bid 2 = .ok (.invokestatic 223, 3) := by decide +kernel
theorem dX4_bid_5 : decode cX4_bid 5 = .ok (.ifCond .eq 11, 3) := by decide +kernel
theorem dX4_bid_8 : decode cX4_bid 8 = .ok (.aload_n 0, 1) := by decide +kernel
theorem dX4_bid_9 : decode cX4_bid 9 = .ok (.iload_n 2, 1) := by decide +kernel
theorem dX4_bid_10 : decode cX4_bid 10 = .ok (.invokevirtual 211, 3) := by decide +kernel
theorem dX4_bid_13 : decode cX4_bid 13 = .ok (.ifCond .ne 7, 3) := by decide +kernel
theorem dX4_bid_16 : decode cX4_bid 16 = .ok (.iconst 1, 1) := by decide +kernel
theorem dX4_bid_17 : decode cX4_bid 17 = .ok (.goto 18, 3) := by decide +kernel
theorem dX4_bid_20 : decode cX4_bid 20 = .ok (.iload_n 3, 1) := by decide +kernel
theorem dX4_bid_21 : decode cX4_bid 21 = .ok (.iconst 1, 1) := by decide +kernel
theorem dX4_bid_22 : decode cX4_bid 22 = .ok (.ldc 226, 2) := by decide +kernel
theorem dX4_bid_24 : decode cX4_bid 24 = .ok (.invokestatic 108, 3) := by decide +kernel
theorem dX4_bid_27 : decode cX4_bid 27 = .ok (.ifCond .ne 7, 3) := by decide +kernel
theorem dX4_bid_30 : decode cX4_bid 30 = .ok (.iconst 2, 1) := by decide +kernel
theorem dX4_bid_31 : decode cX4_bid 31 = .ok (.goto 4, 3) := by decide +kernel
theorem dX4_bid_34 : decode cX4_bid 34 = .ok (.iconst 0, 1) := by decide +kernel
theorem dX4_bid_35 : decode cX4_bid 35 = .ok (.putfield 104, 3) := by decide +kernel
theorem dX4_bid_38 : decode cX4_bid 38 = .ok (.aload_n 0, 1) := by decide +kernel
theorem dX4_bid_39 : decode cX4_bid 39 = .ok (.getfield 104, 3) := by decide +kernel
theorem dX4_bid_42 : decode cX4_bid 42 = .ok (.ifCond .ne 39, 3) := by decide +kernel
theorem dX4_bid_45 : decode cX4_bid 45 = .ok (.aload_n 0, 1) := by decide +kernel
theorem dX4_bid_46 : decode cX4_bid 46 = .ok (.iload_n 2, 1) := by decide +kernel
theorem dX4_bid_47 : decode cX4_bid 47 = .ok (.invokevirtual 214, 3) := by decide +kernel
theorem dX4_bid_50 : decode cX4_bid 50 = .ok (.ifCond .ne 26, 3) := by decide +kernel
theorem dX4_bid_53 : decode cX4_bid 53 = .ok (.aload_n 0, 1) := by decide +kernel
theorem dX4_bid_54 : decode cX4_bid 54 = .ok (.getfield 89, 3) := by decide +kernel
theorem dX4_bid_57 : decode cX4_bid 57 = .ok (.iload_n 2, 1) := by decide +kernel
theorem dX4_bid_58 : decode cX4_bid 58 = .ok (.iaload, 1) := by decide +kernel
theorem dX4_bid_59 : decode cX4_bid 59 = .ok (.iconst (-1), 1) := by decide +kernel
theorem dX4_bid_60 : decode cX4_bid 60 = .ok (.if_icmp .ne 16, 3) := by decide +kernel
theorem dX4_bid_63 : decode cX4_bid 63 = .ok (.aload_n 0, 1) := by decide +kernel
theorem dX4_bid_64 : decode cX4_bid 64 = .ok (.getfield 95, 3) := by decide +kernel
theorem dX4_bid_67 : decode cX4_bid 67 = .ok (.iconst 5, 1) := by decide +kernel
theorem dX4_bid_68 : decode cX4_bid 68 = .ok (.iload_n 2, 1) := by decide +kernel
theorem dX4_bid_69 : decode cX4_bid 69 = .ok (.imul, 1) := by decide +kernel
theorem dX4_bid_70 : decode cX4_bid 70 = .ok (.iload_n 1, 1) := by decide +kernel
theorem dX4_bid_71 : decode cX4_bid 71 = .ok (.iadd, 1) := by decide +kernel
theorem dX4_bid_72 : decode cX4_bid 72 = .ok (.iaload, 1) := by decide +kernel
theorem dX4_bid_73 : decode cX4_bid 73 = .ok (.ifCond .le 8, 3) := by decide +kernel
theorem dX4_bid_76 : decode cX4_bid 76 = .ok (.aload_n 0, 1) := by decide +kernel
theorem dX4_bid_77 : decode cX4_bid 77 = .ok (.iconst 3, 1) := by decide +kernel
theorem dX4_bid_78 : decode cX4_bid 78 = .ok (.putfield 104, 3) := by decide +kernel
theorem dX4_bid_81 : decode cX4_bid 81 = .ok (.aload_n 0, 1) := by decide +kernel
theorem dX4_bid_82 : decode cX4_bid 82 = .ok (.getfield 104, 3) := by decide +kernel
theorem dX4_bid_85 : decode cX4_bid 85 = .ok (.ifCond .le 5, 3) := by decide +kernel
theorem dX4_bid_88 : decode cX4_bid 88 = .ok (.iconst 0, 1) := by decide +kernel
theorem dX4_bid_89 : decode cX4_bid 89 = .ok (.ireturn, 1) := by decide +kernel
theorem dX4_bid_90 : decode cX4_bid 90 = .ok (.aload_n 0, 1) := by decide +kernel
theorem dX4_bid_91 : decode cX4_bid 91 = .ok (.getfield 95, 3) := by decide +kernel
theorem dX4_bid_94 : decode cX4_bid 94 = .ok (.iconst 5, 1) := by decide +kernel
theorem dX4_bid_95 : decode cX4_bid 95 = .ok (.iload_n 2, 1) := by decide +kernel
theorem dX4_bid_96 : decode cX4_bid 96 = .ok (.imul, 1) := by decide +kernel
theorem dX4_bid_97 : decode cX4_bid 97 = .ok (.iload_n 1, 1) := by decide +kernel
theorem dX4_bid_98 : decode cX4_bid 98 = .ok (.iadd, 1) := by decide +kernel
theorem dX4_bid_99 : decode cX4_bid 99 = .ok (.iload_n 3, 1) := by decide +kernel
theorem dX4_bid_100 : decode cX4_bid 100 = .ok (.iastore, 1) := by decide +kernel
theorem dX4_bid_101 : decode cX4_bid 101 = .ok (.aload_n 0, 1) := by decide +kernel
theorem dX4_bid_102 : decode cX4_bid 102 = .ok (.getfield 98, 3) := by decide +kernel
theorem dX4_bid_105 : decode cX4_bid 105 = .ok (.iconst 5, 1) := by decide +kernel
theorem dX4_bid_106 : decode cX4_bid 106 = .ok (.iload_n 2, 1) := by decide +kernel
theorem dX4_bid_107 : decode cX4_bid 107 = .ok (.imul, 1) := by decide +kernel
theorem dX4_bid_108 : decode cX4_bid 108 = .ok (.iload_n 1, 1) := by decide +kernel
theorem dX4_bid_109 : decode cX4_bid 109 = .ok (.iadd, 1) := by decide +kernel
theorem dX4_bid_110 : decode cX4_bid 110 = .ok (.aload_n 0, 1) := by decide +kernel
theorem dX4_bid_111 : decode cX4_bid 111 = .ok (.getfield 92, 3) := by decide +kernel
theorem dX4_bid_114 : decode cX4_bid 114 = .ok (.iload_n 2, 1) := by decide +kernel
theorem dX4_bid_115 : decode cX4_bid 115 = .ok (.iaload, 1) := by decide +kernel
theorem dX4_bid_116 : decode cX4_bid 116 = .ok (.iastore, 1) := by decide +kernel
theorem dX4_bid_117 : decode cX4_bid 117 = .ok (.aload_n 0, 1) := by decide +kernel
theorem dX4_bid_118 : decode cX4_bid 118 = .ok (.getfield 92, 3) := by decide +kernel
theorem dX4_bid_121 : decode cX4_bid 121 = .ok (.iload_n 2, 1) := by decide +kernel
theorem dX4_bid_122 : decode cX4_bid 122 = .ok (.dup2, 1) := by decide +kernel
theorem dX4_bid_123 : decode cX4_bid 123 = .ok (.iaload, 1) := by decide +kernel
theorem dX4_bid_124 : decode cX4_bid 124 = .ok (.iconst 1, 1) := by decide +kernel
theorem dX4_bid_125 : decode cX4_bid 125 = .ok (.iadd, 1) := by decide +kernel
theorem dX4_bid_126 : decode cX4_bid 126 = .ok (.iastore, 1) := by decide +kernel
theorem dX4_bid_127 : decode cX4_bid 127 = .ok (.aload_n 0, 1) := by decide +kernel
theorem dX4_bid_128 : decode cX4_bid 128 = .ok (.getfield 92, 3) := by decide +kernel
theorem dX4_bid_131 : decode cX4_bid 131 = .ok (.iload_n 2, 1) := by decide +kernel
theorem dX4_bid_132 : decode cX4_bid 132 = .ok (.iaload, 1) := by decide +kernel
theorem dX4_bid_133 : decode cX4_bid 133 = .ok (.ireturn, 1) := by decide +kernel
theorem dX4_highest_0 : decode cX4_highest 0 = .ok (.iconst (-1), 1) := by decide +kernel
theorem dX4_highest_1 : decode cX4_highest 1 = .ok (.istore_n 2, 1) := by decide +kernel
theorem dX4_highest_2 : decode cX4_highest 2 = .ok (.iconst 0, 1) := by decide +kernel
theorem dX4_highest_3 : decode cX4_highest 3 = .ok (.istore_n 3, 1) := by decide +kernel
theorem dX4_highest_4 : decode cX4_highest 4 = .ok (.iload_n 3, 1) := by decide +kernel
theorem dX4_highest_5 : decode cX4_highest 5 = .ok (.aload_n 0, 1) := by decide +kernel
theorem dX4_highest_6 : decode cX4_highest 6 = .ok (.getfield 92, 3) := by decide +kernel
theorem dX4_highest_9 : decode cX4_highest 9 = .ok (.iload_n 1, 1) := by decide +kernel
theorem dX4_highest_10 : decode cX4_highest 10 = .ok (.iaload, 1) := by decide +kernel
theorem dX4_highest_11 : decode cX4_highest 11 = .ok (.if_icmp .ge 108, 3) := by decide +kernel
theorem dX4_highest_14 : decode cX4_highest 14 = .ok (.iconst 0, 1) := by decide +kernel
theorem dX4_highest_15 : decode cX4_highest 15 = .ok (.istore 4, 2) := by decide +kernel
theorem dX4_highest_17 : decode cX4_highest 17 = .ok (.iload 4, 2) := by decide +kernel
theorem dX4_highest_19 : decode cX4_highest 19 = .ok (.iconst 5, 1) := by decide +kernel
theorem dX4_highest_20 : decode cX4_highest 20 = .ok (.if_icmp .ge 93, 3) := by decide +kernel
theorem dX4_highest_23 : decode cX4_highest 23 = .ok (.aload_n 0, 1) := by decide +kernel
theorem dX4_highest_24 : decode cX4_highest 24 = .ok (.getfield 95, 3) := by decide +kernel
theorem dX4_highest_27 : decode cX4_highest 27 = .ok (.iconst 5, 1) := by decide +kernel
theorem dX4_highest_28 : decode cX4_highest 28 = .ok (.iload_n 1, 1) := by decide +kernel
theorem dX4_highest_29 : decode cX4_highest 29 = .ok (.imul, 1) := by decide +kernel
theorem dX4_highest_30 : decode cX4_highest 30 = .ok (.iload 4, 2) := by decide +kernel
theorem dX4_highest_32 : decode cX4_highest 32 = .ok (.iadd, 1) := by decide +kernel
theorem dX4_highest_33 : decode cX4_highest 33 = .ok (.iaload, 1) := by decide +kernel
theorem dX4_highest_34 : decode cX4_highest 34 = .ok (.istore 5, 2) := by decide +kernel
theorem dX4_highest_36 : decode cX4_highest 36 = .ok (.iload 5, 2) := by decide +kernel
theorem dX4_highest_38 : decode cX4_highest 38 = .ok (.ifCond .le 34, 3) := by decide +kernel
theorem dX4_highest_41 : decode cX4_highest 41 = .ok (.aload_n 0, 1) := by decide +kernel
theorem dX4_highest_42 : decode cX4_highest 42 = .ok (.getfield 98, 3) := by decide +kernel
theorem dX4_highest_45 : decode cX4_highest 45 = .ok (.iconst 5, 1) := by decide +kernel
theorem dX4_highest_46 : decode cX4_highest 46 = .ok (.iload_n 1, 1) := by decide +kernel
theorem dX4_highest_47 : decode cX4_highest 47 = .ok (.imul, 1) := by decide +kernel
theorem dX4_highest_48 : decode cX4_highest 48 = .ok (.iload 4, 2) := by decide +kernel
theorem dX4_highest_50 : decode cX4_highest 50 = .ok (.iadd, 1) := by decide +kernel
theorem dX4_highest_51 : decode cX4_highest 51 = .ok (.iaload, 1) := by decide +kernel
theorem dX4_highest_52 : decode cX4_highest 52 = .ok (.iload_n 3, 1) := by decide +kernel
theorem dX4_highest_53 : decode cX4_highest 53 = .ok (.if_icmp .ne 19, 3) := by decide +kernel
theorem dX4_highest_56 : decode cX4_highest 56 = .ok (.iload 5, 2) := by decide +kernel
theorem dX4_highest_58 : decode cX4_highest 58 = .ok (.aload_n 0, 1) := by decide +kernel
theorem dX4_highest_59 : decode cX4_highest 59 = .ok (.getfield 101, 3) := by decide +kernel
theorem dX4_highest_62 : decode cX4_highest 62 = .ok (.iload 4, 2) := by decide +kernel
theorem dX4_highest_64 : decode cX4_highest 64 = .ok (.iaload, 1) := by decide +kernel
theorem dX4_highest_65 : decode cX4_highest 65 = .ok (.if_icmp .gt 7, 3) := by decide +kernel
theorem dX4_highest_68 : decode cX4_highest 68 = .ok (.iconst 1, 1) := by decide +kernel
theorem dX4_highest_69 : decode cX4_highest 69 = .ok (.goto 4, 3) := by decide +kernel
theorem dX4_highest_72 : decode cX4_highest 72 = .ok (.iconst 0, 1) := by decide +kernel
theorem dX4_highest_73 : decode cX4_highest 73 = .ok (.istore 6, 2) := by decide +kernel
theorem dX4_highest_75 : decode cX4_highest 75 = .ok (.iload 6, 2) := by decide +kernel
theorem dX4_highest_77 : decode cX4_highest 77 = .ok (.ifCond .eq 28, 3) := by decide +kernel
theorem dX4_highest_80 : decode cX4_highest 80 = .ok (.iload_n 2, 1) := by decide +kernel
theorem dX4_highest_81 : decode cX4_highest 81 = .ok (.iconst (-1), 1) := by decide +kernel
theorem dX4_highest_82 : decode cX4_highest 82 = .ok (.if_icmp .eq 18, 3) := by decide +kernel
theorem dX4_highest_85 : decode cX4_highest 85 = .ok (.iload 5, 2) := by decide +kernel
theorem dX4_highest_87 : decode cX4_highest 87 = .ok (.aload_n 0, 1) := by decide +kernel
theorem dX4_highest_88 : decode cX4_highest 88 = .ok (.getfield 95, 3) := by decide +kernel
theorem dX4_highest_91 : decode cX4_highest 91 = .ok (.iconst 5, 1) := by decide +kernel
theorem dX4_highest_92 : decode cX4_highest 92 = .ok (.iload_n 1, 1) := by decide +kernel
theorem dX4_highest_93 : decode cX4_highest 93 = .ok (.imul, 1) := by decide +kernel
theorem dX4_highest_94 : decode cX4_highest 94 = .ok (.iload_n 2, 1) := by decide +kernel
theorem dX4_highest_95 : decode cX4_highest 95 = .ok (.iadd, 1) := by decide +kernel
theorem dX4_highest_96 : decode cX4_highest 96 = .ok (.iaload, 1) := by decide +kernel
theorem dX4_highest_97 : decode cX4_highest 97 = .ok (.if_icmp .le 8, 3) := by decide +kernel
theorem dX4_highest_100 : decode cX4_highest 100 = .ok (.iload 4, 2) := by decide +kernel
theorem dX4_highest_102 : decode cX4_highest 102 = .ok (.goto 4, 3) := by decide +kernel
theorem dX4_highest_105 : decode cX4_highest 105 = .ok (.iload_n 2, 1) := by decide +kernel
theorem dX4_highest_106 : decode cX4_highest 106 = .ok (.istore_n 2, 1) := by decide +kernel
theorem dX4_highest_107 : decode cX4_highest 107 = .ok (.iinc 4 1, 3) := by decide +kernel
theorem dX4_highest_110 : decode cX4_highest 110 = .ok (.goto (-93), 3) := by decide +kernel
theorem dX4_highest_113 : decode cX4_highest 113 = .ok (.iinc 3 1, 3) := by decide +kernel
theorem dX4_highest_116 : decode cX4_highest 116 = .ok (.goto (-112), 3) := by decide +kernel
theorem dX4_highest_119 : decode cX4_highest 119 = .ok (.iload_n 2, 1) := by decide +kernel
theorem dX4_highest_120 : decode cX4_highest 120 = .ok (.ireturn, 1) := by decide +kernel
theorem dX4_sell_0 : decode cX4_sell 0 = .ok (.aload_n 0, 1) := by decide +kernel
theorem dX4_sell_1 : decode cX4_sell 1 = .ok (.aload_n 0, 1) := by decide +kernel
theorem dX4_sell_2 : decode cX4_sell 2 = .ok (.iload_n 1, 1) := by decide +kernel
theorem dX4_sell_3 : decode cX4_sell 3 = .ok (.invokevirtual 211, 3) := by decide +kernel
theorem dX4_sell_6 : decode cX4_sell 6 = .ok (.ifCond .ne 7, 3) := by decide +kernel
theorem dX4_sell_9 : decode cX4_sell 9 = .ok (.iconst 1, 1) := by decide +kernel
theorem dX4_sell_10 : decode cX4_sell 10 = .ok (.goto 35, 3) := by decide +kernel
theorem dX4_sell_13 : decode cX4_sell 13 = .ok (.aload_n 0, 1) := by decide +kernel
theorem dX4_sell_14 : decode cX4_sell 14 = .ok (.iload_n 1, 1) := by decide +kernel
theorem dX4_sell_15 : decode cX4_sell 15 = .ok (.invokevirtual 214, 3) := by decide +kernel
theorem dX4_sell_18 : decode cX4_sell 18 = .ok (.ifCond .ne 22, 3) := by decide +kernel
theorem dX4_sell_21 : decode cX4_sell 21 = .ok (.aload_n 0, 1) := by decide +kernel
theorem dX4_sell_22 : decode cX4_sell 22 = .ok (.getfield 89, 3) := by decide +kernel
theorem dX4_sell_25 : decode cX4_sell 25 = .ok (.iload_n 1, 1) := by decide +kernel
theorem dX4_sell_26 : decode cX4_sell 26 = .ok (.iaload, 1) := by decide +kernel
theorem dX4_sell_27 : decode cX4_sell 27 = .ok (.iconst (-1), 1) := by decide +kernel
theorem dX4_sell_28 : decode cX4_sell 28 = .ok (.if_icmp .ne 12, 3) := by decide +kernel
theorem dX4_sell_31 : decode cX4_sell 31 = .ok (.aload_n 0, 1) := by decide +kernel
theorem dX4_sell_32 : decode cX4_sell 32 = .ok (.iload_n 1, 1) := by decide +kernel
theorem dX4_sell_33 : decode cX4_sell 33 = .ok (.invokevirtual 227, 3) := by decide +kernel
theorem dX4_sell_36 : decode cX4_sell 36 = .ok (.iconst (-1), 1) := by decide +kernel
theorem dX4_sell_37 : decode cX4_sell 37 = .ok (.if_icmp .ne 7, 3) := by decide +kernel
theorem dX4_sell_40 : decode cX4_sell 40 = .ok (.iconst 2, 1) := by decide +kernel
theorem dX4_sell_41 : decode cX4_sell 41 = .ok (.goto 4, 3) := by decide +kernel
theorem dX4_sell_44 : decode cX4_sell 44 = .ok (.iconst 0, 1) := by decide +kernel
theorem dX4_sell_45 : decode cX4_sell 45 = .ok (.putfield 104, 3) := by decide +kernel
theorem dX4_sell_48 : decode cX4_sell 48 = .ok (.aload_n 0, 1) := by decide +kernel
theorem dX4_sell_49 : decode cX4_sell 49 = .ok (.getfield 104, 3) := by decide +kernel
theorem dX4_sell_52 : decode cX4_sell 52 = .ok (.ifCond .le 5, 3) := by decide +kernel
theorem dX4_sell_55 : decode cX4_sell 55 = .ok (.iconst 0, 1) := by decide +kernel
theorem dX4_sell_56 : decode cX4_sell 56 = .ok (.ireturn, 1) := by decide +kernel
theorem dX4_sell_57 : decode cX4_sell 57 = .ok (.aload_n 0, 1) := by decide +kernel
theorem dX4_sell_58 : decode cX4_sell 58 = .ok (.iload_n 1, 1) := by decide +kernel
theorem dX4_sell_59 : decode cX4_sell 59 = .ok (.invokevirtual 227, 3) := by decide +kernel
theorem dX4_sell_62 : decode cX4_sell 62 = .ok (.istore_n 2, 1) := by decide +kernel
theorem dX4_sell_63 : decode cX4_sell 63 = .ok (.aload_n 0, 1) := by decide +kernel
theorem dX4_sell_64 : decode cX4_sell 64 = .ok (.getfield 95, 3) := by decide +kernel
theorem dX4_sell_67 : decode cX4_sell 67 = .ok (.iconst 5, 1) := by decide +kernel
theorem dX4_sell_68 : decode cX4_sell 68 = .ok (.iload_n 1, 1) := by decide +kernel
theorem dX4_sell_69 : decode cX4_sell 69 = .ok (.imul, 1) := by decide +kernel
theorem dX4_sell_70 : decode cX4_sell 70 = .ok (.iload_n 2, 1) := by decide +kernel
theorem dX4_sell_71 : decode cX4_sell 71 = .ok (.iadd, 1) := by decide +kernel
theorem dX4_sell_72 : decode cX4_sell 72 = .ok (.iaload, 1) := by decide +kernel
theorem dX4_sell_73 : decode cX4_sell 73 = .ok (.istore_n 3, 1) := by decide +kernel
theorem dX4_sell_74 : decode cX4_sell 74 = .ok (.aload_n 0, 1) := by decide +kernel
theorem dX4_sell_75 : decode cX4_sell 75 = .ok (.getfield 101, 3) := by decide +kernel
theorem dX4_sell_78 : decode cX4_sell 78 = .ok (.iload_n 2, 1) := by decide +kernel
theorem dX4_sell_79 : decode cX4_sell 79 = .ok (.dup2, 1) := by decide +kernel
theorem dX4_sell_80 : decode cX4_sell 80 = .ok (.iaload, 1) := by decide +kernel
theorem dX4_sell_81 : decode cX4_sell 81 = .ok (.iload_n 3, 1) := by decide +kernel
theorem dX4_sell_82 : decode cX4_sell 82 = .ok (.isub, 1) := by decide +kernel
theorem dX4_sell_83 : decode cX4_sell 83 = .ok (.iastore, 1) := by decide +kernel
theorem dX4_sell_84 : decode cX4_sell 84 = .ok (.aload_n 0, 1) := by decide +kernel
theorem dX4_sell_85 : decode cX4_sell 85 = .ok (.getfield 62, 3) := by decide +kernel
theorem dX4_sell_88 : decode cX4_sell 88 = .ok (.aload_n 0, 1) := by decide +kernel
theorem dX4_sell_89 : decode cX4_sell 89 = .ok (.getfield 80, 3) := by decide +kernel
theorem dX4_sell_92 : decode cX4_sell 92 = .ok (.iload_n 1, 1) := by decide +kernel
theorem dX4_sell_93 : decode cX4_sell 93 = .ok (.iaload, 1) := by decide +kernel
theorem dX4_sell_94 : decode cX4_sell 94 = .ok (.dup2, 1) := by decide +kernel
theorem dX4_sell_95 : decode cX4_sell 95 = .ok (.iaload, 1) := by decide +kernel
theorem dX4_sell_96 : decode cX4_sell 96 = .ok (.iload_n 3, 1) := by decide +kernel
theorem dX4_sell_97 : decode cX4_sell 97 = .ok (.iadd, 1) := by decide +kernel
theorem dX4_sell_98 : decode cX4_sell 98 = .ok (.iastore, 1) := by decide +kernel
theorem dX4_sell_99 : decode cX4_sell 99 = .ok (.aload_n 0, 1) := by decide +kernel
theorem dX4_sell_100 : decode cX4_sell 100 = .ok (.getfield 89, 3) := by decide +kernel
theorem dX4_sell_103 : decode cX4_sell 103 = .ok (.iload_n 1, 1) := by decide +kernel
theorem dX4_sell_104 : decode cX4_sell 104 = .ok (.iload_n 2, 1) := by decide +kernel
theorem dX4_sell_105 : decode cX4_sell 105 = .ok (.iastore, 1) := by decide +kernel
theorem dX4_sell_106 : decode cX4_sell 106 = .ok (.iload_n 2, 1) := by decide +kernel
theorem dX4_sell_107 : decode cX4_sell 107 = .ok (.ireturn, 1) := by decide +kernel
theorem dX4_hour_0 : decode cX4_hour 0 = .ok (.aload_n 0, 1) := by decide +kernel
theorem dX4_hour_1 : decode cX4_hour 1 = .ok (.iconst 0, 1) := by decide +kernel
theorem dX4_hour_2 : decode cX4_hour 2 = .ok (.putfield 104, 3) := by decide +kernel
theorem dX4_hour_5 : decode cX4_hour 5 = .ok (.aload_n 0, 1) := by decide +kernel
theorem dX4_hour_6 : decode cX4_hour 6 = .ok (.getfield 118, 3) := by decide +kernel
theorem dX4_hour_9 : decode cX4_hour 9 = .ok (.ireturn, 1) := by decide +kernel
theorem dX4_bore_0 : decode cX4_bore 0 = .ok (.aload_n 0, 1) := by decide +kernel
theorem dX4_bore_1 : decode cX4_bore 1 = .ok (.iload_n 1, 1) := by decide +kernel
theorem dX4_bore_2 : decode cX4_bore 2 = .ok (.invokestatic 121, 3) := by decide +kernel
theorem dX4_bore_5 : decode cX4_bore 5 = .ok (.ifCond .eq 7, 3) := by decide +kernel
theorem dX4_bore_8 : decode cX4_bore 8 = .ok (.iconst 0, 1) := by decide +kernel
theorem dX4_bore_9 : decode cX4_bore 9 = .ok (.goto 4, 3) := by decide +kernel
theorem dX4_bore_12 : decode cX4_bore 12 = .ok (.iconst 1, 1) := by decide +kernel
theorem dX4_bore_13 : decode cX4_bore 13 = .ok (.putfield 104, 3) := by decide +kernel
theorem dX4_bore_16 : decode cX4_bore 16 = .ok (.aload_n 0, 1) := by decide +kernel
theorem dX4_bore_17 : decode cX4_bore 17 = .ok (.getfield 104, 3) := by decide +kernel
theorem dX4_bore_20 : decode cX4_bore 20 = .ok (.ifCond .le 5, 3) := by decide +kernel
theorem dX4_bore_23 : decode cX4_bore 23 = .ok (.iconst 0, 1) := by decide +kernel
theorem dX4_bore_24 : decode cX4_bore 24 = .ok (.ireturn, 1) := by decide +kernel
theorem dX4_bore_25 : decode cX4_bore 25 = .ok (.aload_n 0, 1) := by decide +kernel
theorem dX4_bore_26 : decode cX4_bore 26 = .ok (.getfield 13, 3) := by decide +kernel
theorem dX4_bore_29 : decode cX4_bore 29 = .ok (.iload_n 1, 1) := by decide +kernel
theorem dX4_bore_30 : decode cX4_bore 30 = .ok (.iaload, 1) := by decide +kernel
theorem dX4_bore_31 : decode cX4_bore 31 = .ok (.ifCond .le 7, 3) := by decide +kernel
theorem dX4_bore_34 : decode cX4_bore 34 = .ok (.iconst 1, 1) := by decide +kernel
theorem dX4_bore_35 : decode cX4_bore 35 = .ok (.goto 4, 3) := by decide +kernel
theorem dX4_bore_38 : decode cX4_bore 38 = .ok (.iconst 0, 1) := by decide +kernel
theorem dX4_bore_39 : decode cX4_bore 39 = .ok (.istore_n 2, 1) := by decide +kernel
theorem dX4_bore_40 : decode cX4_bore 40 = .ok (.iconst 0, 1) := by decide +kernel
theorem dX4_bore_41 : decode cX4_bore 41 = .ok (.istore_n 3, 1) := by decide +kernel
theorem dX4_bore_42 : decode cX4_bore 42 = .ok (.iload_n 3, 1) := by decide +kernel
theorem dX4_bore_43 : decode cX4_bore 43 = .ok (.iconst 4, 1) := by decide +kernel
theorem dX4_bore_44 : decode cX4_bore 44 = .ok (.if_icmp .ge 40, 3) := by decide +kernel
theorem dX4_bore_47 : decode cX4_bore 47 = .ok (.iload_n 1, 1) := by decide +kernel
theorem dX4_bore_48 : decode cX4_bore 48 = .ok (.iload_n 3, 1) := by decide +kernel
theorem dX4_bore_49 : decode cX4_bore 49 = .ok (.invokestatic 158, 3) := by decide +kernel
theorem dX4_bore_52 : decode cX4_bore 52 = .ok (.istore 4, 2) := by decide +kernel
theorem dX4_bore_54 : decode cX4_bore 54 = .ok (.iload_n 2, 1) := by decide +kernel
theorem dX4_bore_55 : decode cX4_bore 55 = .ok (.iload 4, 2) := by decide +kernel
theorem dX4_bore_57 : decode cX4_bore 57 = .ok (.iconst (-1), 1) := by decide +kernel
theorem dX4_bore_58 : decode cX4_bore 58 = .ok (.if_icmp .eq 17, 3) := by decide +kernel
theorem dX4_bore_61 : decode cX4_bore 61 = .ok (.aload_n 0, 1) := by decide +kernel
theorem dX4_bore_62 : decode cX4_bore 62 = .ok (.getfield 13, 3) := by decide +kernel
theorem dX4_bore_65 : decode cX4_bore 65 = .ok (.iload 4, 2) := by decide +kernel
theorem dX4_bore_67 : decode cX4_bore 67 = .ok (.iaload, 1) := by decide +kernel
theorem dX4_bore_68 : decode cX4_bore 68 = .ok (.ifCond .le 7, 3) := by decide +kernel
theorem dX4_bore_71 : decode cX4_bore 71 = .ok (.iconst 1, 1) := by decide +kernel
theorem dX4_bore_72 : decode cX4_bore 72 = .ok (.goto 4, 3) := by decide +kernel
theorem dX4_bore_75 : decode cX4_bore 75 = .ok (.iconst 0, 1) := by decide +kernel
theorem dX4_bore_76 : decode cX4_bore 76 = .ok (.iadd, 1) := by decide +kernel
theorem dX4_bore_77 : decode cX4_bore 77 = .ok (.istore_n 2, 1) := by decide +kernel
theorem dX4_bore_78 : decode cX4_bore 78 = .ok (.iinc 3 1, 3) := by decide +kernel
theorem dX4_bore_81 : decode cX4_bore 81 = .ok (.goto (-39), 3) := by decide +kernel
theorem dX4_bore_84 : decode cX4_bore 84 = .ok (.iload_n 2, 1) := by decide +kernel
theorem dX4_bore_85 : decode cX4_bore 85 = .ok (.ireturn, 1) := by decide +kernel
theorem dX4_ofCell_0 : decode cX4_ofCell 0 = .ok (.aload_n 0, 1) := by decide +kernel
theorem dX4_ofCell_1 : decode cX4_ofCell 1 = .ok (.iload_n 1, 1) := by decide +kernel
theorem dX4_ofCell_2 : decode cX4_ofCell 2 = .ok (.invokestatic 121, 3) := by decide +kernel
theorem dX4_ofCell_5 : decode cX4_ofCell 5 = .ok (.ifCond .ne 7, 3) := by decide +kernel
theorem dX4_ofCell_8 : decode cX4_ofCell 8 = .ok (.iconst 1, 1) := by decide +kernel
theorem dX4_ofCell_9 : decode cX4_ofCell 9 = .ok (.goto 17, 3) := by decide +kernel
theorem dX4_ofCell_12 : decode cX4_ofCell 12 = .ok (.iload_n 2, 1) := by decide +kernel
theorem dX4_ofCell_13 : decode cX4_ofCell 13 = .ok (.iconst 0, 1) := by decide +kernel
theorem dX4_ofCell_14 : decode cX4_ofCell 14 = .ok (.iconst 3, 1) := by decide +kernel
theorem dX4_ofCell_15 : decode cX4_ofCell 15 = .ok (.invokestatic 108, 3) := by decide +kernel
theorem dX4_ofCell_18 : decode cX4_ofCell 18 = .ok (.ifCond .eq 7, 3) := by decide +kernel
theorem dX4_ofCell_21 : decode cX4_ofCell 21 = .ok (.iconst 0, 1) := by decide +kernel
theorem dX4_ofCell_22 : decode cX4_ofCell 22 = .ok (.goto 4, 3) := by decide +kernel
theorem dX4_ofCell_25 : decode cX4_ofCell 25 = .ok (.iconst 2, 1) := by decide +kernel
theorem dX4_ofCell_26 : decode cX4_ofCell 26 = .ok (.putfield 104, 3) := by decide +kernel
theorem dX4_ofCell_29 : decode cX4_ofCell 29 = .ok (.aload_n 0, 1) := by decide +kernel
theorem dX4_ofCell_30 : decode cX4_ofCell 30 = .ok (.getfield 104, 3) := by decide +kernel
theorem dX4_ofCell_33 : decode cX4_ofCell 33 = .ok (.ifCond .le 5, 3) := by decide +kernel
theorem dX4_ofCell_36 : decode cX4_ofCell 36 = .ok (.iconst 0, 1) := by decide +kernel
theorem dX4_ofCell_37 : decode cX4_ofCell 37 = .ok (.ireturn, 1) := by decide +kernel
theorem dX4_ofCell_38 : decode cX4_ofCell 38 = .ok (.iload_n 2, 1) := by decide +kernel
theorem dX4_ofCell_39 : decode cX4_ofCell 39 = .ok (.tableswitch 63 0 2 #[25, 32, 47], 25) := by decide +kernel
theorem dX4_ofCell_64 : decode cX4_ofCell 64 = .ok (.aload_n 0, 1) := by decide +kernel
theorem dX4_ofCell_65 : decode cX4_ofCell 65 = .ok (.getfield 7, 3) := by decide +kernel
theorem dX4_ofCell_68 : decode cX4_ofCell 68 = .ok (.iload_n 1, 1) := by decide +kernel
theorem dX4_ofCell_69 : decode cX4_ofCell 69 = .ok (.iaload, 1) := by decide +kernel
theorem dX4_ofCell_70 : decode cX4_ofCell 70 = .ok (.ireturn, 1) := by decide +kernel
theorem dX4_ofCell_71 : decode cX4_ofCell 71 = .ok (.aload_n 0, 1) := by decide +kernel
theorem dX4_ofCell_72 : decode cX4_ofCell 72 = .ok (.getfield 23, 3) := by decide +kernel
theorem dX4_ofCell_75 : decode cX4_ofCell 75 = .ok (.iload_n 1, 1) := by decide +kernel
theorem dX4_ofCell_76 : decode cX4_ofCell 76 = .ok (.baload, 1) := by decide +kernel
theorem dX4_ofCell_77 : decode cX4_ofCell 77 = .ok (.ifCond .eq 7, 3) := by decide +kernel
theorem dX4_ofCell_80 : decode cX4_ofCell 80 = .ok (.iconst 1, 1) := by decide +kernel
theorem dX4_ofCell_81 : decode cX4_ofCell 81 = .ok (.goto 4, 3) := by decide +kernel
theorem dX4_ofCell_84 : decode cX4_ofCell 84 = .ok (.iconst 0, 1) := by decide +kernel
theorem dX4_ofCell_85 : decode cX4_ofCell 85 = .ok (.ireturn, 1) := by decide +kernel
theorem dX4_ofCell_86 : decode cX4_ofCell 86 = .ok (.aload_n 0, 1) := by decide +kernel
theorem dX4_ofCell_87 : decode cX4_ofCell 87 = .ok (.getfield 26, 3) := by decide +kernel
theorem dX4_ofCell_90 : decode cX4_ofCell 90 = .ok (.iload_n 1, 1) := by decide +kernel
theorem dX4_ofCell_91 : decode cX4_ofCell 91 = .ok (.iaload, 1) := by decide +kernel
theorem dX4_ofCell_92 : decode cX4_ofCell 92 = .ok (.iconst (-1), 1) := by decide +kernel
theorem dX4_ofCell_93 : decode cX4_ofCell 93 = .ok (.if_icmp .ne 7, 3) := by decide +kernel
theorem dX4_ofCell_96 : decode cX4_ofCell 96 = .ok (.iconst 0, 1) := by decide +kernel
theorem dX4_ofCell_97 : decode cX4_ofCell 97 = .ok (.goto 4, 3) := by decide +kernel
theorem dX4_ofCell_100 : decode cX4_ofCell 100 = .ok (.iconst 1, 1) := by decide +kernel
theorem dX4_ofCell_101 : decode cX4_ofCell 101 = .ok (.ireturn, 1) := by decide +kernel
theorem dX4_ofCell_102 : decode cX4_ofCell 102 = .ok (.aload_n 0, 1) := by decide +kernel
theorem dX4_ofCell_103 : decode cX4_ofCell 103 = .ok (.iload_n 1, 1) := by decide +kernel
theorem dX4_ofCell_104 : decode cX4_ofCell 104 = .ok (.invokevirtual 175, 3) := by decide +kernel
theorem dX4_ofCell_107 : decode cX4_ofCell 107 = .ok (.ireturn, 1) := by decide +kernel
theorem dX4_held_0 : decode cX4_held 0 = .ok (.iconst 0, 1) := by decide +kernel
theorem dX4_held_1 : decode cX4_held 1 = .ok (.istore_n 2, 1) := by decide +kernel
theorem dX4_held_2 : decode cX4_held 2 = .ok (.iconst 0, 1) := by decide +kernel
theorem dX4_held_3 : decode cX4_held 3 = .ok (.istore_n 3, 1) := by decide +kernel
theorem dX4_held_4 : decode cX4_held 4 = .ok (.iload_n 3, 1) := by decide +kernel
theorem dX4_held_5 : decode cX4_held 5 = .ok (.bipush 100, 2) := by decide +kernel
theorem dX4_held_7 : decode cX4_held 7 = .ok (.if_icmp .ge 26, 3) := by decide +kernel
theorem dX4_held_10 : decode cX4_held 10 = .ok (.iload_n 2, 1) := by decide +kernel
theorem dX4_held_11 : decode cX4_held 11 = .ok (.aload_n 0, 1) := by decide +kernel
theorem dX4_held_12 : decode cX4_held 12 = .ok (.iload_n 3, 1) := by decide +kernel
theorem dX4_held_13 : decode cX4_held 13 = .ok (.invokevirtual 175, 3) := by decide +kernel
theorem dX4_held_16 : decode cX4_held 16 = .ok (.iload_n 1, 1) := by decide +kernel
theorem dX4_held_17 : decode cX4_held 17 = .ok (.if_icmp .ne 7, 3) := by decide +kernel
theorem dX4_held_20 : decode cX4_held 20 = .ok (.iconst 1, 1) := by decide +kernel
theorem dX4_held_21 : decode cX4_held 21 = .ok (.goto 4, 3) := by decide +kernel
theorem dX4_held_24 : decode cX4_held 24 = .ok (.iconst 0, 1) := by decide +kernel
theorem dX4_held_25 : decode cX4_held 25 = .ok (.iadd, 1) := by decide +kernel
theorem dX4_held_26 : decode cX4_held 26 = .ok (.istore_n 2, 1) := by decide +kernel
theorem dX4_held_27 : decode cX4_held 27 = .ok (.iinc 3 1, 3) := by decide +kernel
theorem dX4_held_30 : decode cX4_held 30 = .ok (.goto (-26), 3) := by decide +kernel
theorem dX4_held_33 : decode cX4_held 33 = .ok (.iload_n 2, 1) := by decide +kernel
theorem dX4_held_34 : decode cX4_held 34 = .ok (.ireturn, 1) := by decide +kernel
theorem dX4_ofClaim_0 : decode cX4_ofClaim 0 = .ok (.aload_n 0, 1) := by decide +kernel
theorem dX4_ofClaim_1 : decode cX4_ofClaim 1 = .ok (.aload_n 0, 1) := by decide +kernel
theorem dX4_ofClaim_2 : decode cX4_ofClaim 2 = .ok (.iload_n 1, 1) := by decide +kernel
theorem dX4_ofClaim_3 : decode cX4_ofClaim 3 = .ok (.invokevirtual 142, 3) := by decide +kernel
theorem dX4_ofClaim_6 : decode cX4_ofClaim 6 = .ok (.ifCond .ne 7, 3) := by decide +kernel
theorem dX4_ofClaim_9 : decode cX4_ofClaim 9 = .ok (.iconst 1, 1) := by decide +kernel
theorem dX4_ofClaim_10 : decode cX4_ofClaim 10 = .ok (.goto 18, 3) := by decide +kernel
theorem dX4_ofClaim_13 : decode cX4_ofClaim 13 = .ok (.iload_n 2, 1) := by decide +kernel
theorem dX4_ofClaim_14 : decode cX4_ofClaim 14 = .ok (.iconst 0, 1) := by decide +kernel
theorem dX4_ofClaim_15 : decode cX4_ofClaim 15 = .ok (.bipush 6, 2) := by decide +kernel
theorem dX4_ofClaim_17 : decode cX4_ofClaim 17 = .ok (.invokestatic 108, 3) := by decide +kernel
theorem dX4_ofClaim_20 : decode cX4_ofClaim 20 = .ok (.ifCond .eq 7, 3) := by decide +kernel
theorem dX4_ofClaim_23 : decode cX4_ofClaim 23 = .ok (.iconst 0, 1) := by decide +kernel
theorem dX4_ofClaim_24 : decode cX4_ofClaim 24 = .ok (.goto 4, 3) := by decide +kernel
theorem dX4_ofClaim_27 : decode cX4_ofClaim 27 = .ok (.iconst 2, 1) := by decide +kernel
theorem dX4_ofClaim_28 : decode cX4_ofClaim 28 = .ok (.putfield 104, 3) := by decide +kernel
theorem dX4_ofClaim_31 : decode cX4_ofClaim 31 = .ok (.aload_n 0, 1) := by decide +kernel
theorem dX4_ofClaim_32 : decode cX4_ofClaim 32 = .ok (.getfield 104, 3) := by decide +kernel
theorem dX4_ofClaim_35 : decode cX4_ofClaim 35 = .ok (.ifCond .le 5, 3) := by decide +kernel
theorem dX4_ofClaim_38 : decode cX4_ofClaim 38 = .ok (.iconst 0, 1) := by decide +kernel
theorem dX4_ofClaim_39 : decode cX4_ofClaim 39 = .ok (.ireturn, 1) := by decide +kernel
theorem dX4_ofClaim_40 : decode cX4_ofClaim 40 = .ok (.iload_n 2, 1) := by decide +kernel
theorem dX4_ofClaim_41 : decode cX4_ofClaim 41 = .ok (.tableswitch 85 0 5 #[39, 46, 52, 66, 72, 79], 39) := by decide +kernel
theorem dX4_ofClaim_80 : decode cX4_ofClaim 80 = .ok (.aload_n 0, 1) := by decide +kernel
theorem dX4_ofClaim_81 : decode cX4_ofClaim 81 = .ok (.getfield 32, 3) := by decide +kernel
theorem dX4_ofClaim_84 : decode cX4_ofClaim 84 = .ok (.iload_n 1, 1) := by decide +kernel
theorem dX4_ofClaim_85 : decode cX4_ofClaim 85 = .ok (.iaload, 1) := by decide +kernel
theorem dX4_ofClaim_86 : decode cX4_ofClaim 86 = .ok (.ireturn, 1) := by decide +kernel
theorem dX4_ofClaim_87 : decode cX4_ofClaim 87 = .ok (.aload_n 0, 1) := by decide +kernel
theorem dX4_ofClaim_88 : decode cX4_ofClaim 88 = .ok (.iload_n 1, 1) := by decide +kernel
theorem dX4_ofClaim_89 : decode cX4_ofClaim 89 = .ok (.invokevirtual 148, 3) := by decide +kernel
theorem dX4_ofClaim_92 : decode cX4_ofClaim 92 = .ok (.ireturn, 1) := by decide +kernel
theorem dX4_ofClaim_93 : decode cX4_ofClaim 93 = .ok (.aload_n 0, 1) := by decide +kernel
theorem dX4_ofClaim_94 : decode cX4_ofClaim 94 = .ok (.iload_n 1, 1) := by decide +kernel
theorem dX4_ofClaim_95 : decode cX4_ofClaim 95 = .ok (.invokevirtual 151, 3) := by decide +kernel
theorem dX4_ofClaim_98 : decode cX4_ofClaim 98 = .ok (.ifCond .eq 7, 3) := by decide +kernel
theorem dX4_ofClaim_101 : decode cX4_ofClaim 101 = .ok (.iconst 1, 1) := by decide +kernel
theorem dX4_ofClaim_102 : decode cX4_ofClaim 102 = .ok (.goto 4, 3) := by decide +kernel
theorem dX4_ofClaim_105 : decode cX4_ofClaim 105 = .ok (.iconst 0, 1) := by decide +kernel
theorem dX4_ofClaim_106 : decode cX4_ofClaim 106 = .ok (.ireturn, 1) := by decide +kernel
theorem dX4_ofClaim_107 : decode cX4_ofClaim 107 = .ok (.aload_n 0, 1) := by decide +kernel
theorem dX4_ofClaim_108 : decode cX4_ofClaim 108 = .ok (.iload_n 1, 1) := by decide +kernel
theorem dX4_ofClaim_109 : decode cX4_ofClaim 109 = .ok (.invokevirtual 230, 3) := by decide +kernel
theorem dX4_ofClaim_112 : decode cX4_ofClaim 112 = .ok (.ireturn, 1) := by decide +kernel
theorem dX4_ofClaim_113 : decode cX4_ofClaim 113 = .ok (.aload_n 0, 1) := by decide +kernel
theorem dX4_ofClaim_114 : decode cX4_ofClaim 114 = .ok (.getfield 50, 3) := by decide +kernel
theorem dX4_ofClaim_117 : decode cX4_ofClaim 117 = .ok (.iload_n 1, 1) := by decide +kernel
theorem dX4_ofClaim_118 : decode cX4_ofClaim 118 = .ok (.iaload, 1) := by decide +kernel
theorem dX4_ofClaim_119 : decode cX4_ofClaim 119 = .ok (.ireturn, 1) := by decide +kernel
theorem dX4_ofClaim_120 : decode cX4_ofClaim 120 = .ok (.aload_n 0, 1) := by decide +kernel
theorem dX4_ofClaim_121 : decode cX4_ofClaim 121 = .ok (.iload_n 1, 1) := by decide +kernel
theorem dX4_ofClaim_122 : decode cX4_ofClaim 122 = .ok (.invokevirtual 202, 3) := by decide +kernel
theorem dX4_ofClaim_125 : decode cX4_ofClaim 125 = .ok (.ireturn, 1) := by decide +kernel
theorem dX4_ofClaim_126 : decode cX4_ofClaim 126 = .ok (.aload_n 0, 1) := by decide +kernel
theorem dX4_ofClaim_127 : decode cX4_ofClaim 127 = .ok (.iload_n 1, 1) := by decide +kernel
theorem dX4_ofClaim_128 : decode cX4_ofClaim 128 = .ok (.invokevirtual 151, 3) := by decide +kernel
theorem dX4_ofClaim_131 : decode cX4_ofClaim 131 = .ok (.ifCond .eq 20, 3) := by decide +kernel
theorem dX4_ofClaim_134 : decode cX4_ofClaim 134 = .ok (.bipush 72, 2) := by decide +kernel
theorem dX4_ofClaim_136 : decode cX4_ofClaim 136 = .ok (.aload_n 0, 1) := by decide +kernel
theorem dX4_ofClaim_137 : decode cX4_ofClaim 137 = .ok (.getfield 118, 3) := by decide +kernel
theorem dX4_ofClaim_140 : decode cX4_ofClaim 140 = .ok (.aload_n 0, 1) := by decide +kernel
theorem dX4_ofClaim_141 : decode cX4_ofClaim 141 = .ok (.getfield 47, 3) := by decide +kernel
theorem dX4_ofClaim_144 : decode cX4_ofClaim 144 = .ok (.iload_n 1, 1) := by decide +kernel
theorem dX4_ofClaim_145 : decode cX4_ofClaim 145 = .ok (.iaload, 1) := by decide +kernel
theorem dX4_ofClaim_146 : decode cX4_ofClaim 146 = .ok (.isub, 1) := by decide +kernel
theorem dX4_ofClaim_147 : decode cX4_ofClaim 147 = .ok (.isub, 1) := by decide +kernel
theorem dX4_ofClaim_148 : decode cX4_ofClaim 148 = .ok (.goto 4, 3) := by decide +kernel
theorem dX4_ofClaim_151 : decode cX4_ofClaim 151 = .ok (.iconst 0, 1) := by decide +kernel
theorem dX4_ofClaim_152 : decode cX4_ofClaim 152 = .ok (.ireturn, 1) := by decide +kernel
theorem dX4_share_0 : decode cX4_share 0 = .ok (.aload_n 0, 1) := by decide +kernel
theorem dX4_share_1 : decode cX4_share 1 = .ok (.aload_n 0, 1) := by decide +kernel
theorem dX4_share_2 : decode cX4_share 2 = .ok (.iload_n 1, 1) := by decide +kernel
theorem dX4_share_3 : decode cX4_share 3 = .ok (.invokevirtual 142, 3) := by decide +kernel
theorem dX4_share_6 : decode cX4_share 6 = .ok (.ifCond .eq 14, 3) := by decide +kernel
theorem dX4_share_9 : decode cX4_share 9 = .ok (.iload_n 2, 1) := by decide +kernel
theorem dX4_share_10 : decode cX4_share 10 = .ok (.invokestatic 128, 3) := by decide +kernel
theorem dX4_share_13 : decode cX4_share 13 = .ok (.ifCond .eq 7, 3) := by decide +kernel
theorem dX4_share_16 : decode cX4_share 16 = .ok (.iconst 0, 1) := by decide +kernel
theorem dX4_share_17 : decode cX4_share 17 = .ok (.goto 4, 3) := by decide +kernel
theorem dX4_share_20 : decode cX4_share 20 = .ok (.iconst 1, 1) := by decide +kernel
theorem dX4_share_21 : decode cX4_share 21 = .ok (.putfield 104, 3) := by decide +kernel
theorem dX4_share_24 : decode cX4_share 24 = .ok (.aload_n 0, 1) := by decide +kernel
theorem dX4_share_25 : decode cX4_share 25 = .ok (.getfield 104, 3) := by decide +kernel
theorem dX4_share_28 : decode cX4_share 28 = .ok (.ifCond .le 7, 3) := by decide +kernel
theorem dX4_share_31 : decode cX4_share 31 = .ok (.iconst 0, 1) := by decide +kernel
theorem dX4_share_32 : decode cX4_share 32 = .ok (.goto 9, 3) := by decide +kernel
theorem dX4_share_35 : decode cX4_share 35 = .ok (.aload_n 0, 1) := by decide +kernel
theorem dX4_share_36 : decode cX4_share 36 = .ok (.iload_n 1, 1) := by decide +kernel
theorem dX4_share_37 : decode cX4_share 37 = .ok (.iload_n 2, 1) := by decide +kernel
theorem dX4_share_38 : decode cX4_share 38 = .ok (.invokevirtual 145, 3) := by decide +kernel
theorem dX4_share_41 : decode cX4_share 41 = .ok (.ireturn, 1) := by decide +kernel
theorem dX4_meet_0 : decode cX4_meet 0 = .ok (.iconst 0, 1) := by decide +kernel
theorem dX4_meet_1 : decode cX4_meet 1 = .ok (.istore_n 3, 1) := by decide +kernel
theorem dX4_meet_2 : decode cX4_meet 2 = .ok (.iconst 0, 1) := by decide +kernel
theorem dX4_meet_3 : decode cX4_meet 3 = .ok (.istore 4, 2) := by decide +kernel
theorem dX4_meet_5 : decode cX4_meet 5 = .ok (.iload 4, 2) := by decide +kernel
theorem dX4_meet_7 : decode cX4_meet 7 = .ok (.bipush 100, 2) := by decide +kernel
theorem dX4_meet_9 : decode cX4_meet 9 = .ok (.if_icmp .ge 39, 3) := by decide +kernel
theorem dX4_meet_12 : decode cX4_meet 12 = .ok (.iload_n 3, 1) := by decide +kernel
theorem dX4_meet_13 : decode cX4_meet 13 = .ok (.ifCond .ne 23, 3) := by decide +kernel
theorem dX4_meet_16 : decode cX4_meet 16 = .ok (.aload_n 0, 1) := by decide +kernel
theorem dX4_meet_17 : decode cX4_meet 17 = .ok (.iload_n 1, 1) := by decide +kernel
theorem dX4_meet_18 : decode cX4_meet 18 = .ok (.iload 4, 2) := by decide +kernel
theorem dX4_meet_20 : decode cX4_meet 20 = .ok (.invokevirtual 154, 3) := by decide +kernel
theorem dX4_meet_23 : decode cX4_meet 23 = .ok (.ifCond .eq 17, 3) := by decide +kernel
theorem dX4_meet_26 : decode cX4_meet 26 = .ok (.aload_n 0, 1) := by decide +kernel
theorem dX4_meet_27 : decode cX4_meet 27 = .ok (.iload_n 2, 1) := by decide +kernel
theorem dX4_meet_28 : decode cX4_meet 28 = .ok (.iload 4, 2) := by decide +kernel
theorem dX4_meet_30 : decode cX4_meet 30 = .ok (.invokevirtual 154, 3) := by decide +kernel
theorem dX4_meet_33 : decode cX4_meet 33 = .ok (.ifCond .eq 7, 3) := by decide +kernel
theorem dX4_meet_36 : decode cX4_meet 36 = .ok (.iconst 1, 1) := by decide +kernel
theorem dX4_meet_37 : decode cX4_meet 37 = .ok (.goto 4, 3) := by decide +kernel
theorem dX4_meet_40 : decode cX4_meet 40 = .ok (.iconst 0, 1) := by decide +kernel
theorem dX4_meet_41 : decode cX4_meet 41 = .ok (.istore_n 3, 1) := by decide +kernel
theorem dX4_meet_42 : decode cX4_meet 42 = .ok (.iinc 4 1, 3) := by decide +kernel
theorem dX4_meet_45 : decode cX4_meet 45 = .ok (.goto (-40), 3) := by decide +kernel
theorem dX4_meet_48 : decode cX4_meet 48 = .ok (.iload_n 3, 1) := by decide +kernel
theorem dX4_meet_49 : decode cX4_meet 49 = .ok (.ireturn, 1) := by decide +kernel
theorem dX4_verdict_0 : decode cX4_verdict 0 = .ok (.aload_n 0, 1) := by decide +kernel
theorem dX4_verdict_1 : decode cX4_verdict 1 = .ok (.aload_n 0, 1) := by decide +kernel
theorem dX4_verdict_2 : decode cX4_verdict 2 = .ok (.iload_n 1, 1) := by decide +kernel
theorem dX4_verdict_3 : decode cX4_verdict 3 = .ok (.invokevirtual 142, 3) := by decide +kernel
theorem dX4_verdict_6 : decode cX4_verdict 6 = .ok (.ifCond .eq 11, 3) := by decide +kernel
theorem dX4_verdict_9 : decode cX4_verdict 9 = .ok (.aload_n 0, 1) := by decide +kernel
theorem dX4_verdict_10 : decode cX4_verdict 10 = .ok (.iload_n 2, 1) := by decide +kernel
theorem dX4_verdict_11 : decode cX4_verdict 11 = .ok (.invokevirtual 142, 3) := by decide +kernel
theorem dX4_verdict_14 : decode cX4_verdict 14 = .ok (.ifCond .ne 7, 3) := by decide +kernel
theorem dX4_verdict_17 : decode cX4_verdict 17 = .ok (.iconst 1, 1) := by decide +kernel
theorem dX4_verdict_18 : decode cX4_verdict 18 = .ok (.goto 13, 3) := by decide +kernel
theorem dX4_verdict_21 : decode cX4_verdict 21 = .ok (.iload_n 1, 1) := by decide +kernel
theorem dX4_verdict_22 : decode cX4_verdict 22 = .ok (.iload_n 2, 1) := by decide +kernel
theorem dX4_verdict_23 : decode cX4_verdict 23 = .ok (.if_icmp .ne 7, 3) := by decide +kernel
theorem dX4_verdict_26 : decode cX4_verdict 26 = .ok (.iconst 2, 1) := by decide +kernel
theorem dX4_verdict_27 : decode cX4_verdict 27 = .ok (.goto 4, 3) := by decide +kernel
theorem dX4_verdict_30 : decode cX4_verdict 30 = .ok (.iconst 0, 1) := by decide +kernel
theorem dX4_verdict_31 : decode cX4_verdict 31 = .ok (.putfield 104, 3) := by decide +kernel
theorem dX4_verdict_34 : decode cX4_verdict 34 = .ok (.aload_n 0, 1) := by decide +kernel
theorem dX4_verdict_35 : decode cX4_verdict 35 = .ok (.getfield 104, 3) := by decide +kernel
theorem dX4_verdict_38 : decode cX4_verdict 38 = .ok (.ifCond .le 5, 3) := by decide +kernel
theorem dX4_verdict_41 : decode cX4_verdict 41 = .ok (.iconst 0, 1) := by decide +kernel
theorem dX4_verdict_42 : decode cX4_verdict 42 = .ok (.ireturn, 1) := by decide +kernel
theorem dX4_verdict_43 : decode cX4_verdict 43 = .ok (.aload_n 0, 1) := by decide +kernel
theorem dX4_verdict_44 : decode cX4_verdict 44 = .ok (.iload_n 1, 1) := by decide +kernel
theorem dX4_verdict_45 : decode cX4_verdict 45 = .ok (.invokevirtual 151, 3) := by decide +kernel
theorem dX4_verdict_48 : decode cX4_verdict 48 = .ok (.ifCond .eq 20, 3) := by decide +kernel
theorem dX4_verdict_51 : decode cX4_verdict 51 = .ok (.aload_n 0, 1) := by decide +kernel
theorem dX4_verdict_52 : decode cX4_verdict 52 = .ok (.iload_n 2, 1) := by decide +kernel
theorem dX4_verdict_53 : decode cX4_verdict 53 = .ok (.invokevirtual 151, 3) := by decide +kernel
theorem dX4_verdict_56 : decode cX4_verdict 56 = .ok (.ifCond .eq 12, 3) := by decide +kernel
theorem dX4_verdict_59 : decode cX4_verdict 59 = .ok (.aload_n 0, 1) := by decide +kernel
theorem dX4_verdict_60 : decode cX4_verdict 60 = .ok (.iload_n 1, 1) := by decide +kernel
theorem dX4_verdict_61 : decode cX4_verdict 61 = .ok (.iload_n 2, 1) := by decide +kernel
theorem dX4_verdict_62 : decode cX4_verdict 62 = .ok (.invokevirtual 233, 3) := by decide +kernel
theorem dX4_verdict_65 : decode cX4_verdict 65 = .ok (.ifCond .ne 5, 3) := by decide +kernel
theorem dX4_verdict_68 : decode cX4_verdict 68 = .ok (.iconst (-1), 1) := by decide +kernel
theorem dX4_verdict_69 : decode cX4_verdict 69 = .ok (.ireturn, 1) := by decide +kernel
theorem dX4_verdict_70 : decode cX4_verdict 70 = .ok (.iload_n 1, 1) := by decide +kernel
theorem dX4_verdict_71 : decode cX4_verdict 71 = .ok (.iload_n 2, 1) := by decide +kernel
theorem dX4_verdict_72 : decode cX4_verdict 72 = .ok (.if_icmp .ge 7, 3) := by decide +kernel
theorem dX4_verdict_75 : decode cX4_verdict 75 = .ok (.iload_n 1, 1) := by decide +kernel
theorem dX4_verdict_76 : decode cX4_verdict 76 = .ok (.goto 4, 3) := by decide +kernel
theorem dX4_verdict_79 : decode cX4_verdict 79 = .ok (.iload_n 2, 1) := by decide +kernel
theorem dX4_verdict_80 : decode cX4_verdict 80 = .ok (.istore_n 3, 1) := by decide +kernel
theorem dX4_verdict_81 : decode cX4_verdict 81 = .ok (.iload_n 1, 1) := by decide +kernel
theorem dX4_verdict_82 : decode cX4_verdict 82 = .ok (.iload_n 2, 1) := by decide +kernel
theorem dX4_verdict_83 : decode cX4_verdict 83 = .ok (.if_icmp .ge 7, 3) := by decide +kernel
theorem dX4_verdict_86 : decode cX4_verdict 86 = .ok (.iload_n 2, 1) := by decide +kernel
theorem dX4_verdict_87 : decode cX4_verdict 87 = .ok (.goto 4, 3) := by decide +kernel
theorem dX4_verdict_90 : decode cX4_verdict 90 = .ok (.iload_n 1, 1) := by decide +kernel
theorem dX4_verdict_91 : decode cX4_verdict 91 = .ok (.istore 4, 2) := by decide +kernel
theorem dX4_verdict_93 : decode cX4_verdict 93 = .ok (.aload_n 0, 1) := by decide +kernel
theorem dX4_verdict_94 : decode cX4_verdict 94 = .ok (.iload 4, 2) := by decide +kernel
theorem dX4_verdict_96 : decode cX4_verdict 96 = .ok (.invokevirtual 148, 3) := by decide +kernel
theorem dX4_verdict_99 : decode cX4_verdict 99 = .ok (.aload_n 0, 1) := by decide +kernel
theorem dX4_verdict_100 : decode cX4_verdict 100 = .ok (.iload_n 3, 1) := by decide +kernel
theorem dX4_verdict_101 : decode cX4_verdict 101 = .ok (.invokevirtual 148, 3) := by decide +kernel
theorem dX4_verdict_104 : decode cX4_verdict 104 = .ok (.if_icmp .ge 8, 3) := by decide +kernel
theorem dX4_verdict_107 : decode cX4_verdict 107 = .ok (.iload 4, 2) := by decide +kernel
theorem dX4_verdict_109 : decode cX4_verdict 109 = .ok (.goto 4, 3) := by decide +kernel
theorem dX4_verdict_112 : decode cX4_verdict 112 = .ok (.iload_n 3, 1) := by decide +kernel
theorem dX4_verdict_113 : decode cX4_verdict 113 = .ok (.ireturn, 1) := by decide +kernel
theorem dX4_stonesOf_0 : decode cX4_stonesOf 0 = .ok (.iconst 0, 1) := by decide +kernel
theorem dX4_stonesOf_1 : decode cX4_stonesOf 1 = .ok (.istore_n 2, 1) := by decide +kernel
theorem dX4_stonesOf_2 : decode cX4_stonesOf 2 = .ok (.iconst 0, 1) := by decide +kernel
theorem dX4_stonesOf_3 : decode cX4_stonesOf 3 = .ok (.istore_n 3, 1) := by decide +kernel
theorem dX4_stonesOf_4 : decode cX4_stonesOf 4 = .ok (.iload_n 3, 1) := by decide +kernel
theorem dX4_stonesOf_5 : decode cX4_stonesOf 5 = .ok (.aload_n 0, 1) := by decide +kernel
theorem dX4_stonesOf_6 : decode cX4_stonesOf 6 = .ok (.getfield 115, 3) := by decide +kernel
theorem dX4_stonesOf_9 : decode cX4_stonesOf 9 = .ok (.if_icmp .ge 37, 3) := by decide +kernel
theorem dX4_stonesOf_12 : decode cX4_stonesOf 12 = .ok (.iload_n 2, 1) := by decide +kernel
theorem dX4_stonesOf_13 : decode cX4_stonesOf 13 = .ok (.aload_n 0, 1) := by decide +kernel
theorem dX4_stonesOf_14 : decode cX4_stonesOf 14 = .ok (.getfield 80, 3) := by decide +kernel
theorem dX4_stonesOf_17 : decode cX4_stonesOf 17 = .ok (.iload_n 3, 1) := by decide +kernel
theorem dX4_stonesOf_18 : decode cX4_stonesOf 18 = .ok (.iaload, 1) := by decide +kernel
theorem dX4_stonesOf_19 : decode cX4_stonesOf 19 = .ok (.iload_n 1, 1) := by decide +kernel
theorem dX4_stonesOf_20 : decode cX4_stonesOf 20 = .ok (.if_icmp .ne 17, 3) := by decide +kernel
theorem dX4_stonesOf_23 : decode cX4_stonesOf 23 = .ok (.aload_n 0, 1) := by decide +kernel
theorem dX4_stonesOf_24 : decode cX4_stonesOf 24 = .ok (.getfield 89, 3) := by decide +kernel
theorem dX4_stonesOf_27 : decode cX4_stonesOf 27 = .ok (.iload_n 3, 1) := by decide +kernel
theorem dX4_stonesOf_28 : decode cX4_stonesOf 28 = .ok (.iaload, 1) := by decide +kernel
theorem dX4_stonesOf_29 : decode cX4_stonesOf 29 = .ok (.iconst (-1), 1) := by decide +kernel
theorem dX4_stonesOf_30 : decode cX4_stonesOf 30 = .ok (.if_icmp .ne 7, 3) := by decide +kernel
theorem dX4_stonesOf_33 : decode cX4_stonesOf 33 = .ok (.iconst 1, 1) := by decide +kernel
theorem dX4_stonesOf_34 : decode cX4_stonesOf 34 = .ok (.goto 4, 3) := by decide +kernel
theorem dX4_stonesOf_37 : decode cX4_stonesOf 37 = .ok (.iconst 0, 1) := by decide +kernel
theorem dX4_stonesOf_38 : decode cX4_stonesOf 38 = .ok (.iadd, 1) := by decide +kernel
theorem dX4_stonesOf_39 : decode cX4_stonesOf 39 = .ok (.istore_n 2, 1) := by decide +kernel
theorem dX4_stonesOf_40 : decode cX4_stonesOf 40 = .ok (.iinc 3 1, 3) := by decide +kernel
theorem dX4_stonesOf_43 : decode cX4_stonesOf 43 = .ok (.goto (-39), 3) := by decide +kernel
theorem dX4_stonesOf_46 : decode cX4_stonesOf 46 = .ok (.iload_n 2, 1) := by decide +kernel
theorem dX4_stonesOf_47 : decode cX4_stonesOf 47 = .ok (.ireturn, 1) := by decide +kernel
theorem dX4_ofPerson_0 : decode cX4_ofPerson 0 = .ok (.aload_n 0, 1) := by decide +kernel
theorem dX4_ofPerson_1 : decode cX4_ofPerson 1 = .ok (.iload_n 1, 1) := by decide +kernel
theorem dX4_ofPerson_2 : decode cX4_ofPerson 2 = .ok (.invokestatic 128, 3) := by decide +kernel
theorem dX4_ofPerson_5 : decode cX4_ofPerson 5 = .ok (.ifCond .ne 7, 3) := by decide +kernel
theorem dX4_ofPerson_8 : decode cX4_ofPerson 8 = .ok (.iconst 1, 1) := by decide +kernel
theorem dX4_ofPerson_9 : decode cX4_ofPerson 9 = .ok (.goto 17, 3) := by decide +kernel
theorem dX4_ofPerson_12 : decode cX4_ofPerson 12 = .ok (.iload_n 2, 1) := by decide +kernel
theorem dX4_ofPerson_13 : decode cX4_ofPerson 13 = .ok (.iconst 0, 1) := by decide +kernel
theorem dX4_ofPerson_14 : decode cX4_ofPerson 14 = .ok (.iconst 3, 1) := by decide +kernel
theorem dX4_ofPerson_15 : decode cX4_ofPerson 15 = .ok (.invokestatic 108, 3) := by decide +kernel
theorem dX4_ofPerson_18 : decode cX4_ofPerson 18 = .ok (.ifCond .eq 7, 3) := by decide +kernel
theorem dX4_ofPerson_21 : decode cX4_ofPerson 21 = .ok (.iconst 0, 1) := by decide +kernel
theorem dX4_ofPerson_22 : decode cX4_ofPerson 22 = .ok (.goto 4, 3) := by decide +kernel
theorem dX4_ofPerson_25 : decode cX4_ofPerson 25 = .ok (.iconst 2, 1) := by decide +kernel
theorem dX4_ofPerson_26 : decode cX4_ofPerson 26 = .ok (.putfield 104, 3) := by decide +kernel
theorem dX4_ofPerson_29 : decode cX4_ofPerson 29 = .ok (.aload_n 0, 1) := by decide +kernel
theorem dX4_ofPerson_30 : decode cX4_ofPerson 30 = .ok (.getfield 104, 3) := by decide +kernel
theorem dX4_ofPerson_33 : decode cX4_ofPerson 33 = .ok (.ifCond .le 5, 3) := by decide +kernel
theorem dX4_ofPerson_36 : decode cX4_ofPerson 36 = .ok (.iconst 0, 1) := by decide +kernel
theorem dX4_ofPerson_37 : decode cX4_ofPerson 37 = .ok (.ireturn, 1) := by decide +kernel
theorem dX4_ofPerson_38 : decode cX4_ofPerson 38 = .ok (.iload_n 2, 1) := by decide +kernel
theorem dX4_ofPerson_39 : decode cX4_ofPerson 39 = .ok (.tableswitch 62 0 2 #[25, 32, 56], 25) := by decide +kernel
theorem dX4_ofPerson_64 : decode cX4_ofPerson 64 = .ok (.aload_n 0, 1) := by decide +kernel
theorem dX4_ofPerson_65 : decode cX4_ofPerson 65 = .ok (.getfield 62, 3) := by decide +kernel
theorem dX4_ofPerson_68 : decode cX4_ofPerson 68 = .ok (.iload_n 1, 1) := by decide +kernel
theorem dX4_ofPerson_69 : decode cX4_ofPerson 69 = .ok (.iaload, 1) := by decide +kernel
theorem dX4_ofPerson_70 : decode cX4_ofPerson 70 = .ok (.ireturn, 1) := by decide +kernel
theorem dX4_ofPerson_71 : decode cX4_ofPerson 71 = .ok (.aload_n 0, 1) := by decide +kernel
theorem dX4_ofPerson_72 : decode cX4_ofPerson 72 = .ok (.iload_n 1, 1) := by decide +kernel
theorem dX4_ofPerson_73 : decode cX4_ofPerson 73 = .ok (.invokevirtual 131, 3) := by decide +kernel
theorem dX4_ofPerson_76 : decode cX4_ofPerson 76 = .ok (.ifCond .eq 17, 3) := by decide +kernel
theorem dX4_ofPerson_79 : decode cX4_ofPerson 79 = .ok (.aload_n 0, 1) := by decide +kernel
theorem dX4_ofPerson_80 : decode cX4_ofPerson 80 = .ok (.getfield 59, 3) := by decide +kernel
theorem dX4_ofPerson_83 : decode cX4_ofPerson 83 = .ok (.iload_n 1, 1) := by decide +kernel
theorem dX4_ofPerson_84 : decode cX4_ofPerson 84 = .ok (.iaload, 1) := by decide +kernel
theorem dX4_ofPerson_85 : decode cX4_ofPerson 85 = .ok (.aload_n 0, 1) := by decide +kernel
theorem dX4_ofPerson_86 : decode cX4_ofPerson 86 = .ok (.getfield 118, 3) := by decide +kernel
theorem dX4_ofPerson_89 : decode cX4_ofPerson 89 = .ok (.isub, 1) := by decide +kernel
theorem dX4_ofPerson_90 : decode cX4_ofPerson 90 = .ok (.goto 4, 3) := by decide +kernel
theorem dX4_ofPerson_93 : decode cX4_ofPerson 93 = .ok (.iconst 0, 1) := by decide +kernel
theorem dX4_ofPerson_94 : decode cX4_ofPerson 94 = .ok (.ireturn, 1) := by decide +kernel
theorem dX4_ofPerson_95 : decode cX4_ofPerson 95 = .ok (.aload_n 0, 1) := by decide +kernel
theorem dX4_ofPerson_96 : decode cX4_ofPerson 96 = .ok (.iload_n 1, 1) := by decide +kernel
theorem dX4_ofPerson_97 : decode cX4_ofPerson 97 = .ok (.invokevirtual 236, 3) := by decide +kernel
theorem dX4_ofPerson_100 : decode cX4_ofPerson 100 = .ok (.ireturn, 1) := by decide +kernel
theorem dX4_ofPerson_101 : decode cX4_ofPerson 101 = .ok (.aload_n 0, 1) := by decide +kernel
theorem dX4_ofPerson_102 : decode cX4_ofPerson 102 = .ok (.getfield 65, 3) := by decide +kernel
theorem dX4_ofPerson_105 : decode cX4_ofPerson 105 = .ok (.iload_n 1, 1) := by decide +kernel
theorem dX4_ofPerson_106 : decode cX4_ofPerson 106 = .ok (.iaload, 1) := by decide +kernel
theorem dX4_ofPerson_107 : decode cX4_ofPerson 107 = .ok (.ireturn, 1) := by decide +kernel
theorem dX4_value_0 : decode cX4_value 0 = .ok (.aload_n 0, 1) := by decide +kernel
theorem dX4_value_1 : decode cX4_value 1 = .ok (.iload_n 1, 1) := by decide +kernel
theorem dX4_value_2 : decode cX4_value 2 = .ok (.invokevirtual 217, 3) := by decide +kernel
theorem dX4_value_5 : decode cX4_value 5 = .ok (.ifCond .ne 14, 3) := by decide +kernel
theorem dX4_value_8 : decode cX4_value 8 = .ok (.iconst 2, 1) := by decide +kernel
theorem dX4_value_9 : decode cX4_value 9 = .ok (.aload_n 0, 1) := by decide +kernel
theorem dX4_value_10 : decode cX4_value 10 = .ok (.getfield 71, 3) := by decide +kernel
theorem dX4_value_13 : decode cX4_value 13 = .ok (.iload_n 1, 1) := by decide +kernel
theorem dX4_value_14 : decode cX4_value 14 = .ok (.iaload, 1) := by decide +kernel
theorem dX4_value_15 : decode cX4_value 15 = .ok (.imul, 1) := by decide +kernel
theorem dX4_value_16 : decode cX4_value 16 = .ok (.goto 25, 3) := by decide +kernel
theorem dX4_value_19 : decode cX4_value 19 = .ok (.aload_n 0, 1) := by decide +kernel
theorem dX4_value_20 : decode cX4_value 20 = .ok (.iload_n 1, 1) := by decide +kernel
theorem dX4_value_21 : decode cX4_value 21 = .ok (.invokevirtual 217, 3) := by decide +kernel
theorem dX4_value_24 : decode cX4_value 24 = .ok (.iconst 1, 1) := by decide +kernel
theorem dX4_value_25 : decode cX4_value 25 = .ok (.if_icmp .ne 15, 3) := by decide +kernel
theorem dX4_value_28 : decode cX4_value 28 = .ok (.bipush 10, 2) := by decide +kernel
theorem dX4_value_30 : decode cX4_value 30 = .ok (.aload_n 0, 1) := by decide +kernel
theorem dX4_value_31 : decode cX4_value 31 = .ok (.getfield 71, 3) := by decide +kernel
theorem dX4_value_34 : decode cX4_value 34 = .ok (.iload_n 1, 1) := by decide +kernel
theorem dX4_value_35 : decode cX4_value 35 = .ok (.iaload, 1) := by decide +kernel
theorem dX4_value_36 : decode cX4_value 36 = .ok (.imul, 1) := by decide +kernel
theorem dX4_value_37 : decode cX4_value 37 = .ok (.goto 4, 3) := by decide +kernel
theorem dX4_value_40 : decode cX4_value 40 = .ok (.iconst 0, 1) := by decide +kernel
theorem dX4_value_41 : decode cX4_value 41 = .ok (.ireturn, 1) := by decide +kernel
theorem dX4_ofStone_0 : decode cX4_ofStone 0 = .ok (.aload_n 0, 1) := by decide +kernel
theorem dX4_ofStone_1 : decode cX4_ofStone 1 = .ok (.aload_n 0, 1) := by decide +kernel
theorem dX4_ofStone_2 : decode cX4_ofStone 2 = .ok (.iload_n 1, 1) := by decide +kernel
theorem dX4_ofStone_3 : decode cX4_ofStone 3 = .ok (.invokevirtual 211, 3) := by decide +kernel
theorem dX4_ofStone_6 : decode cX4_ofStone 6 = .ok (.ifCond .ne 7, 3) := by decide +kernel
theorem dX4_ofStone_9 : decode cX4_ofStone 9 = .ok (.iconst 1, 1) := by decide +kernel
theorem dX4_ofStone_10 : decode cX4_ofStone 10 = .ok (.goto 18, 3) := by decide +kernel
theorem dX4_ofStone_13 : decode cX4_ofStone 13 = .ok (.iload_n 2, 1) := by decide +kernel
theorem dX4_ofStone_14 : decode cX4_ofStone 14 = .ok (.iconst 0, 1) := by decide +kernel
theorem dX4_ofStone_15 : decode cX4_ofStone 15 = .ok (.bipush 7, 2) := by decide +kernel
theorem dX4_ofStone_17 : decode cX4_ofStone 17 = .ok (.invokestatic 108, 3) := by decide +kernel
theorem dX4_ofStone_20 : decode cX4_ofStone 20 = .ok (.ifCond .eq 7, 3) := by decide +kernel
theorem dX4_ofStone_23 : decode cX4_ofStone 23 = .ok (.iconst 0, 1) := by decide +kernel
theorem dX4_ofStone_24 : decode cX4_ofStone 24 = .ok (.goto 4, 3) := by decide +kernel
theorem dX4_ofStone_27 : decode cX4_ofStone 27 = .ok (.iconst 2, 1) := by decide +kernel
theorem dX4_ofStone_28 : decode cX4_ofStone 28 = .ok (.putfield 104, 3) := by decide +kernel
theorem dX4_ofStone_31 : decode cX4_ofStone 31 = .ok (.aload_n 0, 1) := by decide +kernel
theorem dX4_ofStone_32 : decode cX4_ofStone 32 = .ok (.getfield 104, 3) := by decide +kernel
theorem dX4_ofStone_35 : decode cX4_ofStone 35 = .ok (.ifCond .le 5, 3) := by decide +kernel
theorem dX4_ofStone_38 : decode cX4_ofStone 38 = .ok (.iconst 0, 1) := by decide +kernel
theorem dX4_ofStone_39 : decode cX4_ofStone 39 = .ok (.ireturn, 1) := by decide +kernel
theorem dX4_ofStone_40 : decode cX4_ofStone 40 = .ok (.iload_n 2, 1) := by decide +kernel
theorem dX4_ofStone_41 : decode cX4_ofStone 41 = .ok (.tableswitch 90 0 6 #[43, 50, 56, 63, 70, 76, 83], 43) := by decide +kernel
theorem dX4_ofStone_84 : decode cX4_ofStone 84 = .ok (.aload_n 0, 1) := by decide +kernel
theorem dX4_ofStone_85 : decode cX4_ofStone 85 = .ok (.getfield 71, 3) := by decide +kernel
theorem dX4_ofStone_88 : decode cX4_ofStone 88 = .ok (.iload_n 1, 1) := by decide +kernel
theorem dX4_ofStone_89 : decode cX4_ofStone 89 = .ok (.iaload, 1) := by decide +kernel
theorem dX4_ofStone_90 : decode cX4_ofStone 90 = .ok (.ireturn, 1) := by decide +kernel
theorem dX4_ofStone_91 : decode cX4_ofStone 91 = .ok (.aload_n 0, 1) := by decide +kernel
theorem dX4_ofStone_92 : decode cX4_ofStone 92 = .ok (.iload_n 1, 1) := by decide +kernel
theorem dX4_ofStone_93 : decode cX4_ofStone 93 = .ok (.invokevirtual 217, 3) := by decide +kernel
theorem dX4_ofStone_96 : decode cX4_ofStone 96 = .ok (.ireturn, 1) := by decide +kernel
theorem dX4_ofStone_97 : decode cX4_ofStone 97 = .ok (.aload_n 0, 1) := by decide +kernel
theorem dX4_ofStone_98 : decode cX4_ofStone 98 = .ok (.getfield 80, 3) := by decide +kernel
theorem dX4_ofStone_101 : decode cX4_ofStone 101 = .ok (.iload_n 1, 1) := by decide +kernel
theorem dX4_ofStone_102 : decode cX4_ofStone 102 = .ok (.iaload, 1) := by decide +kernel
theorem dX4_ofStone_103 : decode cX4_ofStone 103 = .ok (.ireturn, 1) := by decide +kernel
theorem dX4_ofStone_104 : decode cX4_ofStone 104 = .ok (.aload_n 0, 1) := by decide +kernel
theorem dX4_ofStone_105 : decode cX4_ofStone 105 = .ok (.getfield 83, 3) := by decide +kernel
theorem dX4_ofStone_108 : decode cX4_ofStone 108 = .ok (.iload_n 1, 1) := by decide +kernel
theorem dX4_ofStone_109 : decode cX4_ofStone 109 = .ok (.iaload, 1) := by decide +kernel
theorem dX4_ofStone_110 : decode cX4_ofStone 110 = .ok (.ireturn, 1) := by decide +kernel
theorem dX4_ofStone_111 : decode cX4_ofStone 111 = .ok (.aload_n 0, 1) := by decide +kernel
theorem dX4_ofStone_112 : decode cX4_ofStone 112 = .ok (.iload_n 1, 1) := by decide +kernel
theorem dX4_ofStone_113 : decode cX4_ofStone 113 = .ok (.invokevirtual 239, 3) := by decide +kernel
theorem dX4_ofStone_116 : decode cX4_ofStone 116 = .ok (.ireturn, 1) := by decide +kernel
theorem dX4_ofStone_117 : decode cX4_ofStone 117 = .ok (.aload_n 0, 1) := by decide +kernel
theorem dX4_ofStone_118 : decode cX4_ofStone 118 = .ok (.getfield 89, 3) := by decide +kernel
theorem dX4_ofStone_121 : decode cX4_ofStone 121 = .ok (.iload_n 1, 1) := by decide +kernel
theorem dX4_ofStone_122 : decode cX4_ofStone 122 = .ok (.iaload, 1) := by decide +kernel
theorem dX4_ofStone_123 : decode cX4_ofStone 123 = .ok (.ireturn, 1) := by decide +kernel
theorem dX4_ofStone_124 : decode cX4_ofStone 124 = .ok (.aload_n 0, 1) := by decide +kernel
theorem dX4_ofStone_125 : decode cX4_ofStone 125 = .ok (.getfield 77, 3) := by decide +kernel
theorem dX4_ofStone_128 : decode cX4_ofStone 128 = .ok (.iload_n 1, 1) := by decide +kernel
theorem dX4_ofStone_129 : decode cX4_ofStone 129 = .ok (.iaload, 1) := by decide +kernel
theorem dX4_ofStone_130 : decode cX4_ofStone 130 = .ok (.ireturn, 1) := by decide +kernel
theorem dX4_ofStone_131 : decode cX4_ofStone 131 = .ok (.aload_n 0, 1) := by decide +kernel
theorem dX4_ofStone_132 : decode cX4_ofStone 132 = .ok (.getfield 86, 3) := by decide +kernel
theorem dX4_ofStone_135 : decode cX4_ofStone 135 = .ok (.iload_n 1, 1) := by decide +kernel
theorem dX4_ofStone_136 : decode cX4_ofStone 136 = .ok (.iaload, 1) := by decide +kernel
theorem dX4_ofStone_137 : decode cX4_ofStone 137 = .ok (.ireturn, 1) := by decide +kernel
theorem dX4_purse_0 : decode cX4_purse 0 = .ok (.aload_n 0, 1) := by decide +kernel
theorem dX4_purse_1 : decode cX4_purse 1 = .ok (.iload_n 1, 1) := by decide +kernel
theorem dX4_purse_2 : decode cX4_purse 2 = .ok (.invokestatic 223, 3) := by decide +kernel
theorem dX4_purse_5 : decode cX4_purse 5 = .ok (.ifCond .eq 7, 3) := by decide +kernel
theorem dX4_purse_8 : decode cX4_purse 8 = .ok (.iconst 0, 1) := by decide +kernel
theorem dX4_purse_9 : decode cX4_purse 9 = .ok (.goto 4, 3) := by decide +kernel
theorem dX4_purse_12 : decode cX4_purse 12 = .ok (.iconst 1, 1) := by decide +kernel
theorem dX4_purse_13 : decode cX4_purse 13 = .ok (.putfield 104, 3) := by decide +kernel
theorem dX4_purse_16 : decode cX4_purse 16 = .ok (.aload_n 0, 1) := by decide +kernel
theorem dX4_purse_17 : decode cX4_purse 17 = .ok (.getfield 104, 3) := by decide +kernel
theorem dX4_purse_20 : decode cX4_purse 20 = .ok (.ifCond .le 7, 3) := by decide +kernel
theorem dX4_purse_23 : decode cX4_purse 23 = .ok (.iconst 0, 1) := by decide +kernel
theorem dX4_purse_24 : decode cX4_purse 24 = .ok (.goto 9, 3) := by decide +kernel
theorem dX4_purse_27 : decode cX4_purse 27 = .ok (.aload_n 0, 1) := by decide +kernel
theorem dX4_purse_28 : decode cX4_purse 28 = .ok (.getfield 101, 3) := by decide +kernel
theorem dX4_purse_31 : decode cX4_purse 31 = .ok (.iload_n 1, 1) := by decide +kernel
theorem dX4_purse_32 : decode cX4_purse 32 = .ok (.iaload, 1) := by decide +kernel
theorem dX4_purse_33 : decode cX4_purse 33 = .ok (.ireturn, 1) := by decide +kernel
theorem dX4_weighed_0 : decode cX4_weighed 0 = .ok (.iconst 0, 1) := by decide +kernel
theorem dX4_weighed_1 : decode cX4_weighed 1 = .ok (.istore_n 2, 1) := by decide +kernel
theorem dX4_weighed_2 : decode cX4_weighed 2 = .ok (.iconst 0, 1) := by decide +kernel
theorem dX4_weighed_3 : decode cX4_weighed 3 = .ok (.istore_n 3, 1) := by decide +kernel
theorem dX4_weighed_4 : decode cX4_weighed 4 = .ok (.iload_n 3, 1) := by decide +kernel
theorem dX4_weighed_5 : decode cX4_weighed 5 = .ok (.aload_n 0, 1) := by decide +kernel
theorem dX4_weighed_6 : decode cX4_weighed 6 = .ok (.getfield 115, 3) := by decide +kernel
theorem dX4_weighed_9 : decode cX4_weighed 9 = .ok (.if_icmp .ge 57, 3) := by decide +kernel
theorem dX4_weighed_12 : decode cX4_weighed 12 = .ok (.aload_n 0, 1) := by decide +kernel
theorem dX4_weighed_13 : decode cX4_weighed 13 = .ok (.iload_n 3, 1) := by decide +kernel
theorem dX4_weighed_14 : decode cX4_weighed 14 = .ok (.invokevirtual 214, 3) := by decide +kernel
theorem dX4_weighed_17 : decode cX4_weighed 17 = .ok (.ifCond .eq 7, 3) := by decide +kernel
theorem dX4_weighed_20 : decode cX4_weighed 20 = .ok (.iconst 2, 1) := by decide +kernel
theorem dX4_weighed_21 : decode cX4_weighed 21 = .ok (.goto 18, 3) := by decide +kernel
theorem dX4_weighed_24 : decode cX4_weighed 24 = .ok (.aload_n 0, 1) := by decide +kernel
theorem dX4_weighed_25 : decode cX4_weighed 25 = .ok (.getfield 89, 3) := by decide +kernel
theorem dX4_weighed_28 : decode cX4_weighed 28 = .ok (.iload_n 3, 1) := by decide +kernel
theorem dX4_weighed_29 : decode cX4_weighed 29 = .ok (.iaload, 1) := by decide +kernel
theorem dX4_weighed_30 : decode cX4_weighed 30 = .ok (.iconst (-1), 1) := by decide +kernel
theorem dX4_weighed_31 : decode cX4_weighed 31 = .ok (.if_icmp .ne 7, 3) := by decide +kernel
theorem dX4_weighed_34 : decode cX4_weighed 34 = .ok (.iconst 3, 1) := by decide +kernel
theorem dX4_weighed_35 : decode cX4_weighed 35 = .ok (.goto 4, 3) := by decide +kernel
theorem dX4_weighed_38 : decode cX4_weighed 38 = .ok (.iconst 4, 1) := by decide +kernel
theorem dX4_weighed_39 : decode cX4_weighed 39 = .ok (.istore 4, 2) := by decide +kernel
theorem dX4_weighed_41 : decode cX4_weighed 41 = .ok (.iload_n 2, 1) := by decide +kernel
theorem dX4_weighed_42 : decode cX4_weighed 42 = .ok (.iload 4, 2) := by decide +kernel
theorem dX4_weighed_44 : decode cX4_weighed 44 = .ok (.iload_n 1, 1) := by decide +kernel
theorem dX4_weighed_45 : decode cX4_weighed 45 = .ok (.if_icmp .ne 12, 3) := by decide +kernel
theorem dX4_weighed_48 : decode cX4_weighed 48 = .ok (.aload_n 0, 1) := by decide +kernel
theorem dX4_weighed_49 : decode cX4_weighed 49 = .ok (.getfield 71, 3) := by decide +kernel
theorem dX4_weighed_52 : decode cX4_weighed 52 = .ok (.iload_n 3, 1) := by decide +kernel
theorem dX4_weighed_53 : decode cX4_weighed 53 = .ok (.iaload, 1) := by decide +kernel
theorem dX4_weighed_54 : decode cX4_weighed 54 = .ok (.goto 4, 3) := by decide +kernel
theorem dX4_weighed_57 : decode cX4_weighed 57 = .ok (.iconst 0, 1) := by decide +kernel
theorem dX4_weighed_58 : decode cX4_weighed 58 = .ok (.iadd, 1) := by decide +kernel
theorem dX4_weighed_59 : decode cX4_weighed 59 = .ok (.istore_n 2, 1) := by decide +kernel
theorem dX4_weighed_60 : decode cX4_weighed 60 = .ok (.iinc 3 1, 3) := by decide +kernel
theorem dX4_weighed_63 : decode cX4_weighed 63 = .ok (.goto (-59), 3) := by decide +kernel
theorem dX4_weighed_66 : decode cX4_weighed 66 = .ok (.iload_n 2, 1) := by decide +kernel
theorem dX4_weighed_67 : decode cX4_weighed 67 = .ok (.ireturn, 1) := by decide +kernel
theorem dX4_carats_0 : decode cX4_carats 0 = .ok (.aload_n 0, 1) := by decide +kernel
theorem dX4_carats_1 : decode cX4_carats 1 = .ok (.iload_n 1, 1) := by decide +kernel
theorem dX4_carats_2 : decode cX4_carats 2 = .ok (.iconst 0, 1) := by decide +kernel
theorem dX4_carats_3 : decode cX4_carats 3 = .ok (.iconst 5, 1) := by decide +kernel
theorem dX4_carats_4 : decode cX4_carats 4 = .ok (.invokestatic 108, 3) := by decide +kernel
theorem dX4_carats_7 : decode cX4_carats 7 = .ok (.ifCond .eq 7, 3) := by decide +kernel
theorem dX4_carats_10 : decode cX4_carats 10 = .ok (.iconst 0, 1) := by decide +kernel
theorem dX4_carats_11 : decode cX4_carats 11 = .ok (.goto 4, 3) := by decide +kernel
theorem dX4_carats_14 : decode cX4_carats 14 = .ok (.iconst 1, 1) := by decide +kernel
theorem dX4_carats_15 : decode cX4_carats 15 = .ok (.putfield 104, 3) := by decide +kernel
theorem dX4_carats_18 : decode cX4_carats 18 = .ok (.aload_n 0, 1) := by decide +kernel
theorem dX4_carats_19 : decode cX4_carats 19 = .ok (.getfield 104, 3) := by decide +kernel
theorem dX4_carats_22 : decode cX4_carats 22 = .ok (.ifCond .le 5, 3) := by decide +kernel
theorem dX4_carats_25 : decode cX4_carats 25 = .ok (.iconst 0, 1) := by decide +kernel
theorem dX4_carats_26 : decode cX4_carats 26 = .ok (.ireturn, 1) := by decide +kernel
theorem dX4_carats_27 : decode cX4_carats 27 = .ok (.iload_n 1, 1) := by decide +kernel
theorem dX4_carats_28 : decode cX4_carats 28 = .ok (.ifCond .ne 8, 3) := by decide +kernel
theorem dX4_carats_31 : decode cX4_carats 31 = .ok (.aload_n 0, 1) := by decide +kernel
theorem dX4_carats_32 : decode cX4_carats 32 = .ok (.getfield 125, 3) := by decide +kernel
theorem dX4_carats_35 : decode cX4_carats 35 = .ok (.ireturn, 1) := by decide +kernel
theorem dX4_carats_36 : decode cX4_carats 36 = .ok (.iload_n 1, 1) := by decide +kernel
theorem dX4_carats_37 : decode cX4_carats 37 = .ok (.iconst 5, 1) := by decide +kernel
theorem dX4_carats_38 : decode cX4_carats 38 = .ok (.if_icmp .ne 8, 3) := by decide +kernel
theorem dX4_carats_41 : decode cX4_carats 41 = .ok (.aload_n 0, 1) := by decide +kernel
theorem dX4_carats_42 : decode cX4_carats 42 = .ok (.getfield 220, 3) := by decide +kernel
theorem dX4_carats_45 : decode cX4_carats 45 = .ok (.ireturn, 1) := by decide +kernel
theorem dX4_carats_46 : decode cX4_carats 46 = .ok (.iconst 0, 1) := by decide +kernel
theorem dX4_carats_47 : decode cX4_carats 47 = .ok (.istore_n 2, 1) := by decide +kernel
theorem dX4_carats_48 : decode cX4_carats 48 = .ok (.iconst 0, 1) := by decide +kernel
theorem dX4_carats_49 : decode cX4_carats 49 = .ok (.istore_n 3, 1) := by decide +kernel
theorem dX4_carats_50 : decode cX4_carats 50 = .ok (.iload_n 3, 1) := by decide +kernel
theorem dX4_carats_51 : decode cX4_carats 51 = .ok (.bipush 100, 2) := by decide +kernel
theorem dX4_carats_53 : decode cX4_carats 53 = .ok (.if_icmp .ge 18, 3) := by decide +kernel
theorem dX4_carats_56 : decode cX4_carats 56 = .ok (.iload_n 2, 1) := by decide +kernel
theorem dX4_carats_57 : decode cX4_carats 57 = .ok (.aload_n 0, 1) := by decide +kernel
theorem dX4_carats_58 : decode cX4_carats 58 = .ok (.getfield 13, 3) := by decide +kernel
theorem dX4_carats_61 : decode cX4_carats 61 = .ok (.iload_n 3, 1) := by decide +kernel
theorem dX4_carats_62 : decode cX4_carats 62 = .ok (.iaload, 1) := by decide +kernel
theorem dX4_carats_63 : decode cX4_carats 63 = .ok (.iadd, 1) := by decide +kernel
theorem dX4_carats_64 : decode cX4_carats 64 = .ok (.istore_n 2, 1) := by decide +kernel
theorem dX4_carats_65 : decode cX4_carats 65 = .ok (.iinc 3 1, 3) := by decide +kernel
theorem dX4_carats_68 : decode cX4_carats 68 = .ok (.goto (-18), 3) := by decide +kernel
theorem dX4_carats_71 : decode cX4_carats 71 = .ok (.iload_n 1, 1) := by decide +kernel
theorem dX4_carats_72 : decode cX4_carats 72 = .ok (.iconst 1, 1) := by decide +kernel
theorem dX4_carats_73 : decode cX4_carats 73 = .ok (.if_icmp .ne 7, 3) := by decide +kernel
theorem dX4_carats_76 : decode cX4_carats 76 = .ok (.iload_n 2, 1) := by decide +kernel
theorem dX4_carats_77 : decode cX4_carats 77 = .ok (.goto 8, 3) := by decide +kernel
theorem dX4_carats_80 : decode cX4_carats 80 = .ok (.aload_n 0, 1) := by decide +kernel
theorem dX4_carats_81 : decode cX4_carats 81 = .ok (.iload_n 1, 1) := by decide +kernel
theorem dX4_carats_82 : decode cX4_carats 82 = .ok (.invokevirtual 242, 3) := by decide +kernel
theorem dX4_carats_85 : decode cX4_carats 85 = .ok (.ireturn, 1) := by decide +kernel
theorem dX4_canPlan_0 : decode cX4_canPlan 0 = .ok (.aload_n 0, 1) := by decide +kernel
theorem dX4_canPlan_1 : decode cX4_canPlan 1 = .ok (.getfield 7, 3) := by decide +kernel
theorem dX4_canPlan_4 : decode cX4_canPlan 4 = .ok (.iload_n 2, 1) := by decide +kernel
theorem dX4_canPlan_5 : decode cX4_canPlan 5 = .ok (.iaload, 1) := by decide +kernel
theorem dX4_canPlan_6 : decode cX4_canPlan 6 = .ok (.iconst 1, 1) := by decide +kernel
theorem dX4_canPlan_7 : decode cX4_canPlan 7 = .ok (.if_icmp .eq 20, 3) := by decide +kernel
theorem dX4_canPlan_10 : decode cX4_canPlan 10 = .ok (.aload_n 0, 1) := by decide +kernel
theorem dX4_canPlan_11 : decode cX4_canPlan 11 = .ok (.iload_n 2, 1) := by decide +kernel
theorem dX4_canPlan_12 : decode cX4_canPlan 12 = .ok (.invokevirtual 182, 3) := by decide +kernel
theorem dX4_canPlan_15 : decode cX4_canPlan 15 = .ok (.ifCond .eq 12, 3) := by decide +kernel
theorem dX4_canPlan_18 : decode cX4_canPlan 18 = .ok (.aload_n 0, 1) := by decide +kernel
theorem dX4_canPlan_19 : decode cX4_canPlan 19 = .ok (.iload_n 2, 1) := by decide +kernel
theorem dX4_canPlan_20 : decode cX4_canPlan 20 = .ok (.invokevirtual 175, 3) := by decide +kernel
theorem dX4_canPlan_23 : decode cX4_canPlan 23 = .ok (.iload_n 1, 1) := by decide +kernel
theorem dX4_canPlan_24 : decode cX4_canPlan 24 = .ok (.if_icmp .eq 5, 3) := by decide +kernel
theorem dX4_canPlan_27 : decode cX4_canPlan 27 = .ok (.iconst 0, 1) := by decide +kernel
theorem dX4_canPlan_28 : decode cX4_canPlan 28 = .ok (.ireturn, 1) := by decide +kernel
theorem dX4_canPlan_29 : decode cX4_canPlan 29 = .ok (.aload_n 0, 1) := by decide +kernel
theorem dX4_canPlan_30 : decode cX4_canPlan 30 = .ok (.getfield 7, 3) := by decide +kernel
theorem dX4_canPlan_33 : decode cX4_canPlan 33 = .ok (.iload_n 2, 1) := by decide +kernel
theorem dX4_canPlan_34 : decode cX4_canPlan 34 = .ok (.iaload, 1) := by decide +kernel
theorem dX4_canPlan_35 : decode cX4_canPlan 35 = .ok (.istore_n 3, 1) := by decide +kernel
theorem dX4_canPlan_36 : decode cX4_canPlan 36 = .ok (.aload_n 0, 1) := by decide +kernel
theorem dX4_canPlan_37 : decode cX4_canPlan 37 = .ok (.getfield 7, 3) := by decide +kernel
theorem dX4_canPlan_40 : decode cX4_canPlan 40 = .ok (.iload_n 2, 1) := by decide +kernel
theorem dX4_canPlan_41 : decode cX4_canPlan 41 = .ok (.iconst 1, 1) := by decide +kernel
theorem dX4_canPlan_42 : decode cX4_canPlan 42 = .ok (.iastore, 1) := by decide +kernel
theorem dX4_canPlan_43 : decode cX4_canPlan 43 = .ok (.aload_n 0, 1) := by decide +kernel
theorem dX4_canPlan_44 : decode cX4_canPlan 44 = .ok (.iload_n 2, 1) := by decide +kernel
theorem dX4_canPlan_45 : decode cX4_canPlan 45 = .ok (.invokevirtual 245, 3) := by decide +kernel
theorem dX4_canPlan_48 : decode cX4_canPlan 48 = .ok (.istore 4, 2) := by decide +kernel
theorem dX4_canPlan_50 : decode cX4_canPlan 50 = .ok (.aload_n 0, 1) := by decide +kernel
theorem dX4_canPlan_51 : decode cX4_canPlan 51 = .ok (.getfield 7, 3) := by decide +kernel
theorem dX4_canPlan_54 : decode cX4_canPlan 54 = .ok (.iload_n 2, 1) := by decide +kernel
theorem dX4_canPlan_55 : decode cX4_canPlan 55 = .ok (.iload_n 3, 1) := by decide +kernel
theorem dX4_canPlan_56 : decode cX4_canPlan 56 = .ok (.iastore, 1) := by decide +kernel
theorem dX4_canPlan_57 : decode cX4_canPlan 57 = .ok (.iload 4, 2) := by decide +kernel
theorem dX4_canPlan_59 : decode cX4_canPlan 59 = .ok (.ifCond .ne 7, 3) := by decide +kernel
theorem dX4_canPlan_62 : decode cX4_canPlan 62 = .ok (.iconst 1, 1) := by decide +kernel
theorem dX4_canPlan_63 : decode cX4_canPlan 63 = .ok (.goto 4, 3) := by decide +kernel
theorem dX4_canPlan_66 : decode cX4_canPlan 66 = .ok (.iconst 0, 1) := by decide +kernel
theorem dX4_canPlan_67 : decode cX4_canPlan 67 = .ok (.ireturn, 1) := by decide +kernel
theorem dX4_digsOne_0 : decode cX4_digsOne 0 = .ok (.iconst 0, 1) := by decide +kernel
theorem dX4_digsOne_1 : decode cX4_digsOne 1 = .ok (.istore_n 2, 1) := by decide +kernel
theorem dX4_digsOne_2 : decode cX4_digsOne 2 = .ok (.iconst 0, 1) := by decide +kernel
theorem dX4_digsOne_3 : decode cX4_digsOne 3 = .ok (.istore_n 3, 1) := by decide +kernel
theorem dX4_digsOne_4 : decode cX4_digsOne 4 = .ok (.iload_n 3, 1) := by decide +kernel
theorem dX4_digsOne_5 : decode cX4_digsOne 5 = .ok (.bipush 100, 2) := by decide +kernel
theorem dX4_digsOne_7 : decode cX4_digsOne 7 = .ok (.if_icmp .ge 35, 3) := by decide +kernel
theorem dX4_digsOne_10 : decode cX4_digsOne 10 = .ok (.aload_n 0, 1) := by decide +kernel
theorem dX4_digsOne_11 : decode cX4_digsOne 11 = .ok (.getfield 13, 3) := by decide +kernel
theorem dX4_digsOne_14 : decode cX4_digsOne 14 = .ok (.iload_n 3, 1) := by decide +kernel
theorem dX4_digsOne_15 : decode cX4_digsOne 15 = .ok (.iaload, 1) := by decide +kernel
theorem dX4_digsOne_16 : decode cX4_digsOne 16 = .ok (.iload_n 2, 1) := by decide +kernel
theorem dX4_digsOne_17 : decode cX4_digsOne 17 = .ok (.if_icmp .le 19, 3) := by decide +kernel
theorem dX4_digsOne_20 : decode cX4_digsOne 20 = .ok (.aload_n 0, 1) := by decide +kernel
theorem dX4_digsOne_21 : decode cX4_digsOne 21 = .ok (.iload_n 1, 1) := by decide +kernel
theorem dX4_digsOne_22 : decode cX4_digsOne 22 = .ok (.iload_n 3, 1) := by decide +kernel
theorem dX4_digsOne_23 : decode cX4_digsOne 23 = .ok (.invokevirtual 248, 3) := by decide +kernel
theorem dX4_digsOne_26 : decode cX4_digsOne 26 = .ok (.ifCond .eq 10, 3) := by decide +kernel
theorem dX4_digsOne_29 : decode cX4_digsOne 29 = .ok (.aload_n 0, 1) := by decide +kernel
theorem dX4_digsOne_30 : decode cX4_digsOne 30 = .ok (.getfield 13, 3) := by decide +kernel
theorem dX4_digsOne_33 : decode cX4_digsOne 33 = .ok (.iload_n 3, 1) := by decide +kernel
theorem dX4_digsOne_34 : decode cX4_digsOne 34 = .ok (.iaload, 1) := by decide +kernel
theorem dX4_digsOne_35 : decode cX4_digsOne 35 = .ok (.istore_n 2, 1) := by decide +kernel
theorem dX4_digsOne_36 : decode cX4_digsOne 36 = .ok (.iinc 3 1, 3) := by decide +kernel
theorem dX4_digsOne_39 : decode cX4_digsOne 39 = .ok (.goto (-35), 3) := by decide +kernel
theorem dX4_digsOne_42 : decode cX4_digsOne 42 = .ok (.iload_n 2, 1) := by decide +kernel
theorem dX4_digsOne_43 : decode cX4_digsOne 43 = .ok (.ireturn, 1) := by decide +kernel
theorem dX4_digsTwo_0 : decode cX4_digsTwo 0 = .ok (.iconst 0, 1) := by decide +kernel
theorem dX4_digsTwo_1 : decode cX4_digsTwo 1 = .ok (.istore_n 2, 1) := by decide +kernel
theorem dX4_digsTwo_2 : decode cX4_digsTwo 2 = .ok (.iconst 0, 1) := by decide +kernel
theorem dX4_digsTwo_3 : decode cX4_digsTwo 3 = .ok (.istore_n 3, 1) := by decide +kernel
theorem dX4_digsTwo_4 : decode cX4_digsTwo 4 = .ok (.iload_n 3, 1) := by decide +kernel
theorem dX4_digsTwo_5 : decode cX4_digsTwo 5 = .ok (.bipush 100, 2) := by decide +kernel
theorem dX4_digsTwo_7 : decode cX4_digsTwo 7 = .ok (.if_icmp .ge 68, 3) := by decide +kernel
theorem dX4_digsTwo_10 : decode cX4_digsTwo 10 = .ok (.aload_n 0, 1) := by decide +kernel
theorem dX4_digsTwo_11 : decode cX4_digsTwo 11 = .ok (.iload_n 1, 1) := by decide +kernel
theorem dX4_digsTwo_12 : decode cX4_digsTwo 12 = .ok (.iload_n 3, 1) := by decide +kernel
theorem dX4_digsTwo_13 : decode cX4_digsTwo 13 = .ok (.invokevirtual 248, 3) := by decide +kernel
theorem dX4_digsTwo_16 : decode cX4_digsTwo 16 = .ok (.ifCond .eq 53, 3) := by decide +kernel
theorem dX4_digsTwo_19 : decode cX4_digsTwo 19 = .ok (.aload_n 0, 1) := by decide +kernel
theorem dX4_digsTwo_20 : decode cX4_digsTwo 20 = .ok (.getfield 7, 3) := by decide +kernel
theorem dX4_digsTwo_23 : decode cX4_digsTwo 23 = .ok (.iload_n 3, 1) := by decide +kernel
theorem dX4_digsTwo_24 : decode cX4_digsTwo 24 = .ok (.iaload, 1) := by decide +kernel
theorem dX4_digsTwo_25 : decode cX4_digsTwo 25 = .ok (.istore 4, 2) := by decide +kernel
theorem dX4_digsTwo_27 : decode cX4_digsTwo 27 = .ok (.aload_n 0, 1) := by decide +kernel
theorem dX4_digsTwo_28 : decode cX4_digsTwo 28 = .ok (.getfield 7, 3) := by decide +kernel
theorem dX4_digsTwo_31 : decode cX4_digsTwo 31 = .ok (.iload_n 3, 1) := by decide +kernel
theorem dX4_digsTwo_32 : decode cX4_digsTwo 32 = .ok (.iconst 1, 1) := by decide +kernel
theorem dX4_digsTwo_33 : decode cX4_digsTwo 33 = .ok (.iastore, 1) := by decide +kernel
theorem dX4_digsTwo_34 : decode cX4_digsTwo 34 = .ok (.aload_n 0, 1) := by decide +kernel
theorem dX4_digsTwo_35 : decode cX4_digsTwo 35 = .ok (.getfield 13, 3) := by decide +kernel
theorem dX4_digsTwo_38 : decode cX4_digsTwo 38 = .ok (.iload_n 3, 1) := by decide +kernel
theorem dX4_digsTwo_39 : decode cX4_digsTwo 39 = .ok (.iaload, 1) := by decide +kernel
theorem dX4_digsTwo_40 : decode cX4_digsTwo 40 = .ok (.aload_n 0, 1) := by decide +kernel
theorem dX4_digsTwo_41 : decode cX4_digsTwo 41 = .ok (.iload_n 1, 1) := by decide +kernel
theorem dX4_digsTwo_42 : decode cX4_digsTwo 42 = .ok (.invokevirtual 251, 3) := by decide +kernel
theorem dX4_digsTwo_45 : decode cX4_digsTwo 45 = .ok (.iadd, 1) := by decide +kernel
theorem dX4_digsTwo_46 : decode cX4_digsTwo 46 = .ok (.istore 5, 2) := by decide +kernel
theorem dX4_digsTwo_48 : decode cX4_digsTwo 48 = .ok (.aload_n 0, 1) := by decide +kernel
theorem dX4_digsTwo_49 : decode cX4_digsTwo 49 = .ok (.getfield 7, 3) := by decide +kernel
theorem dX4_digsTwo_52 : decode cX4_digsTwo 52 = .ok (.iload_n 3, 1) := by decide +kernel
theorem dX4_digsTwo_53 : decode cX4_digsTwo 53 = .ok (.iload 4, 2) := by decide +kernel
theorem dX4_digsTwo_55 : decode cX4_digsTwo 55 = .ok (.iastore, 1) := by decide +kernel
theorem dX4_digsTwo_56 : decode cX4_digsTwo 56 = .ok (.iload 5, 2) := by decide +kernel
theorem dX4_digsTwo_58 : decode cX4_digsTwo 58 = .ok (.iload_n 2, 1) := by decide +kernel
theorem dX4_digsTwo_59 : decode cX4_digsTwo 59 = .ok (.if_icmp .le 8, 3) := by decide +kernel
theorem dX4_digsTwo_62 : decode cX4_digsTwo 62 = .ok (.iload 5, 2) := by decide +kernel
theorem dX4_digsTwo_64 : decode cX4_digsTwo 64 = .ok (.goto 4, 3) := by decide +kernel
theorem dX4_digsTwo_67 : decode cX4_digsTwo 67 = .ok (.iload_n 2, 1) := by decide +kernel
theorem dX4_digsTwo_68 : decode cX4_digsTwo 68 = .ok (.istore_n 2, 1) := by decide +kernel
theorem dX4_digsTwo_69 : decode cX4_digsTwo 69 = .ok (.iinc 3 1, 3) := by decide +kernel
theorem dX4_digsTwo_72 : decode cX4_digsTwo 72 = .ok (.goto (-68), 3) := by decide +kernel
theorem dX4_digsTwo_75 : decode cX4_digsTwo 75 = .ok (.iload_n 2, 1) := by decide +kernel
theorem dX4_digsTwo_76 : decode cX4_digsTwo 76 = .ok (.ireturn, 1) := by decide +kernel
theorem dX4_digsThree_0 : decode cX4_digsThree 0 = .ok (.iconst 0, 1) := by decide +kernel
theorem dX4_digsThree_1 : decode cX4_digsThree 1 = .ok (.istore_n 2, 1) := by decide +kernel
theorem dX4_digsThree_2 : decode cX4_digsThree 2 = .ok (.iconst 0, 1) := by decide +kernel
theorem dX4_digsThree_3 : decode cX4_digsThree 3 = .ok (.istore_n 3, 1) := by decide +kernel
theorem dX4_digsThree_4 : decode cX4_digsThree 4 = .ok (.iload_n 3, 1) := by decide +kernel
theorem dX4_digsThree_5 : decode cX4_digsThree 5 = .ok (.bipush 100, 2) := by decide +kernel
theorem dX4_digsThree_7 : decode cX4_digsThree 7 = .ok (.if_icmp .ge 68, 3) := by decide +kernel
theorem dX4_digsThree_10 : decode cX4_digsThree 10 = .ok (.aload_n 0, 1) := by decide +kernel
theorem dX4_digsThree_11 : decode cX4_digsThree 11 = .ok (.iload_n 1, 1) := by decide +kernel
theorem dX4_digsThree_12 : decode cX4_digsThree 12 = .ok (.iload_n 3, 1) := by decide +kernel
theorem dX4_digsThree_13 : decode cX4_digsThree 13 = .ok (.invokevirtual 248, 3) := by decide +kernel
theorem dX4_digsThree_16 : decode cX4_digsThree 16 = .ok (.ifCond .eq 53, 3) := by decide +kernel
theorem dX4_digsThree_19 : decode cX4_digsThree 19 = .ok (.aload_n 0, 1) := by decide +kernel
theorem dX4_digsThree_20 : decode cX4_digsThree 20 = .ok (.getfield 7, 3) := by decide +kernel
theorem dX4_digsThree_23 : decode cX4_digsThree 23 = .ok (.iload_n 3, 1) := by decide +kernel
theorem dX4_digsThree_24 : decode cX4_digsThree 24 = .ok (.iaload, 1) := by decide +kernel
theorem dX4_digsThree_25 : decode cX4_digsThree 25 = .ok (.istore 4, 2) := by decide +kernel
theorem dX4_digsThree_27 : decode cX4_digsThree 27 = .ok (.aload_n 0, 1) := by decide +kernel
theorem dX4_digsThree_28 : decode cX4_digsThree 28 = .ok (.getfield 7, 3) := by decide +kernel
theorem dX4_digsThree_31 : decode cX4_digsThree 31 = .ok (.iload_n 3, 1) := by decide +kernel
theorem dX4_digsThree_32 : decode cX4_digsThree 32 = .ok (.iconst 1, 1) := by decide +kernel
theorem dX4_digsThree_33 : decode cX4_digsThree 33 = .ok (.iastore, 1) := by decide +kernel
theorem dX4_digsThree_34 : decode cX4_digsThree 34 = .ok (.aload_n 0, 1) := by decide +kernel
theorem dX4_digsThree_35 : decode cX4_digsThree 35 = .ok (.getfield 13, 3) := by decide +kernel
theorem dX4_digsThree_38 : decode cX4_digsThree 38 = .ok (.iload_n 3, 1) := by decide +kernel
theorem dX4_digsThree_39 : decode cX4_digsThree 39 = .ok (.iaload, 1) := by decide +kernel
theorem dX4_digsThree_40 : decode cX4_digsThree 40 = .ok (.aload_n 0, 1) := by decide +kernel
theorem dX4_digsThree_41 : decode cX4_digsThree 41 = .ok (.iload_n 1, 1) := by decide +kernel
theorem dX4_digsThree_42 : decode cX4_digsThree 42 = .ok (.invokevirtual 254, 3) := by decide +kernel
theorem dX4_digsThree_45 : decode cX4_digsThree 45 = .ok (.iadd, 1) := by decide +kernel
theorem dX4_digsThree_46 : decode cX4_digsThree 46 = .ok (.istore 5, 2) := by decide +kernel
theorem dX4_digsThree_48 : decode cX4_digsThree 48 = .ok (.aload_n 0, 1) := by decide +kernel
theorem dX4_digsThree_49 : decode cX4_digsThree 49 = .ok (.getfield 7, 3) := by decide +kernel
theorem dX4_digsThree_52 : decode cX4_digsThree 52 = .ok (.iload_n 3, 1) := by decide +kernel
theorem dX4_digsThree_53 : decode cX4_digsThree 53 = .ok (.iload 4, 2) := by decide +kernel
theorem dX4_digsThree_55 : decode cX4_digsThree 55 = .ok (.iastore, 1) := by decide +kernel
theorem dX4_digsThree_56 : decode cX4_digsThree 56 = .ok (.iload 5, 2) := by decide +kernel
theorem dX4_digsThree_58 : decode cX4_digsThree 58 = .ok (.iload_n 2, 1) := by decide +kernel
theorem dX4_digsThree_59 : decode cX4_digsThree 59 = .ok (.if_icmp .le 8, 3) := by decide +kernel
theorem dX4_digsThree_62 : decode cX4_digsThree 62 = .ok (.iload 5, 2) := by decide +kernel
theorem dX4_digsThree_64 : decode cX4_digsThree 64 = .ok (.goto 4, 3) := by decide +kernel
theorem dX4_digsThree_67 : decode cX4_digsThree 67 = .ok (.iload_n 2, 1) := by decide +kernel
theorem dX4_digsThree_68 : decode cX4_digsThree 68 = .ok (.istore_n 2, 1) := by decide +kernel
theorem dX4_digsThree_69 : decode cX4_digsThree 69 = .ok (.iinc 3 1, 3) := by decide +kernel
theorem dX4_digsThree_72 : decode cX4_digsThree 72 = .ok (.goto (-68), 3) := by decide +kernel
theorem dX4_digsThree_75 : decode cX4_digsThree 75 = .ok (.iload_n 2, 1) := by decide +kernel
theorem dX4_digsThree_76 : decode cX4_digsThree 76 = .ok (.ireturn, 1) := by decide +kernel
theorem dX4_plan_0 : decode cX4_plan 0 = .ok (.aload_n 0, 1) := by decide +kernel
theorem dX4_plan_1 : decode cX4_plan 1 = .ok (.aload_n 0, 1) := by decide +kernel
theorem dX4_plan_2 : decode cX4_plan 2 = .ok (.iload_n 1, 1) := by decide +kernel
theorem dX4_plan_3 : decode cX4_plan 3 = .ok (.invokevirtual 142, 3) := by decide +kernel
theorem dX4_plan_6 : decode cX4_plan 6 = .ok (.ifCond .ne 7, 3) := by decide +kernel
theorem dX4_plan_9 : decode cX4_plan 9 = .ok (.iconst 1, 1) := by decide +kernel
theorem dX4_plan_10 : decode cX4_plan 10 = .ok (.goto 17, 3) := by decide +kernel
theorem dX4_plan_13 : decode cX4_plan 13 = .ok (.iload_n 2, 1) := by decide +kernel
theorem dX4_plan_14 : decode cX4_plan 14 = .ok (.iconst 0, 1) := by decide +kernel
theorem dX4_plan_15 : decode cX4_plan 15 = .ok (.iconst 3, 1) := by decide +kernel
theorem dX4_plan_16 : decode cX4_plan 16 = .ok (.invokestatic 108, 3) := by decide +kernel
theorem dX4_plan_19 : decode cX4_plan 19 = .ok (.ifCond .eq 7, 3) := by decide +kernel
theorem dX4_plan_22 : decode cX4_plan 22 = .ok (.iconst 0, 1) := by decide +kernel
theorem dX4_plan_23 : decode cX4_plan 23 = .ok (.goto 4, 3) := by decide +kernel
theorem dX4_plan_26 : decode cX4_plan 26 = .ok (.iconst 2, 1) := by decide +kernel
theorem dX4_plan_27 : decode cX4_plan 27 = .ok (.putfield 104, 3) := by decide +kernel
theorem dX4_plan_30 : decode cX4_plan 30 = .ok (.aload_n 0, 1) := by decide +kernel
theorem dX4_plan_31 : decode cX4_plan 31 = .ok (.getfield 104, 3) := by decide +kernel
theorem dX4_plan_34 : decode cX4_plan 34 = .ok (.ifCond .le 5, 3) := by decide +kernel
theorem dX4_plan_37 : decode cX4_plan 37 = .ok (.iconst 0, 1) := by decide +kernel
theorem dX4_plan_38 : decode cX4_plan 38 = .ok (.ireturn, 1) := by decide +kernel
theorem dX4_plan_39 : decode cX4_plan 39 = .ok (.iload_n 2, 1) := by decide +kernel
theorem dX4_plan_40 : decode cX4_plan 40 = .ok (.ifCond .ne 7, 3) := by decide +kernel
theorem dX4_plan_43 : decode cX4_plan 43 = .ok (.iconst 0, 1) := by decide +kernel
theorem dX4_plan_44 : decode cX4_plan 44 = .ok (.goto 34, 3) := by decide +kernel
theorem dX4_plan_47 : decode cX4_plan 47 = .ok (.iload_n 2, 1) := by decide +kernel
theorem dX4_plan_48 : decode cX4_plan 48 = .ok (.iconst 1, 1) := by decide +kernel
theorem dX4_plan_49 : decode cX4_plan 49 = .ok (.if_icmp .ne 11, 3) := by decide +kernel
theorem dX4_plan_52 : decode cX4_plan 52 = .ok (.aload_n 0, 1) := by decide +kernel
theorem dX4_plan_53 : decode cX4_plan 53 = .ok (.iload_n 1, 1) := by decide +kernel
theorem dX4_plan_54 : decode cX4_plan 54 = .ok (.invokevirtual 251, 3) := by decide +kernel
theorem dX4_plan_57 : decode cX4_plan 57 = .ok (.goto 21, 3) := by decide +kernel
theorem dX4_plan_60 : decode cX4_plan 60 = .ok (.iload_n 2, 1) := by decide +kernel
theorem dX4_plan_61 : decode cX4_plan 61 = .ok (.iconst 2, 1) := by decide +kernel
theorem dX4_plan_62 : decode cX4_plan 62 = .ok (.if_icmp .ne 11, 3) := by decide +kernel
theorem dX4_plan_65 : decode cX4_plan 65 = .ok (.aload_n 0, 1) := by decide +kernel
theorem dX4_plan_66 : decode cX4_plan 66 = .ok (.iload_n 1, 1) := by decide +kernel
theorem dX4_plan_67 : decode cX4_plan 67 = .ok (.invokevirtual 254, 3) := by decide +kernel
theorem dX4_plan_70 : decode cX4_plan 70 = .ok (.goto 8, 3) := by decide +kernel
theorem dX4_plan_73 : decode cX4_plan 73 = .ok (.aload_n 0, 1) := by decide +kernel
theorem dX4_plan_74 : decode cX4_plan 74 = .ok (.iload_n 1, 1) := by decide +kernel
theorem dX4_plan_75 : decode cX4_plan 75 = .ok (.invokevirtual 257, 3) := by decide +kernel
theorem dX4_plan_78 : decode cX4_plan 78 = .ok (.ireturn, 1) := by decide +kernel
theorem dX4_planAnew_0 : decode cX4_planAnew 0 = .ok (.aload_n 0, 1) := by decide +kernel
theorem dX4_planAnew_1 : decode cX4_planAnew 1 = .ok (.iload_n 1, 1) := by decide +kernel
theorem dX4_planAnew_2 : decode cX4_planAnew 2 = .ok (.iload_n 2, 1) := by decide +kernel
theorem dX4_planAnew_3 : decode cX4_planAnew 3 = .ok (.invokevirtual 260, 3) := by decide +kernel
theorem dX4_planAnew_6 : decode cX4_planAnew 6 = .ok (.ireturn, 1) := by decide +kernel
theorem dJ9_max_7cf53_0 : decode cJ9_max_7cf53 0 = .ok (.iload_n 0, 1) := by decide +kernel
theorem dJ9_max_7cf53_1 : decode cJ9_max_7cf53 1 = .ok (.iload_n 1, 1) := by decide +kernel
theorem dJ9_max_7cf53_2 : decode cJ9_max_7cf53 2 = .ok (.if_icmp .lt 7, 3) := by decide +kernel
theorem dJ9_max_7cf53_5 : decode cJ9_max_7cf53 5 = .ok (.iload_n 0, 1) := by decide +kernel
theorem dJ9_max_7cf53_6 : decode cJ9_max_7cf53 6 = .ok (.goto 4, 3) := by decide +kernel
theorem dJ9_max_7cf53_9 : decode cJ9_max_7cf53 9 = .ok (.iload_n 1, 1) := by decide +kernel
theorem dJ9_max_7cf53_10 : decode cJ9_max_7cf53 10 = .ok (.ireturn, 1) := by decide +kernel
theorem dJ9_min_7cf53_0 : decode cJ9_min_7cf53 0 = .ok (.iload_n 0, 1) := by decide +kernel
theorem dJ9_min_7cf53_1 : decode cJ9_min_7cf53 1 = .ok (.iload_n 1, 1) := by decide +kernel
theorem dJ9_min_7cf53_2 : decode cJ9_min_7cf53 2 = .ok (.if_icmp .gt 7, 3) := by decide +kernel
theorem dJ9_min_7cf53_5 : decode cJ9_min_7cf53 5 = .ok (.iload_n 0, 1) := by decide +kernel
theorem dJ9_min_7cf53_6 : decode cJ9_min_7cf53 6 = .ok (.goto 4, 3) := by decide +kernel
theorem dJ9_min_7cf53_9 : decode cJ9_min_7cf53 9 = .ok (.iload_n 1, 1) := by decide +kernel
theorem dJ9_min_7cf53_10 : decode cJ9_min_7cf53 10 = .ok (.ireturn, 1) := by decide +kernel
theorem dJxa1e45_init_da8c8_0 : decode cJxa1e45_init_da8c8 0 = .ok (.aload_n 0, 1) := by decide +kernel
theorem dJxa1e45_init_da8c8_1 : decode cJxa1e45_init_da8c8 1 = .ok (.invokespecial 1, 3) := by decide +kernel
theorem dJxa1e45_init_da8c8_4 : decode cJxa1e45_init_da8c8 4 = .ok (.return_, 1) := by decide +kernel
theorem dJxc12de_init_da8c8_0 : decode cJxc12de_init_da8c8 0 = .ok (.aload_n 0, 1) := by decide +kernel
theorem dJxc12de_init_da8c8_1 : decode cJxc12de_init_da8c8 1 = .ok (.invokespecial 1, 3) := by decide +kernel
theorem dJxc12de_init_da8c8_4 : decode cJxc12de_init_da8c8 4 = .ok (.aload_n 0, 1) := by decide +kernel
theorem dJxc12de_init_da8c8_5 : decode cJxc12de_init_da8c8 5 = .ok (.iconst 0, 1) := by decide +kernel
theorem dJxc12de_init_da8c8_6 : decode cJxc12de_init_da8c8 6 = .ok (.putfield 7, 3) := by decide +kernel
theorem dJxc12de_init_da8c8_9 : decode cJxc12de_init_da8c8 9 = .ok (.return_, 1) := by decide +kernel
theorem dJx4a65c_init_da8c8_0 : decode cJx4a65c_init_da8c8 0 = .ok (.aload_n 0, 1) := by decide +kernel
theorem dJx4a65c_init_da8c8_1 : decode cJx4a65c_init_da8c8 1 = .ok (.invokespecial 1, 3) := by decide +kernel
theorem dJx4a65c_init_da8c8_4 : decode cJx4a65c_init_da8c8 4 = .ok (.aload_n 0, 1) := by decide +kernel
theorem dJx4a65c_init_da8c8_5 : decode cJx4a65c_init_da8c8 5 = .ok (.getstatic 39, 3) := by decide +kernel
theorem dJx4a65c_init_da8c8_8 : decode cJx4a65c_init_da8c8 8 = .ok (.putfield 9, 3) := by decide +kernel
theorem dJx4a65c_init_da8c8_11 : decode cJx4a65c_init_da8c8 11 = .ok (.return_, 1) := by decide +kernel
theorem dJx4a65c_grow_92f84_0 : decode cJx4a65c_grow_92f84 0 = .ok (.aload_n 0, 1) := by decide +kernel
theorem dJx4a65c_grow_92f84_1 : decode cJx4a65c_grow_92f84 1 = .ok (.getfield 9, 3) := by decide +kernel
theorem dJx4a65c_grow_92f84_4 : decode cJx4a65c_grow_92f84 4 = .ok (.arraylength, 1) := by decide +kernel
theorem dJx4a65c_grow_92f84_5 : decode cJx4a65c_grow_92f84 5 = .ok (.istore_n 2, 1) := by decide +kernel
theorem dJx4a65c_grow_92f84_6 : decode cJx4a65c_grow_92f84 6 = .ok (.iload_n 2, 1) := by decide +kernel
theorem dJx4a65c_grow_92f84_7 : decode cJx4a65c_grow_92f84 7 = .ok (.ifCond .gt 13, 3) := by decide +kernel
theorem dJx4a65c_grow_92f84_10 : decode cJx4a65c_grow_92f84 10 = .ok (.aload_n 0, 1) := by decide +kernel
theorem dJx4a65c_grow_92f84_11 : decode cJx4a65c_grow_92f84 11 = .ok (.getfield 9, 3) := by decide +kernel
theorem dJx4a65c_grow_92f84_14 : decode cJx4a65c_grow_92f84 14 = .ok (.getstatic 39, 3) := by decide +kernel
theorem dJx4a65c_grow_92f84_17 : decode cJx4a65c_grow_92f84 17 = .ok (.if_acmp .eq 28, 3) := by decide +kernel
theorem dJx4a65c_grow_92f84_20 : decode cJx4a65c_grow_92f84 20 = .ok (.iload_n 2, 1) := by decide +kernel
theorem dJx4a65c_grow_92f84_21 : decode cJx4a65c_grow_92f84 21 = .ok (.iload_n 1, 1) := by decide +kernel
theorem dJx4a65c_grow_92f84_22 : decode cJx4a65c_grow_92f84 22 = .ok (.iload_n 2, 1) := by decide +kernel
theorem dJx4a65c_grow_92f84_23 : decode cJx4a65c_grow_92f84 23 = .ok (.isub, 1) := by decide +kernel
theorem dJx4a65c_grow_92f84_24 : decode cJx4a65c_grow_92f84 24 = .ok (.iload_n 2, 1) := by decide +kernel
theorem dJx4a65c_grow_92f84_25 : decode cJx4a65c_grow_92f84 25 = .ok (.iconst 1, 1) := by decide +kernel
theorem dJx4a65c_grow_92f84_26 : decode cJx4a65c_grow_92f84 26 = .ok (.ishr, 1) := by decide +kernel
theorem dJx4a65c_grow_92f84_27 : decode cJx4a65c_grow_92f84 27 = .ok (.invokestatic 73, 3) := by decide +kernel
theorem dJx4a65c_grow_92f84_30 : decode cJx4a65c_grow_92f84 30 = .ok (.istore_n 3, 1) := by decide +kernel
theorem dJx4a65c_grow_92f84_31 : decode cJx4a65c_grow_92f84 31 = .ok (.aload_n 0, 1) := by decide +kernel
theorem dJx4a65c_grow_92f84_32 : decode cJx4a65c_grow_92f84 32 = .ok (.aload_n 0, 1) := by decide +kernel
theorem dJx4a65c_grow_92f84_33 : decode cJx4a65c_grow_92f84 33 = .ok (.getfield 9, 3) := by decide +kernel
theorem dJx4a65c_grow_92f84_36 : decode cJx4a65c_grow_92f84 36 = .ok (.iload_n 3, 1) := by decide +kernel
theorem dJx4a65c_grow_92f84_37 : decode cJx4a65c_grow_92f84 37 = .ok (.invokestatic 66, 3) := by decide +kernel
theorem dJx4a65c_grow_92f84_40 : decode cJx4a65c_grow_92f84 40 = .ok (.dup_x1, 1) := by decide +kernel
theorem dJx4a65c_grow_92f84_41 : decode cJx4a65c_grow_92f84 41 = .ok (.putfield 9, 3) := by decide +kernel
theorem dJx4a65c_grow_92f84_44 : decode cJx4a65c_grow_92f84 44 = .ok (.areturn, 1) := by decide +kernel
theorem dJx4a65c_grow_92f84_45 : decode cJx4a65c_grow_92f84 45 = .ok (.aload_n 0, 1) := by decide +kernel
theorem dJx4a65c_grow_92f84_46 : decode cJx4a65c_grow_92f84 46 = .ok (.bipush 10, 2) := by decide +kernel
theorem dJx4a65c_grow_92f84_48 : decode cJx4a65c_grow_92f84 48 = .ok (.iload_n 1, 1) := by decide +kernel
theorem dJx4a65c_grow_92f84_49 : decode cJx4a65c_grow_92f84 49 = .ok (.invokestatic 79, 3) := by decide +kernel
theorem dJx4a65c_grow_92f84_52 : decode cJx4a65c_grow_92f84 52 = .ok (.anewarray 7, 3) := by decide +kernel
theorem dJx4a65c_grow_92f84_55 : decode cJx4a65c_grow_92f84 55 = .ok (.dup_x1, 1) := by decide +kernel
theorem dJx4a65c_grow_92f84_56 : decode cJx4a65c_grow_92f84 56 = .ok (.putfield 9, 3) := by decide +kernel
theorem dJx4a65c_grow_92f84_59 : decode cJx4a65c_grow_92f84 59 = .ok (.areturn, 1) := by decide +kernel
theorem dJx4a65c_grow_d5877_0 : decode cJx4a65c_grow_d5877 0 = .ok (.aload_n 0, 1) := by decide +kernel
theorem dJx4a65c_grow_d5877_1 : decode cJx4a65c_grow_d5877 1 = .ok (.aload_n 0, 1) := by decide +kernel
theorem dJx4a65c_grow_d5877_2 : decode cJx4a65c_grow_d5877 2 = .ok (.getfield 48, 3) := by decide +kernel
theorem dJx4a65c_grow_d5877_5 : decode cJx4a65c_grow_d5877 5 = .ok (.iconst 1, 1) := by decide +kernel
theorem dJx4a65c_grow_d5877_6 : decode cJx4a65c_grow_d5877 6 = .ok (.iadd, 1) := by decide +kernel
theorem dJx4a65c_grow_d5877_7 : decode cJx4a65c_grow_d5877 7 = .ok (.invokevirtual 69, 3) := by decide +kernel
theorem dJx4a65c_grow_d5877_10 : decode cJx4a65c_grow_d5877 10 = .ok (.areturn, 1) := by decide +kernel
theorem dJx4a65c_size_8abf5_0 : decode cJx4a65c_size_8abf5 0 = .ok (.aload_n 0, 1) := by decide +kernel
theorem dJx4a65c_size_8abf5_1 : decode cJx4a65c_size_8abf5 1 = .ok (.getfield 48, 3) := by decide +kernel
theorem dJx4a65c_size_8abf5_4 : decode cJx4a65c_size_8abf5 4 = .ok (.ireturn, 1) := by decide +kernel
theorem dJx4a65c_elementData_915e3_0 : decode cJx4a65c_elementData_915e3 0 = .ok (.aload_n 0, 1) := by decide +kernel
theorem dJx4a65c_elementData_915e3_1 : decode cJx4a65c_elementData_915e3 1 = .ok (.getfield 9, 3) := by decide +kernel
theorem dJx4a65c_elementData_915e3_4 : decode cJx4a65c_elementData_915e3 4 = .ok (.iload_n 1, 1) := by decide +kernel
theorem dJx4a65c_elementData_915e3_5 : decode cJx4a65c_elementData_915e3 5 = .ok (.aaload, 1) := by decide +kernel
theorem dJx4a65c_elementData_915e3_6 : decode cJx4a65c_elementData_915e3 6 = .ok (.areturn, 1) := by decide +kernel
theorem dJx4a65c_get_915e3_0 : decode cJx4a65c_get_915e3 0 = .ok (.iload_n 1, 1) := by decide +kernel
theorem dJx4a65c_get_915e3_1 : decode cJx4a65c_get_915e3 1 = .ok (.aload_n 0, 1) := by decide +kernel
theorem dJx4a65c_get_915e3_2 : decode cJx4a65c_get_915e3 2 = .ok (.getfield 48, 3) := by decide +kernel
theorem dJx4a65c_get_915e3_5 : decode cJx4a65c_get_915e3 5 = .ok (.invokestatic 118, 3) := by decide +kernel
theorem dJx4a65c_get_915e3_8 : decode cJx4a65c_get_915e3 8 = .ok (.pop, 1) := by decide +kernel
theorem dJx4a65c_get_915e3_9 : decode cJx4a65c_get_915e3 9 = .ok (.aload_n 0, 1) := by decide +kernel
theorem dJx4a65c_get_915e3_10 : decode cJx4a65c_get_915e3 10 = .ok (.iload_n 1, 1) := by decide +kernel
theorem dJx4a65c_get_915e3_11 : decode cJx4a65c_get_915e3 11 = .ok (.invokevirtual 123, 3) := by decide +kernel
theorem dJx4a65c_get_915e3_14 : decode cJx4a65c_get_915e3 14 = .ok (.areturn, 1) := by decide +kernel
theorem dJx4a65c_add_72be8_0 : decode cJx4a65c_add_72be8 0 = .ok (.iload_n 3, 1) := by decide +kernel
theorem dJx4a65c_add_72be8_1 : decode cJx4a65c_add_72be8 1 = .ok (.aload_n 2, 1) := by decide +kernel
theorem dJx4a65c_add_72be8_2 : decode cJx4a65c_add_72be8 2 = .ok (.arraylength, 1) := by decide +kernel
theorem dJx4a65c_add_72be8_3 : decode cJx4a65c_add_72be8 3 = .ok (.if_icmp .ne 8, 3) := by decide +kernel
theorem dJx4a65c_add_72be8_6 : decode cJx4a65c_add_72be8 6 = .ok (.aload_n 0, 1) := by decide +kernel
theorem dJx4a65c_add_72be8_7 : decode cJx4a65c_add_72be8 7 = .ok (.invokevirtual 129, 3) := by decide +kernel
theorem dJx4a65c_add_72be8_10 : decode cJx4a65c_add_72be8 10 = .ok (.astore_n 2, 1) := by decide +kernel
theorem dJx4a65c_add_72be8_11 : decode cJx4a65c_add_72be8 11 = .ok (.aload_n 2, 1) := by decide +kernel
theorem dJx4a65c_add_72be8_12 : decode cJx4a65c_add_72be8 12 = .ok (.iload_n 3, 1) := by decide +kernel
theorem dJx4a65c_add_72be8_13 : decode cJx4a65c_add_72be8 13 = .ok (.aload_n 1, 1) := by decide +kernel
theorem dJx4a65c_add_72be8_14 : decode cJx4a65c_add_72be8 14 = .ok (.aastore, 1) := by decide +kernel
theorem dJx4a65c_add_72be8_15 : decode cJx4a65c_add_72be8 15 = .ok (.aload_n 0, 1) := by decide +kernel
theorem dJx4a65c_add_72be8_16 : decode cJx4a65c_add_72be8 16 = .ok (.iload_n 3, 1) := by decide +kernel
theorem dJx4a65c_add_72be8_17 : decode cJx4a65c_add_72be8 17 = .ok (.iconst 1, 1) := by decide +kernel
theorem dJx4a65c_add_72be8_18 : decode cJx4a65c_add_72be8 18 = .ok (.iadd, 1) := by decide +kernel
theorem dJx4a65c_add_72be8_19 : decode cJx4a65c_add_72be8 19 = .ok (.putfield 48, 3) := by decide +kernel
theorem dJx4a65c_add_72be8_22 : decode cJx4a65c_add_72be8 22 = .ok (.return_, 1) := by decide +kernel
theorem dJx4a65c_add_9ea2d_0 : decode cJx4a65c_add_9ea2d 0 = .ok (.aload_n 0, 1) := by decide +kernel
theorem dJx4a65c_add_9ea2d_1 : decode cJx4a65c_add_9ea2d 1 = .ok (.dup, 1) := by decide +kernel
theorem dJx4a65c_add_9ea2d_2 : decode cJx4a65c_add_9ea2d 2 = .ok (.getfield 63, 3) := by decide +kernel
theorem dJx4a65c_add_9ea2d_5 : decode cJx4a65c_add_9ea2d 5 = .ok (.iconst 1, 1) := by decide +kernel
theorem dJx4a65c_add_9ea2d_6 : decode cJx4a65c_add_9ea2d 6 = .ok (.iadd, 1) := by decide +kernel
theorem dJx4a65c_add_9ea2d_7 : decode cJx4a65c_add_9ea2d 7 = .ok (.putfield 63, 3) := by decide +kernel
theorem dJx4a65c_add_9ea2d_10 : decode cJx4a65c_add_9ea2d 10 = .ok (.aload_n 0, 1) := by decide +kernel
theorem dJx4a65c_add_9ea2d_11 : decode cJx4a65c_add_9ea2d 11 = .ok (.aload_n 1, 1) := by decide +kernel
theorem dJx4a65c_add_9ea2d_12 : decode cJx4a65c_add_9ea2d 12 = .ok (.aload_n 0, 1) := by decide +kernel
theorem dJx4a65c_add_9ea2d_13 : decode cJx4a65c_add_9ea2d 13 = .ok (.getfield 9, 3) := by decide +kernel
theorem dJx4a65c_add_9ea2d_16 : decode cJx4a65c_add_9ea2d 16 = .ok (.aload_n 0, 1) := by decide +kernel
theorem dJx4a65c_add_9ea2d_17 : decode cJx4a65c_add_9ea2d 17 = .ok (.getfield 48, 3) := by decide +kernel
theorem dJx4a65c_add_9ea2d_20 : decode cJx4a65c_add_9ea2d 20 = .ok (.invokevirtual 131, 3) := by decide +kernel
theorem dJx4a65c_add_9ea2d_23 : decode cJx4a65c_add_9ea2d 23 = .ok (.iconst 1, 1) := by decide +kernel
theorem dJx4a65c_add_9ea2d_24 : decode cJx4a65c_add_9ea2d 24 = .ok (.ireturn, 1) := by decide +kernel
theorem dJ7_fill_53178_0 : decode cJ7_fill_53178 0 = .ok (.iconst 0, 1) := by decide +kernel
theorem dJ7_fill_53178_1 : decode cJ7_fill_53178 1 = .ok (.istore_n 2, 1) := by decide +kernel
theorem dJ7_fill_53178_2 : decode cJ7_fill_53178 2 = .ok (.aload_n 0, 1) := by decide +kernel
theorem dJ7_fill_53178_3 : decode cJ7_fill_53178 3 = .ok (.arraylength, 1) := by decide +kernel
theorem dJ7_fill_53178_4 : decode cJ7_fill_53178 4 = .ok (.istore_n 3, 1) := by decide +kernel
theorem dJ7_fill_53178_5 : decode cJ7_fill_53178 5 = .ok (.iload_n 2, 1) := by decide +kernel
theorem dJ7_fill_53178_6 : decode cJ7_fill_53178 6 = .ok (.iload_n 3, 1) := by decide +kernel
theorem dJ7_fill_53178_7 : decode cJ7_fill_53178 7 = .ok (.if_icmp .ge 13, 3) := by decide +kernel
theorem dJ7_fill_53178_10 : decode cJ7_fill_53178 10 = .ok (.aload_n 0, 1) := by decide +kernel
theorem dJ7_fill_53178_11 : decode cJ7_fill_53178 11 = .ok (.iload_n 2, 1) := by decide +kernel
theorem dJ7_fill_53178_12 : decode cJ7_fill_53178 12 = .ok (.iload_n 1, 1) := by decide +kernel
theorem dJ7_fill_53178_13 : decode cJ7_fill_53178 13 = .ok (.iastore, 1) := by decide +kernel
theorem dJ7_fill_53178_14 : decode cJ7_fill_53178 14 = .ok (.iinc 2 1, 3) := by decide +kernel
theorem dJ7_fill_53178_17 : decode cJ7_fill_53178 17 = .ok (.goto (-12), 3) := by decide +kernel
theorem dJ7_fill_53178_20 : decode cJ7_fill_53178 20 = .ok (.return_, 1) := by decide +kernel
theorem dJ7_copyOf_1904c_0 : decode cJ7_copyOf_1904c 0 = .ok (.aload_n 0, 1) := by decide +kernel
theorem dJ7_copyOf_1904c_1 : decode cJ7_copyOf_1904c 1 = .ok (.iload_n 1, 1) := by decide +kernel
theorem dJ7_copyOf_1904c_2 : decode cJ7_copyOf_1904c 2 = .ok (.aload_n 0, 1) := by decide +kernel
theorem dJ7_copyOf_1904c_3 : decode cJ7_copyOf_1904c 3 = .ok (.invokevirtual 86, 3) := by decide +kernel
theorem dJ7_copyOf_1904c_6 : decode cJ7_copyOf_1904c 6 = .ok (.invokestatic 300, 3) := by decide +kernel
theorem dJ7_copyOf_1904c_9 : decode cJ7_copyOf_1904c 9 = .ok (.areturn, 1) := by decide +kernel
theorem dJ7_copyOf_6403c_0 : decode cJ7_copyOf_6403c 0 = .ok (.aload_n 2, 1) := by decide +kernel
theorem dJ7_copyOf_6403c_1 : decode cJ7_copyOf_6403c 1 = .ok (.ldc 110, 2) := by decide +kernel
theorem dJ7_copyOf_6403c_3 : decode cJ7_copyOf_6403c 3 = .ok (.if_acmp .ne 10, 3) := by decide +kernel
theorem dJ7_copyOf_6403c_6 : decode cJ7_copyOf_6403c 6 = .ok (.iload_n 1, 1) := by decide +kernel
theorem dJ7_copyOf_6403c_7 : decode cJ7_copyOf_6403c 7 = .ok (.anewarray 2, 3) := by decide +kernel
theorem dJ7_copyOf_6403c_10 : decode cJ7_copyOf_6403c 10 = .ok (.goto 14, 3) := by decide +kernel
theorem dJ7_copyOf_6403c_13 : decode cJ7_copyOf_6403c 13 = .ok (.aload_n 2, 1) := by decide +kernel
theorem dJ7_copyOf_6403c_14 : decode cJ7_copyOf_6403c 14 = .ok (.invokevirtual 90, 3) := by decide +kernel
theorem dJ7_copyOf_6403c_17 : decode cJ7_copyOf_6403c 17 = .ok (.iload_n 1, 1) := by decide +kernel
theorem dJ7_copyOf_6403c_18 : decode cJ7_copyOf_6403c 18 = .ok (.invokestatic 95, 3) := by decide +kernel
theorem dJ7_copyOf_6403c_21 : decode cJ7_copyOf_6403c 21 = .ok (.checkcast 110, 3) := by decide +kernel
theorem dJ7_copyOf_6403c_24 : decode cJ7_copyOf_6403c 24 = .ok (.astore_n 3, 1) := by decide +kernel
theorem dJ7_copyOf_6403c_25 : decode cJ7_copyOf_6403c 25 = .ok (.aload_n 0, 1) := by decide +kernel
theorem dJ7_copyOf_6403c_26 : decode cJ7_copyOf_6403c 26 = .ok (.iconst 0, 1) := by decide +kernel
theorem dJ7_copyOf_6403c_27 : decode cJ7_copyOf_6403c 27 = .ok (.aload_n 3, 1) := by decide +kernel
theorem dJ7_copyOf_6403c_28 : decode cJ7_copyOf_6403c 28 = .ok (.iconst 0, 1) := by decide +kernel
theorem dJ7_copyOf_6403c_29 : decode cJ7_copyOf_6403c 29 = .ok (.aload_n 0, 1) := by decide +kernel
theorem dJ7_copyOf_6403c_30 : decode cJ7_copyOf_6403c 30 = .ok (.arraylength, 1) := by decide +kernel
theorem dJ7_copyOf_6403c_31 : decode cJ7_copyOf_6403c 31 = .ok (.iload_n 1, 1) := by decide +kernel
theorem dJ7_copyOf_6403c_32 : decode cJ7_copyOf_6403c 32 = .ok (.invokestatic 304, 3) := by decide +kernel
theorem dJ7_copyOf_6403c_35 : decode cJ7_copyOf_6403c 35 = .ok (.invokestatic 150, 3) := by decide +kernel
theorem dJ7_copyOf_6403c_38 : decode cJ7_copyOf_6403c 38 = .ok (.aload_n 3, 1) := by decide +kernel
theorem dJ7_copyOf_6403c_39 : decode cJ7_copyOf_6403c 39 = .ok (.areturn, 1) := by decide +kernel
theorem dJ15_checkIndex_7cf53_0 : decode cJ15_checkIndex_7cf53 0 = .ok (.iload_n 0, 1) := by decide +kernel
theorem dJ15_checkIndex_7cf53_1 : decode cJ15_checkIndex_7cf53 1 = .ok (.iload_n 1, 1) := by decide +kernel
theorem dJ15_checkIndex_7cf53_2 : decode cJ15_checkIndex_7cf53 2 = .ok (.aconst_null, 1) := by decide +kernel
theorem dJ15_checkIndex_7cf53_3 : decode cJ15_checkIndex_7cf53 3 = .ok (.invokestatic 105, 3) := by decide +kernel
theorem dJ15_checkIndex_7cf53_6 : decode cJ15_checkIndex_7cf53 6 = .ok (.ireturn, 1) := by decide +kernel
theorem dJ8_newLength_cabcc_0 : decode cJ8_newLength_cabcc 0 = .ok (.iload_n 0, 1) := by decide +kernel
theorem dJ8_newLength_cabcc_1 : decode cJ8_newLength_cabcc 1 = .ok (.iload_n 1, 1) := by decide +kernel
theorem dJ8_newLength_cabcc_2 : decode cJ8_newLength_cabcc 2 = .ok (.iload_n 2, 1) := by decide +kernel
theorem dJ8_newLength_cabcc_3 : decode cJ8_newLength_cabcc 3 = .ok (.invokestatic 194, 3) := by decide +kernel
theorem dJ8_newLength_cabcc_6 : decode cJ8_newLength_cabcc 6 = .ok (.iadd, 1) := by decide +kernel
theorem dJ8_newLength_cabcc_7 : decode cJ8_newLength_cabcc 7 = .ok (.istore_n 3, 1) := by decide +kernel
theorem dJ8_newLength_cabcc_8 : decode cJ8_newLength_cabcc 8 = .ok (.iconst 0, 1) := by decide +kernel
theorem dJ8_newLength_cabcc_9 : decode cJ8_newLength_cabcc 9 = .ok (.iload_n 3, 1) := by decide +kernel
theorem dJ8_newLength_cabcc_10 : decode cJ8_newLength_cabcc 10 = .ok (.if_icmp .ge 11, 3) := by decide +kernel
theorem dJ8_newLength_cabcc_13 : decode cJ8_newLength_cabcc 13 = .ok (.iload_n 3, 1) := by decide +kernel
theorem dJ8_newLength_cabcc_14 : decode cJ8_newLength_cabcc 14 = .ok (.ldc 200, 2) := by decide +kernel
theorem dJ8_newLength_cabcc_16 : decode cJ8_newLength_cabcc 16 = .ok (.if_icmp .gt 5, 3) := by decide +kernel
theorem dJ8_newLength_cabcc_19 : decode cJ8_newLength_cabcc 19 = .ok (.iload_n 3, 1) := by decide +kernel
theorem dJ8_newLength_cabcc_20 : decode cJ8_newLength_cabcc 20 = .ok (.ireturn, 1) := by decide +kernel
theorem dJ8_newLength_cabcc_21 : decode cJ8_newLength_cabcc 21 = .ok (.iload_n 0, 1) := by decide +kernel
theorem dJ8_newLength_cabcc_22 : decode cJ8_newLength_cabcc 22 = .ok (.iload_n 1, 1) := by decide +kernel
theorem dJ8_newLength_cabcc_23 : decode cJ8_newLength_cabcc 23 = .ok (.invokestatic 201, 3) := by decide +kernel
theorem dJ8_newLength_cabcc_26 : decode cJ8_newLength_cabcc 26 = .ok (.ireturn, 1) := by decide +kernel
theorem dJ8_hugeLength_7cf53_0 : decode cJ8_hugeLength_7cf53 0 = .ok (.iload_n 0, 1) := by decide +kernel
theorem dJ8_hugeLength_7cf53_1 : decode cJ8_hugeLength_7cf53 1 = .ok (.iload_n 1, 1) := by decide +kernel
theorem dJ8_hugeLength_7cf53_2 : decode cJ8_hugeLength_7cf53 2 = .ok (.iadd, 1) := by decide +kernel
theorem dJ8_hugeLength_7cf53_3 : decode cJ8_hugeLength_7cf53 3 = .ok (.istore_n 2, 1) := by decide +kernel
theorem dJ8_hugeLength_7cf53_4 : decode cJ8_hugeLength_7cf53 4 = .ok (.iload_n 2, 1) := by decide +kernel
theorem dJ8_hugeLength_7cf53_5 : decode cJ8_hugeLength_7cf53 5 = .ok (.ifCond .ge 44, 3) := by decide +kernel
theorem dJ8_hugeLength_7cf53_8 : decode cJ8_hugeLength_7cf53 8 = .ok (.new 204, 3) := by decide +kernel
theorem dJ8_hugeLength_7cf53_11 : decode cJ8_hugeLength_7cf53 11 = .ok (.dup, 1) := by decide +kernel
theorem dJ8_hugeLength_7cf53_12 : decode cJ8_hugeLength_7cf53 12 = .ok (.new 89, 3) := by decide +kernel
theorem dJ8_hugeLength_7cf53_15 : decode cJ8_hugeLength_7cf53 15 = .ok (.dup, 1) := by decide +kernel
theorem dJ8_hugeLength_7cf53_16 : decode cJ8_hugeLength_7cf53 16 = .ok (.invokespecial 91, 3) := by decide +kernel
theorem dJ8_hugeLength_7cf53_19 : decode cJ8_hugeLength_7cf53 19 = .ok (.ldc 206, 2) := by decide +kernel
theorem dJ8_hugeLength_7cf53_21 : decode cJ8_hugeLength_7cf53 21 = .ok (.invokevirtual 94, 3) := by decide +kernel
theorem dJ8_hugeLength_7cf53_24 : decode cJ8_hugeLength_7cf53 24 = .ok (.iload_n 0, 1) := by decide +kernel
theorem dJ8_hugeLength_7cf53_25 : decode cJ8_hugeLength_7cf53 25 = .ok (.invokevirtual 98, 3) := by decide +kernel
theorem dJ8_hugeLength_7cf53_28 : decode cJ8_hugeLength_7cf53 28 = .ok (.ldc 208, 2) := by decide +kernel
theorem dJ8_hugeLength_7cf53_30 : decode cJ8_hugeLength_7cf53 30 = .ok (.invokevirtual 94, 3) := by decide +kernel
theorem dJ8_hugeLength_7cf53_33 : decode cJ8_hugeLength_7cf53 33 = .ok (.iload_n 1, 1) := by decide +kernel
theorem dJ8_hugeLength_7cf53_34 : decode cJ8_hugeLength_7cf53 34 = .ok (.invokevirtual 98, 3) := by decide +kernel
theorem dJ8_hugeLength_7cf53_37 : decode cJ8_hugeLength_7cf53 37 = .ok (.ldc 210, 2) := by decide +kernel
theorem dJ8_hugeLength_7cf53_39 : decode cJ8_hugeLength_7cf53 39 = .ok (.invokevirtual 94, 3) := by decide +kernel
theorem dJ8_hugeLength_7cf53_42 : decode cJ8_hugeLength_7cf53 42 = .ok (.invokevirtual 101, 3) := by decide +kernel
theorem dJ8_hugeLength_7cf53_45 : decode cJ8_hugeLength_7cf53 45 = .ok (.invokespecial 212, 3) := by decide +kernel
theorem dJ8_hugeLength_7cf53_48 : decode cJ8_hugeLength_7cf53 48 = .ok (.athrow, 1) := by decide +kernel
theorem dJ8_hugeLength_7cf53_49 : decode cJ8_hugeLength_7cf53 49 = .ok (.iload_n 2, 1) := by decide +kernel
theorem dJ8_hugeLength_7cf53_50 : decode cJ8_hugeLength_7cf53 50 = .ok (.ldc 200, 2) := by decide +kernel
theorem dJ8_hugeLength_7cf53_52 : decode cJ8_hugeLength_7cf53 52 = .ok (.if_icmp .gt 6, 3) := by decide +kernel
theorem dJ8_hugeLength_7cf53_55 : decode cJ8_hugeLength_7cf53 55 = .ok (.ldc 200, 2) := by decide +kernel
theorem dJ8_hugeLength_7cf53_57 : decode cJ8_hugeLength_7cf53 57 = .ok (.ireturn, 1) := by decide +kernel
theorem dJ8_hugeLength_7cf53_58 : decode cJ8_hugeLength_7cf53 58 = .ok (.iload_n 2, 1) := by decide +kernel
theorem dJ8_hugeLength_7cf53_59 : decode cJ8_hugeLength_7cf53 59 = .ok (.ireturn, 1) := by decide +kernel
theorem dJ3_checkIndex_8e157_0 : decode cJ3_checkIndex_8e157 0 = .ok (.iload_n 0, 1) := by decide +kernel
theorem dJ3_checkIndex_8e157_1 : decode cJ3_checkIndex_8e157 1 = .ok (.ifCond .lt 8, 3) := by decide +kernel
theorem dJ3_checkIndex_8e157_4 : decode cJ3_checkIndex_8e157 4 = .ok (.iload_n 0, 1) := by decide +kernel
theorem dJ3_checkIndex_8e157_5 : decode cJ3_checkIndex_8e157 5 = .ok (.iload_n 1, 1) := by decide +kernel
theorem dJ3_checkIndex_8e157_6 : decode cJ3_checkIndex_8e157 6 = .ok (.if_icmp .lt 10, 3) := by decide +kernel
theorem dJ3_checkIndex_8e157_9 : decode cJ3_checkIndex_8e157 9 = .ok (.aload_n 2, 1) := by decide +kernel
theorem dJ3_checkIndex_8e157_10 : decode cJ3_checkIndex_8e157 10 = .ok (.iload_n 0, 1) := by decide +kernel
theorem dJ3_checkIndex_8e157_11 : decode cJ3_checkIndex_8e157 11 = .ok (.iload_n 1, 1) := by decide +kernel
theorem dJ3_checkIndex_8e157_12 : decode cJ3_checkIndex_8e157 12 = .ok (.invokestatic 95, 3) := by decide +kernel
theorem dJ3_checkIndex_8e157_15 : decode cJ3_checkIndex_8e157 15 = .ok (.athrow, 1) := by decide +kernel
theorem dJ3_checkIndex_8e157_16 : decode cJ3_checkIndex_8e157 16 = .ok (.iload_n 0, 1) := by decide +kernel
theorem dJ3_checkIndex_8e157_17 : decode cJ3_checkIndex_8e157 17 = .ok (.ireturn, 1) := by decide +kernel
theorem dL_seam_0 : decode cL_seam 0 = .ok (.aload_n 0, 1) := by decide +kernel
theorem dL_seam_1 : decode cL_seam 1 = .ok (.iload_n 1, 1) := by decide +kernel
theorem dL_seam_2 : decode cL_seam 2 = .ok (.iload_n 2, 1) := by decide +kernel
theorem dL_seam_3 : decode cL_seam 3 = .ok (.iload_n 3, 1) := by decide +kernel
theorem dL_seam_4 : decode cL_seam 4 = .ok (.invokevirtual 7, 3) := by decide +kernel
theorem dL_seam_7 : decode cL_seam 7 = .ok (.goto 15, 3) := by decide +kernel
theorem dL_seam_10 : decode cL_seam 10 = .ok (.astore 4, 2) := by decide +kernel
theorem dL_seam_12 : decode cL_seam 12 = .ok (.iconst 1, 1) := by decide +kernel
theorem dL_seam_13 : decode cL_seam 13 = .ok (.ireturn, 1) := by decide +kernel
theorem dL_seam_14 : decode cL_seam 14 = .ok (.astore 4, 2) := by decide +kernel
theorem dL_seam_16 : decode cL_seam 16 = .ok (.iconst 2, 1) := by decide +kernel
theorem dL_seam_17 : decode cL_seam 17 = .ok (.ireturn, 1) := by decide +kernel
theorem dL_seam_18 : decode cL_seam 18 = .ok (.astore 4, 2) := by decide +kernel
theorem dL_seam_20 : decode cL_seam 20 = .ok (.iconst 3, 1) := by decide +kernel
theorem dL_seam_21 : decode cL_seam 21 = .ok (.ireturn, 1) := by decide +kernel
theorem dL_seam_22 : decode cL_seam 22 = .ok (.iconst 0, 1) := by decide +kernel
theorem dL_seam_23 : decode cL_seam 23 = .ok (.ireturn, 1) := by decide +kernel
theorem dL_pass_0 : decode cL_pass 0 = .ok (.aload_n 2, 1) := by decide +kernel
theorem dL_pass_1 : decode cL_pass 1 = .ok (.iconst 0, 1) := by decide +kernel
theorem dL_pass_2 : decode cL_pass 2 = .ok (.aload_n 0, 1) := by decide +kernel
theorem dL_pass_3 : decode cL_pass 3 = .ok (.iload_n 1, 1) := by decide +kernel
theorem dL_pass_4 : decode cL_pass 4 = .ok (.invokevirtual 19, 3) := by decide +kernel
theorem dL_pass_7 : decode cL_pass 7 = .ok (.i2l, 1) := by decide +kernel
theorem dL_pass_8 : decode cL_pass 8 = .ok (.lastore, 1) := by decide +kernel
theorem dL_pass_9 : decode cL_pass 9 = .ok (.goto 9, 3) := by decide +kernel
theorem dL_pass_12 : decode cL_pass 12 = .ok (.astore_n 3, 1) := by decide +kernel
theorem dL_pass_13 : decode cL_pass 13 = .ok (.iconst 1, 1) := by decide +kernel
theorem dL_pass_14 : decode cL_pass 14 = .ok (.ireturn, 1) := by decide +kernel
theorem dL_pass_15 : decode cL_pass 15 = .ok (.astore_n 3, 1) := by decide +kernel
theorem dL_pass_16 : decode cL_pass 16 = .ok (.iconst 2, 1) := by decide +kernel
theorem dL_pass_17 : decode cL_pass 17 = .ok (.ireturn, 1) := by decide +kernel
theorem dL_pass_18 : decode cL_pass 18 = .ok (.iconst 0, 1) := by decide +kernel
theorem dL_pass_19 : decode cL_pass 19 = .ok (.ireturn, 1) := by decide +kernel
theorem dL_peg_0 : decode cL_peg 0 = .ok (.aload 5, 2) := by decide +kernel
theorem dL_peg_2 : decode cL_peg 2 = .ok (.iconst 0, 1) := by decide +kernel
theorem dL_peg_3 : decode cL_peg 3 = .ok (.aload_n 0, 1) := by decide +kernel
theorem dL_peg_4 : decode cL_peg 4 = .ok (.iload_n 1, 1) := by decide +kernel
theorem dL_peg_5 : decode cL_peg 5 = .ok (.iload_n 2, 1) := by decide +kernel
theorem dL_peg_6 : decode cL_peg 6 = .ok (.iload_n 3, 1) := by decide +kernel
theorem dL_peg_7 : decode cL_peg 7 = .ok (.iload 4, 2) := by decide +kernel
theorem dL_peg_9 : decode cL_peg 9 = .ok (.invokevirtual 23, 3) := by decide +kernel
theorem dL_peg_12 : decode cL_peg 12 = .ok (.i2l, 1) := by decide +kernel
theorem dL_peg_13 : decode cL_peg 13 = .ok (.lastore, 1) := by decide +kernel
theorem dL_peg_14 : decode cL_peg 14 = .ok (.goto 15, 3) := by decide +kernel
theorem dL_peg_17 : decode cL_peg 17 = .ok (.astore 6, 2) := by decide +kernel
theorem dL_peg_19 : decode cL_peg 19 = .ok (.iconst 1, 1) := by decide +kernel
theorem dL_peg_20 : decode cL_peg 20 = .ok (.ireturn, 1) := by decide +kernel
theorem dL_peg_21 : decode cL_peg 21 = .ok (.astore 6, 2) := by decide +kernel
theorem dL_peg_23 : decode cL_peg 23 = .ok (.iconst 2, 1) := by decide +kernel
theorem dL_peg_24 : decode cL_peg 24 = .ok (.ireturn, 1) := by decide +kernel
theorem dL_peg_25 : decode cL_peg 25 = .ok (.astore 6, 2) := by decide +kernel
theorem dL_peg_27 : decode cL_peg 27 = .ok (.iconst 3, 1) := by decide +kernel
theorem dL_peg_28 : decode cL_peg 28 = .ok (.ireturn, 1) := by decide +kernel
theorem dL_peg_29 : decode cL_peg 29 = .ok (.iconst 0, 1) := by decide +kernel
theorem dL_peg_30 : decode cL_peg 30 = .ok (.ireturn, 1) := by decide +kernel
theorem dL_witness_0 : decode cL_witness 0 = .ok (.aload 4, 2) := by decide +kernel
theorem dL_witness_2 : decode cL_witness 2 = .ok (.iconst 0, 1) := by decide +kernel
theorem dL_witness_3 : decode cL_witness 3 = .ok (.aload_n 0, 1) := by decide +kernel
theorem dL_witness_4 : decode cL_witness 4 = .ok (.iload_n 1, 1) := by decide +kernel
theorem dL_witness_5 : decode cL_witness 5 = .ok (.iload_n 2, 1) := by decide +kernel
theorem dL_witness_6 : decode cL_witness 6 = .ok (.iload_n 3, 1) := by decide +kernel
theorem dL_witness_7 : decode cL_witness 7 = .ok (.invokevirtual 27, 3) := by decide +kernel
theorem dL_witness_10 : decode cL_witness 10 = .ok (.i2l, 1) := by decide +kernel
theorem dL_witness_11 : decode cL_witness 11 = .ok (.lastore, 1) := by decide +kernel
theorem dL_witness_12 : decode cL_witness 12 = .ok (.goto 15, 3) := by decide +kernel
theorem dL_witness_15 : decode cL_witness 15 = .ok (.astore 5, 2) := by decide +kernel
theorem dL_witness_17 : decode cL_witness 17 = .ok (.iconst 1, 1) := by decide +kernel
theorem dL_witness_18 : decode cL_witness 18 = .ok (.ireturn, 1) := by decide +kernel
theorem dL_witness_19 : decode cL_witness 19 = .ok (.astore 5, 2) := by decide +kernel
theorem dL_witness_21 : decode cL_witness 21 = .ok (.iconst 2, 1) := by decide +kernel
theorem dL_witness_22 : decode cL_witness 22 = .ok (.ireturn, 1) := by decide +kernel
theorem dL_witness_23 : decode cL_witness 23 = .ok (.astore 5, 2) := by decide +kernel
theorem dL_witness_25 : decode cL_witness 25 = .ok (.iconst 3, 1) := by decide +kernel
theorem dL_witness_26 : decode cL_witness 26 = .ok (.ireturn, 1) := by decide +kernel
theorem dL_witness_27 : decode cL_witness 27 = .ok (.iconst 0, 1) := by decide +kernel
theorem dL_witness_28 : decode cL_witness 28 = .ok (.ireturn, 1) := by decide +kernel
theorem dL_partner_0 : decode cL_partner 0 = .ok (.aload 4, 2) := by decide +kernel
theorem dL_partner_2 : decode cL_partner 2 = .ok (.iconst 0, 1) := by decide +kernel
theorem dL_partner_3 : decode cL_partner 3 = .ok (.aload_n 0, 1) := by decide +kernel
theorem dL_partner_4 : decode cL_partner 4 = .ok (.iload_n 1, 1) := by decide +kernel
theorem dL_partner_5 : decode cL_partner 5 = .ok (.iload_n 2, 1) := by decide +kernel
theorem dL_partner_6 : decode cL_partner 6 = .ok (.iload_n 3, 1) := by decide +kernel
theorem dL_partner_7 : decode cL_partner 7 = .ok (.invokevirtual 31, 3) := by decide +kernel
theorem dL_partner_10 : decode cL_partner 10 = .ok (.i2l, 1) := by decide +kernel
theorem dL_partner_11 : decode cL_partner 11 = .ok (.lastore, 1) := by decide +kernel
theorem dL_partner_12 : decode cL_partner 12 = .ok (.goto 15, 3) := by decide +kernel
theorem dL_partner_15 : decode cL_partner 15 = .ok (.astore 5, 2) := by decide +kernel
theorem dL_partner_17 : decode cL_partner 17 = .ok (.iconst 1, 1) := by decide +kernel
theorem dL_partner_18 : decode cL_partner 18 = .ok (.ireturn, 1) := by decide +kernel
theorem dL_partner_19 : decode cL_partner 19 = .ok (.astore 5, 2) := by decide +kernel
theorem dL_partner_21 : decode cL_partner 21 = .ok (.iconst 2, 1) := by decide +kernel
theorem dL_partner_22 : decode cL_partner 22 = .ok (.ireturn, 1) := by decide +kernel
theorem dL_partner_23 : decode cL_partner 23 = .ok (.astore 5, 2) := by decide +kernel
theorem dL_partner_25 : decode cL_partner 25 = .ok (.iconst 3, 1) := by decide +kernel
theorem dL_partner_26 : decode cL_partner 26 = .ok (.ireturn, 1) := by decide +kernel
theorem dL_partner_27 : decode cL_partner 27 = .ok (.iconst 0, 1) := by decide +kernel
theorem dL_partner_28 : decode cL_partner 28 = .ok (.ireturn, 1) := by decide +kernel
theorem dL_dig_0 : decode cL_dig 0 = .ok (.aload 4, 2) := by decide +kernel
theorem dL_dig_2 : decode cL_dig 2 = .ok (.iconst 0, 1) := by decide +kernel
theorem dL_dig_3 : decode cL_dig 3 = .ok (.aload_n 0, 1) := by decide +kernel
theorem dL_dig_4 : decode cL_dig 4 = .ok (.iload_n 1, 1) := by decide +kernel
theorem dL_dig_5 : decode cL_dig 5 = .ok (.iload_n 2, 1) := by decide +kernel
theorem dL_dig_6 : decode cL_dig 6 = .ok (.iload_n 3, 1) := by decide +kernel
theorem dL_dig_7 : decode cL_dig 7 = .ok (.invokevirtual 34, 3) := by decide +kernel
theorem dL_dig_10 : decode cL_dig 10 = .ok (.i2l, 1) := by decide +kernel
theorem dL_dig_11 : decode cL_dig 11 = .ok (.lastore, 1) := by decide +kernel
theorem dL_dig_12 : decode cL_dig 12 = .ok (.goto 11, 3) := by decide +kernel
theorem dL_dig_15 : decode cL_dig 15 = .ok (.astore 5, 2) := by decide +kernel
theorem dL_dig_17 : decode cL_dig 17 = .ok (.iconst 1, 1) := by decide +kernel
theorem dL_dig_18 : decode cL_dig 18 = .ok (.ireturn, 1) := by decide +kernel
theorem dL_dig_19 : decode cL_dig 19 = .ok (.astore 5, 2) := by decide +kernel
theorem dL_dig_21 : decode cL_dig 21 = .ok (.iconst 2, 1) := by decide +kernel
theorem dL_dig_22 : decode cL_dig 22 = .ok (.ireturn, 1) := by decide +kernel
theorem dL_dig_23 : decode cL_dig 23 = .ok (.iconst 0, 1) := by decide +kernel
theorem dL_dig_24 : decode cL_dig 24 = .ok (.ireturn, 1) := by decide +kernel
theorem dL_sink_0 : decode cL_sink 0 = .ok (.aload 4, 2) := by decide +kernel
theorem dL_sink_2 : decode cL_sink 2 = .ok (.iconst 0, 1) := by decide +kernel
theorem dL_sink_3 : decode cL_sink 3 = .ok (.aload_n 0, 1) := by decide +kernel
theorem dL_sink_4 : decode cL_sink 4 = .ok (.iload_n 1, 1) := by decide +kernel
theorem dL_sink_5 : decode cL_sink 5 = .ok (.iload_n 2, 1) := by decide +kernel
theorem dL_sink_6 : decode cL_sink 6 = .ok (.iload_n 3, 1) := by decide +kernel
theorem dL_sink_7 : decode cL_sink 7 = .ok (.invokevirtual 37, 3) := by decide +kernel
theorem dL_sink_10 : decode cL_sink 10 = .ok (.i2l, 1) := by decide +kernel
theorem dL_sink_11 : decode cL_sink 11 = .ok (.lastore, 1) := by decide +kernel
theorem dL_sink_12 : decode cL_sink 12 = .ok (.goto 11, 3) := by decide +kernel
theorem dL_sink_15 : decode cL_sink 15 = .ok (.astore 5, 2) := by decide +kernel
theorem dL_sink_17 : decode cL_sink 17 = .ok (.iconst 1, 1) := by decide +kernel
theorem dL_sink_18 : decode cL_sink 18 = .ok (.ireturn, 1) := by decide +kernel
theorem dL_sink_19 : decode cL_sink 19 = .ok (.astore 5, 2) := by decide +kernel
theorem dL_sink_21 : decode cL_sink 21 = .ok (.iconst 2, 1) := by decide +kernel
theorem dL_sink_22 : decode cL_sink 22 = .ok (.ireturn, 1) := by decide +kernel
theorem dL_sink_23 : decode cL_sink 23 = .ok (.iconst 0, 1) := by decide +kernel
theorem dL_sink_24 : decode cL_sink 24 = .ok (.ireturn, 1) := by decide +kernel
theorem dL_prop_0 : decode cL_prop 0 = .ok (.aload_n 0, 1) := by decide +kernel
theorem dL_prop_1 : decode cL_prop 1 = .ok (.iload_n 1, 1) := by decide +kernel
theorem dL_prop_2 : decode cL_prop 2 = .ok (.iload_n 2, 1) := by decide +kernel
theorem dL_prop_3 : decode cL_prop 3 = .ok (.iload_n 3, 1) := by decide +kernel
theorem dL_prop_4 : decode cL_prop 4 = .ok (.invokevirtual 40, 3) := by decide +kernel
theorem dL_prop_7 : decode cL_prop 7 = .ok (.goto 11, 3) := by decide +kernel
theorem dL_prop_10 : decode cL_prop 10 = .ok (.astore 4, 2) := by decide +kernel
theorem dL_prop_12 : decode cL_prop 12 = .ok (.iconst 1, 1) := by decide +kernel
theorem dL_prop_13 : decode cL_prop 13 = .ok (.ireturn, 1) := by decide +kernel
theorem dL_prop_14 : decode cL_prop 14 = .ok (.astore 4, 2) := by decide +kernel
theorem dL_prop_16 : decode cL_prop 16 = .ok (.iconst 2, 1) := by decide +kernel
theorem dL_prop_17 : decode cL_prop 17 = .ok (.ireturn, 1) := by decide +kernel
theorem dL_prop_18 : decode cL_prop 18 = .ok (.iconst 0, 1) := by decide +kernel
theorem dL_prop_19 : decode cL_prop 19 = .ok (.ireturn, 1) := by decide +kernel
theorem dL_trap_0 : decode cL_trap 0 = .ok (.aload 4, 2) := by decide +kernel
theorem dL_trap_2 : decode cL_trap 2 = .ok (.iconst 0, 1) := by decide +kernel
theorem dL_trap_3 : decode cL_trap 3 = .ok (.aload_n 0, 1) := by decide +kernel
theorem dL_trap_4 : decode cL_trap 4 = .ok (.iload_n 1, 1) := by decide +kernel
theorem dL_trap_5 : decode cL_trap 5 = .ok (.iload_n 2, 1) := by decide +kernel
theorem dL_trap_6 : decode cL_trap 6 = .ok (.iload_n 3, 1) := by decide +kernel
theorem dL_trap_7 : decode cL_trap 7 = .ok (.invokevirtual 43, 3) := by decide +kernel
theorem dL_trap_10 : decode cL_trap 10 = .ok (.i2l, 1) := by decide +kernel
theorem dL_trap_11 : decode cL_trap 11 = .ok (.lastore, 1) := by decide +kernel
theorem dL_trap_12 : decode cL_trap 12 = .ok (.goto 11, 3) := by decide +kernel
theorem dL_trap_15 : decode cL_trap 15 = .ok (.astore 5, 2) := by decide +kernel
theorem dL_trap_17 : decode cL_trap 17 = .ok (.iconst 1, 1) := by decide +kernel
theorem dL_trap_18 : decode cL_trap 18 = .ok (.ireturn, 1) := by decide +kernel
theorem dL_trap_19 : decode cL_trap 19 = .ok (.astore 5, 2) := by decide +kernel
theorem dL_trap_21 : decode cL_trap 21 = .ok (.iconst 2, 1) := by decide +kernel
theorem dL_trap_22 : decode cL_trap 22 = .ok (.ireturn, 1) := by decide +kernel
theorem dL_trap_23 : decode cL_trap 23 = .ok (.iconst 0, 1) := by decide +kernel
theorem dL_trap_24 : decode cL_trap 24 = .ok (.ireturn, 1) := by decide +kernel
theorem dL_rat_0 : decode cL_rat 0 = .ok (.aload_n 3, 1) := by decide +kernel
theorem dL_rat_1 : decode cL_rat 1 = .ok (.iconst 0, 1) := by decide +kernel
theorem dL_rat_2 : decode cL_rat 2 = .ok (.aload_n 0, 1) := by decide +kernel
theorem dL_rat_3 : decode cL_rat 3 = .ok (.iload_n 1, 1) := by decide +kernel
theorem dL_rat_4 : decode cL_rat 4 = .ok (.iload_n 2, 1) := by decide +kernel
theorem dL_rat_5 : decode cL_rat 5 = .ok (.invokevirtual 46, 3) := by decide +kernel
theorem dL_rat_8 : decode cL_rat 8 = .ok (.i2l, 1) := by decide +kernel
theorem dL_rat_9 : decode cL_rat 9 = .ok (.lastore, 1) := by decide +kernel
theorem dL_rat_10 : decode cL_rat 10 = .ok (.goto 11, 3) := by decide +kernel
theorem dL_rat_13 : decode cL_rat 13 = .ok (.astore 4, 2) := by decide +kernel
theorem dL_rat_15 : decode cL_rat 15 = .ok (.iconst 1, 1) := by decide +kernel
theorem dL_rat_16 : decode cL_rat 16 = .ok (.ireturn, 1) := by decide +kernel
theorem dL_rat_17 : decode cL_rat 17 = .ok (.astore 4, 2) := by decide +kernel
theorem dL_rat_19 : decode cL_rat 19 = .ok (.iconst 2, 1) := by decide +kernel
theorem dL_rat_20 : decode cL_rat 20 = .ok (.ireturn, 1) := by decide +kernel
theorem dL_rat_21 : decode cL_rat 21 = .ok (.iconst 0, 1) := by decide +kernel
theorem dL_rat_22 : decode cL_rat 22 = .ok (.ireturn, 1) := by decide +kernel
theorem dL_divide_0 : decode cL_divide 0 = .ok (.aload_n 2, 1) := by decide +kernel
theorem dL_divide_1 : decode cL_divide 1 = .ok (.iconst 0, 1) := by decide +kernel
theorem dL_divide_2 : decode cL_divide 2 = .ok (.aload_n 0, 1) := by decide +kernel
theorem dL_divide_3 : decode cL_divide 3 = .ok (.iload_n 1, 1) := by decide +kernel
theorem dL_divide_4 : decode cL_divide 4 = .ok (.invokevirtual 50, 3) := by decide +kernel
theorem dL_divide_7 : decode cL_divide 7 = .ok (.i2l, 1) := by decide +kernel
theorem dL_divide_8 : decode cL_divide 8 = .ok (.lastore, 1) := by decide +kernel
theorem dL_divide_9 : decode cL_divide 9 = .ok (.goto 9, 3) := by decide +kernel
theorem dL_divide_12 : decode cL_divide 12 = .ok (.astore_n 3, 1) := by decide +kernel
theorem dL_divide_13 : decode cL_divide 13 = .ok (.iconst 1, 1) := by decide +kernel
theorem dL_divide_14 : decode cL_divide 14 = .ok (.ireturn, 1) := by decide +kernel
theorem dL_divide_15 : decode cL_divide 15 = .ok (.astore_n 3, 1) := by decide +kernel
theorem dL_divide_16 : decode cL_divide 16 = .ok (.iconst 2, 1) := by decide +kernel
theorem dL_divide_17 : decode cL_divide 17 = .ok (.ireturn, 1) := by decide +kernel
theorem dL_divide_18 : decode cL_divide 18 = .ok (.iconst 0, 1) := by decide +kernel
theorem dL_divide_19 : decode cL_divide 19 = .ok (.ireturn, 1) := by decide +kernel
theorem dL_rub_0 : decode cL_rub 0 = .ok (.aload_n 2, 1) := by decide +kernel
theorem dL_rub_1 : decode cL_rub 1 = .ok (.iconst 0, 1) := by decide +kernel
theorem dL_rub_2 : decode cL_rub 2 = .ok (.aload_n 0, 1) := by decide +kernel
theorem dL_rub_3 : decode cL_rub 3 = .ok (.iload_n 1, 1) := by decide +kernel
theorem dL_rub_4 : decode cL_rub 4 = .ok (.invokevirtual 53, 3) := by decide +kernel
theorem dL_rub_7 : decode cL_rub 7 = .ok (.i2l, 1) := by decide +kernel
theorem dL_rub_8 : decode cL_rub 8 = .ok (.lastore, 1) := by decide +kernel
theorem dL_rub_9 : decode cL_rub 9 = .ok (.goto 9, 3) := by decide +kernel
theorem dL_rub_12 : decode cL_rub 12 = .ok (.astore_n 3, 1) := by decide +kernel
theorem dL_rub_13 : decode cL_rub 13 = .ok (.iconst 1, 1) := by decide +kernel
theorem dL_rub_14 : decode cL_rub 14 = .ok (.ireturn, 1) := by decide +kernel
theorem dL_rub_15 : decode cL_rub 15 = .ok (.astore_n 3, 1) := by decide +kernel
theorem dL_rub_16 : decode cL_rub 16 = .ok (.iconst 2, 1) := by decide +kernel
theorem dL_rub_17 : decode cL_rub 17 = .ok (.ireturn, 1) := by decide +kernel
theorem dL_rub_18 : decode cL_rub 18 = .ok (.iconst 0, 1) := by decide +kernel
theorem dL_rub_19 : decode cL_rub 19 = .ok (.ireturn, 1) := by decide +kernel
theorem dL_bid_0 : decode cL_bid 0 = .ok (.aload 4, 2) := by decide +kernel
theorem dL_bid_2 : decode cL_bid 2 = .ok (.iconst 0, 1) := by decide +kernel
theorem dL_bid_3 : decode cL_bid 3 = .ok (.aload_n 0, 1) := by decide +kernel
theorem dL_bid_4 : decode cL_bid 4 = .ok (.iload_n 1, 1) := by decide +kernel
theorem dL_bid_5 : decode cL_bid 5 = .ok (.iload_n 2, 1) := by decide +kernel
theorem dL_bid_6 : decode cL_bid 6 = .ok (.iload_n 3, 1) := by decide +kernel
theorem dL_bid_7 : decode cL_bid 7 = .ok (.invokevirtual 56, 3) := by decide +kernel
theorem dL_bid_10 : decode cL_bid 10 = .ok (.i2l, 1) := by decide +kernel
theorem dL_bid_11 : decode cL_bid 11 = .ok (.lastore, 1) := by decide +kernel
theorem dL_bid_12 : decode cL_bid 12 = .ok (.goto 15, 3) := by decide +kernel
theorem dL_bid_15 : decode cL_bid 15 = .ok (.astore 5, 2) := by decide +kernel
theorem dL_bid_17 : decode cL_bid 17 = .ok (.iconst 1, 1) := by decide +kernel
theorem dL_bid_18 : decode cL_bid 18 = .ok (.ireturn, 1) := by decide +kernel
theorem dL_bid_19 : decode cL_bid 19 = .ok (.astore 5, 2) := by decide +kernel
theorem dL_bid_21 : decode cL_bid 21 = .ok (.iconst 2, 1) := by decide +kernel
theorem dL_bid_22 : decode cL_bid 22 = .ok (.ireturn, 1) := by decide +kernel
theorem dL_bid_23 : decode cL_bid 23 = .ok (.astore 5, 2) := by decide +kernel
theorem dL_bid_25 : decode cL_bid 25 = .ok (.iconst 3, 1) := by decide +kernel
theorem dL_bid_26 : decode cL_bid 26 = .ok (.ireturn, 1) := by decide +kernel
theorem dL_bid_27 : decode cL_bid 27 = .ok (.iconst 0, 1) := by decide +kernel
theorem dL_bid_28 : decode cL_bid 28 = .ok (.ireturn, 1) := by decide +kernel
theorem dL_sell_0 : decode cL_sell 0 = .ok (.aload_n 2, 1) := by decide +kernel
theorem dL_sell_1 : decode cL_sell 1 = .ok (.iconst 0, 1) := by decide +kernel
theorem dL_sell_2 : decode cL_sell 2 = .ok (.aload_n 0, 1) := by decide +kernel
theorem dL_sell_3 : decode cL_sell 3 = .ok (.iload_n 1, 1) := by decide +kernel
theorem dL_sell_4 : decode cL_sell 4 = .ok (.invokevirtual 59, 3) := by decide +kernel
theorem dL_sell_7 : decode cL_sell 7 = .ok (.i2l, 1) := by decide +kernel
theorem dL_sell_8 : decode cL_sell 8 = .ok (.lastore, 1) := by decide +kernel
theorem dL_sell_9 : decode cL_sell 9 = .ok (.goto 9, 3) := by decide +kernel
theorem dL_sell_12 : decode cL_sell 12 = .ok (.astore_n 3, 1) := by decide +kernel
theorem dL_sell_13 : decode cL_sell 13 = .ok (.iconst 1, 1) := by decide +kernel
theorem dL_sell_14 : decode cL_sell 14 = .ok (.ireturn, 1) := by decide +kernel
theorem dL_sell_15 : decode cL_sell 15 = .ok (.astore_n 3, 1) := by decide +kernel
theorem dL_sell_16 : decode cL_sell 16 = .ok (.iconst 2, 1) := by decide +kernel
theorem dL_sell_17 : decode cL_sell 17 = .ok (.ireturn, 1) := by decide +kernel
theorem dL_sell_18 : decode cL_sell 18 = .ok (.iconst 0, 1) := by decide +kernel
theorem dL_sell_19 : decode cL_sell 19 = .ok (.ireturn, 1) := by decide +kernel
theorem dL_bore_0 : decode cL_bore 0 = .ok (.aload_n 2, 1) := by decide +kernel
theorem dL_bore_1 : decode cL_bore 1 = .ok (.iconst 0, 1) := by decide +kernel
theorem dL_bore_2 : decode cL_bore 2 = .ok (.aload_n 0, 1) := by decide +kernel
theorem dL_bore_3 : decode cL_bore 3 = .ok (.iload_n 1, 1) := by decide +kernel
theorem dL_bore_4 : decode cL_bore 4 = .ok (.invokevirtual 62, 3) := by decide +kernel
theorem dL_bore_7 : decode cL_bore 7 = .ok (.i2l, 1) := by decide +kernel
theorem dL_bore_8 : decode cL_bore 8 = .ok (.lastore, 1) := by decide +kernel
theorem dL_bore_9 : decode cL_bore 9 = .ok (.goto 6, 3) := by decide +kernel
theorem dL_bore_12 : decode cL_bore 12 = .ok (.astore_n 3, 1) := by decide +kernel
theorem dL_bore_13 : decode cL_bore 13 = .ok (.iconst 1, 1) := by decide +kernel
theorem dL_bore_14 : decode cL_bore 14 = .ok (.ireturn, 1) := by decide +kernel
theorem dL_bore_15 : decode cL_bore 15 = .ok (.iconst 0, 1) := by decide +kernel
theorem dL_bore_16 : decode cL_bore 16 = .ok (.ireturn, 1) := by decide +kernel
theorem dL_ofCell_0 : decode cL_ofCell 0 = .ok (.aload_n 3, 1) := by decide +kernel
theorem dL_ofCell_1 : decode cL_ofCell 1 = .ok (.iconst 0, 1) := by decide +kernel
theorem dL_ofCell_2 : decode cL_ofCell 2 = .ok (.aload_n 0, 1) := by decide +kernel
theorem dL_ofCell_3 : decode cL_ofCell 3 = .ok (.iload_n 1, 1) := by decide +kernel
theorem dL_ofCell_4 : decode cL_ofCell 4 = .ok (.iload_n 2, 1) := by decide +kernel
theorem dL_ofCell_5 : decode cL_ofCell 5 = .ok (.invokevirtual 65, 3) := by decide +kernel
theorem dL_ofCell_8 : decode cL_ofCell 8 = .ok (.i2l, 1) := by decide +kernel
theorem dL_ofCell_9 : decode cL_ofCell 9 = .ok (.lastore, 1) := by decide +kernel
theorem dL_ofCell_10 : decode cL_ofCell 10 = .ok (.goto 11, 3) := by decide +kernel
theorem dL_ofCell_13 : decode cL_ofCell 13 = .ok (.astore 4, 2) := by decide +kernel
theorem dL_ofCell_15 : decode cL_ofCell 15 = .ok (.iconst 1, 1) := by decide +kernel
theorem dL_ofCell_16 : decode cL_ofCell 16 = .ok (.ireturn, 1) := by decide +kernel
theorem dL_ofCell_17 : decode cL_ofCell 17 = .ok (.astore 4, 2) := by decide +kernel
theorem dL_ofCell_19 : decode cL_ofCell 19 = .ok (.iconst 2, 1) := by decide +kernel
theorem dL_ofCell_20 : decode cL_ofCell 20 = .ok (.ireturn, 1) := by decide +kernel
theorem dL_ofCell_21 : decode cL_ofCell 21 = .ok (.iconst 0, 1) := by decide +kernel
theorem dL_ofCell_22 : decode cL_ofCell 22 = .ok (.ireturn, 1) := by decide +kernel
theorem dL_ofClaim_0 : decode cL_ofClaim 0 = .ok (.aload_n 3, 1) := by decide +kernel
theorem dL_ofClaim_1 : decode cL_ofClaim 1 = .ok (.iconst 0, 1) := by decide +kernel
theorem dL_ofClaim_2 : decode cL_ofClaim 2 = .ok (.aload_n 0, 1) := by decide +kernel
theorem dL_ofClaim_3 : decode cL_ofClaim 3 = .ok (.iload_n 1, 1) := by decide +kernel
theorem dL_ofClaim_4 : decode cL_ofClaim 4 = .ok (.iload_n 2, 1) := by decide +kernel
theorem dL_ofClaim_5 : decode cL_ofClaim 5 = .ok (.invokevirtual 68, 3) := by decide +kernel
theorem dL_ofClaim_8 : decode cL_ofClaim 8 = .ok (.i2l, 1) := by decide +kernel
theorem dL_ofClaim_9 : decode cL_ofClaim 9 = .ok (.lastore, 1) := by decide +kernel
theorem dL_ofClaim_10 : decode cL_ofClaim 10 = .ok (.goto 11, 3) := by decide +kernel
theorem dL_ofClaim_13 : decode cL_ofClaim 13 = .ok (.astore 4, 2) := by decide +kernel
theorem dL_ofClaim_15 : decode cL_ofClaim 15 = .ok (.iconst 1, 1) := by decide +kernel
theorem dL_ofClaim_16 : decode cL_ofClaim 16 = .ok (.ireturn, 1) := by decide +kernel
theorem dL_ofClaim_17 : decode cL_ofClaim 17 = .ok (.astore 4, 2) := by decide +kernel
theorem dL_ofClaim_19 : decode cL_ofClaim 19 = .ok (.iconst 2, 1) := by decide +kernel
theorem dL_ofClaim_20 : decode cL_ofClaim 20 = .ok (.ireturn, 1) := by decide +kernel
theorem dL_ofClaim_21 : decode cL_ofClaim 21 = .ok (.iconst 0, 1) := by decide +kernel
theorem dL_ofClaim_22 : decode cL_ofClaim 22 = .ok (.ireturn, 1) := by decide +kernel
theorem dL_share_0 : decode cL_share 0 = .ok (.aload_n 3, 1) := by decide +kernel
theorem dL_share_1 : decode cL_share 1 = .ok (.iconst 0, 1) := by decide +kernel
theorem dL_share_2 : decode cL_share 2 = .ok (.aload_n 0, 1) := by decide +kernel
theorem dL_share_3 : decode cL_share 3 = .ok (.iload_n 1, 1) := by decide +kernel
theorem dL_share_4 : decode cL_share 4 = .ok (.iload_n 2, 1) := by decide +kernel
theorem dL_share_5 : decode cL_share 5 = .ok (.invokevirtual 71, 3) := by decide +kernel
theorem dL_share_8 : decode cL_share 8 = .ok (.i2l, 1) := by decide +kernel
theorem dL_share_9 : decode cL_share 9 = .ok (.lastore, 1) := by decide +kernel
theorem dL_share_10 : decode cL_share 10 = .ok (.goto 7, 3) := by decide +kernel
theorem dL_share_13 : decode cL_share 13 = .ok (.astore 4, 2) := by decide +kernel
theorem dL_share_15 : decode cL_share 15 = .ok (.iconst 1, 1) := by decide +kernel
theorem dL_share_16 : decode cL_share 16 = .ok (.ireturn, 1) := by decide +kernel
theorem dL_share_17 : decode cL_share 17 = .ok (.iconst 0, 1) := by decide +kernel
theorem dL_share_18 : decode cL_share 18 = .ok (.ireturn, 1) := by decide +kernel
theorem dL_verdict_0 : decode cL_verdict 0 = .ok (.aload_n 3, 1) := by decide +kernel
theorem dL_verdict_1 : decode cL_verdict 1 = .ok (.iconst 0, 1) := by decide +kernel
theorem dL_verdict_2 : decode cL_verdict 2 = .ok (.aload_n 0, 1) := by decide +kernel
theorem dL_verdict_3 : decode cL_verdict 3 = .ok (.iload_n 1, 1) := by decide +kernel
theorem dL_verdict_4 : decode cL_verdict 4 = .ok (.iload_n 2, 1) := by decide +kernel
theorem dL_verdict_5 : decode cL_verdict 5 = .ok (.invokevirtual 74, 3) := by decide +kernel
theorem dL_verdict_8 : decode cL_verdict 8 = .ok (.i2l, 1) := by decide +kernel
theorem dL_verdict_9 : decode cL_verdict 9 = .ok (.lastore, 1) := by decide +kernel
theorem dL_verdict_10 : decode cL_verdict 10 = .ok (.goto 11, 3) := by decide +kernel
theorem dL_verdict_13 : decode cL_verdict 13 = .ok (.astore 4, 2) := by decide +kernel
theorem dL_verdict_15 : decode cL_verdict 15 = .ok (.iconst 1, 1) := by decide +kernel
theorem dL_verdict_16 : decode cL_verdict 16 = .ok (.ireturn, 1) := by decide +kernel
theorem dL_verdict_17 : decode cL_verdict 17 = .ok (.astore 4, 2) := by decide +kernel
theorem dL_verdict_19 : decode cL_verdict 19 = .ok (.iconst 2, 1) := by decide +kernel
theorem dL_verdict_20 : decode cL_verdict 20 = .ok (.ireturn, 1) := by decide +kernel
theorem dL_verdict_21 : decode cL_verdict 21 = .ok (.iconst 0, 1) := by decide +kernel
theorem dL_verdict_22 : decode cL_verdict 22 = .ok (.ireturn, 1) := by decide +kernel
theorem dL_ofPerson_0 : decode cL_ofPerson 0 = .ok (.aload_n 3, 1) := by decide +kernel
theorem dL_ofPerson_1 : decode cL_ofPerson 1 = .ok (.iconst 0, 1) := by decide +kernel
theorem dL_ofPerson_2 : decode cL_ofPerson 2 = .ok (.aload_n 0, 1) := by decide +kernel
theorem dL_ofPerson_3 : decode cL_ofPerson 3 = .ok (.iload_n 1, 1) := by decide +kernel
theorem dL_ofPerson_4 : decode cL_ofPerson 4 = .ok (.iload_n 2, 1) := by decide +kernel
theorem dL_ofPerson_5 : decode cL_ofPerson 5 = .ok (.invokevirtual 77, 3) := by decide +kernel
theorem dL_ofPerson_8 : decode cL_ofPerson 8 = .ok (.i2l, 1) := by decide +kernel
theorem dL_ofPerson_9 : decode cL_ofPerson 9 = .ok (.lastore, 1) := by decide +kernel
theorem dL_ofPerson_10 : decode cL_ofPerson 10 = .ok (.goto 11, 3) := by decide +kernel
theorem dL_ofPerson_13 : decode cL_ofPerson 13 = .ok (.astore 4, 2) := by decide +kernel
theorem dL_ofPerson_15 : decode cL_ofPerson 15 = .ok (.iconst 1, 1) := by decide +kernel
theorem dL_ofPerson_16 : decode cL_ofPerson 16 = .ok (.ireturn, 1) := by decide +kernel
theorem dL_ofPerson_17 : decode cL_ofPerson 17 = .ok (.astore 4, 2) := by decide +kernel
theorem dL_ofPerson_19 : decode cL_ofPerson 19 = .ok (.iconst 2, 1) := by decide +kernel
theorem dL_ofPerson_20 : decode cL_ofPerson 20 = .ok (.ireturn, 1) := by decide +kernel
theorem dL_ofPerson_21 : decode cL_ofPerson 21 = .ok (.iconst 0, 1) := by decide +kernel
theorem dL_ofPerson_22 : decode cL_ofPerson 22 = .ok (.ireturn, 1) := by decide +kernel
theorem dL_ofStone_0 : decode cL_ofStone 0 = .ok (.aload_n 3, 1) := by decide +kernel
theorem dL_ofStone_1 : decode cL_ofStone 1 = .ok (.iconst 0, 1) := by decide +kernel
theorem dL_ofStone_2 : decode cL_ofStone 2 = .ok (.aload_n 0, 1) := by decide +kernel
theorem dL_ofStone_3 : decode cL_ofStone 3 = .ok (.iload_n 1, 1) := by decide +kernel
theorem dL_ofStone_4 : decode cL_ofStone 4 = .ok (.iload_n 2, 1) := by decide +kernel
theorem dL_ofStone_5 : decode cL_ofStone 5 = .ok (.invokevirtual 80, 3) := by decide +kernel
theorem dL_ofStone_8 : decode cL_ofStone 8 = .ok (.i2l, 1) := by decide +kernel
theorem dL_ofStone_9 : decode cL_ofStone 9 = .ok (.lastore, 1) := by decide +kernel
theorem dL_ofStone_10 : decode cL_ofStone 10 = .ok (.goto 11, 3) := by decide +kernel
theorem dL_ofStone_13 : decode cL_ofStone 13 = .ok (.astore 4, 2) := by decide +kernel
theorem dL_ofStone_15 : decode cL_ofStone 15 = .ok (.iconst 1, 1) := by decide +kernel
theorem dL_ofStone_16 : decode cL_ofStone 16 = .ok (.ireturn, 1) := by decide +kernel
theorem dL_ofStone_17 : decode cL_ofStone 17 = .ok (.astore 4, 2) := by decide +kernel
theorem dL_ofStone_19 : decode cL_ofStone 19 = .ok (.iconst 2, 1) := by decide +kernel
theorem dL_ofStone_20 : decode cL_ofStone 20 = .ok (.ireturn, 1) := by decide +kernel
theorem dL_ofStone_21 : decode cL_ofStone 21 = .ok (.iconst 0, 1) := by decide +kernel
theorem dL_ofStone_22 : decode cL_ofStone 22 = .ok (.ireturn, 1) := by decide +kernel
theorem dL_purse_0 : decode cL_purse 0 = .ok (.aload_n 2, 1) := by decide +kernel
theorem dL_purse_1 : decode cL_purse 1 = .ok (.iconst 0, 1) := by decide +kernel
theorem dL_purse_2 : decode cL_purse 2 = .ok (.aload_n 0, 1) := by decide +kernel
theorem dL_purse_3 : decode cL_purse 3 = .ok (.iload_n 1, 1) := by decide +kernel
theorem dL_purse_4 : decode cL_purse 4 = .ok (.invokevirtual 83, 3) := by decide +kernel
theorem dL_purse_7 : decode cL_purse 7 = .ok (.i2l, 1) := by decide +kernel
theorem dL_purse_8 : decode cL_purse 8 = .ok (.lastore, 1) := by decide +kernel
theorem dL_purse_9 : decode cL_purse 9 = .ok (.goto 6, 3) := by decide +kernel
theorem dL_purse_12 : decode cL_purse 12 = .ok (.astore_n 3, 1) := by decide +kernel
theorem dL_purse_13 : decode cL_purse 13 = .ok (.iconst 1, 1) := by decide +kernel
theorem dL_purse_14 : decode cL_purse 14 = .ok (.ireturn, 1) := by decide +kernel
theorem dL_purse_15 : decode cL_purse 15 = .ok (.iconst 0, 1) := by decide +kernel
theorem dL_purse_16 : decode cL_purse 16 = .ok (.ireturn, 1) := by decide +kernel
theorem dL_carats_0 : decode cL_carats 0 = .ok (.aload_n 2, 1) := by decide +kernel
theorem dL_carats_1 : decode cL_carats 1 = .ok (.iconst 0, 1) := by decide +kernel
theorem dL_carats_2 : decode cL_carats 2 = .ok (.aload_n 0, 1) := by decide +kernel
theorem dL_carats_3 : decode cL_carats 3 = .ok (.iload_n 1, 1) := by decide +kernel
theorem dL_carats_4 : decode cL_carats 4 = .ok (.invokevirtual 86, 3) := by decide +kernel
theorem dL_carats_7 : decode cL_carats 7 = .ok (.i2l, 1) := by decide +kernel
theorem dL_carats_8 : decode cL_carats 8 = .ok (.lastore, 1) := by decide +kernel
theorem dL_carats_9 : decode cL_carats 9 = .ok (.goto 6, 3) := by decide +kernel
theorem dL_carats_12 : decode cL_carats 12 = .ok (.astore_n 3, 1) := by decide +kernel
theorem dL_carats_13 : decode cL_carats 13 = .ok (.iconst 1, 1) := by decide +kernel
theorem dL_carats_14 : decode cL_carats 14 = .ok (.ireturn, 1) := by decide +kernel
theorem dL_carats_15 : decode cL_carats 15 = .ok (.iconst 0, 1) := by decide +kernel
theorem dL_carats_16 : decode cL_carats 16 = .ok (.ireturn, 1) := by decide +kernel
theorem dL_plan_0 : decode cL_plan 0 = .ok (.aload_n 3, 1) := by decide +kernel
theorem dL_plan_1 : decode cL_plan 1 = .ok (.iconst 0, 1) := by decide +kernel
theorem dL_plan_2 : decode cL_plan 2 = .ok (.aload_n 0, 1) := by decide +kernel
theorem dL_plan_3 : decode cL_plan 3 = .ok (.iload_n 1, 1) := by decide +kernel
theorem dL_plan_4 : decode cL_plan 4 = .ok (.iload_n 2, 1) := by decide +kernel
theorem dL_plan_5 : decode cL_plan 5 = .ok (.invokevirtual 89, 3) := by decide +kernel
theorem dL_plan_8 : decode cL_plan 8 = .ok (.i2l, 1) := by decide +kernel
theorem dL_plan_9 : decode cL_plan 9 = .ok (.lastore, 1) := by decide +kernel
theorem dL_plan_10 : decode cL_plan 10 = .ok (.goto 11, 3) := by decide +kernel
theorem dL_plan_13 : decode cL_plan 13 = .ok (.astore 4, 2) := by decide +kernel
theorem dL_plan_15 : decode cL_plan 15 = .ok (.iconst 1, 1) := by decide +kernel
theorem dL_plan_16 : decode cL_plan 16 = .ok (.ireturn, 1) := by decide +kernel
theorem dL_plan_17 : decode cL_plan 17 = .ok (.astore 4, 2) := by decide +kernel
theorem dL_plan_19 : decode cL_plan 19 = .ok (.iconst 2, 1) := by decide +kernel
theorem dL_plan_20 : decode cL_plan 20 = .ok (.ireturn, 1) := by decide +kernel
theorem dL_plan_21 : decode cL_plan 21 = .ok (.iconst 0, 1) := by decide +kernel
theorem dL_plan_22 : decode cL_plan 22 = .ok (.ireturn, 1) := by decide +kernel
theorem dL_planAnew_0 : decode cL_planAnew 0 = .ok (.aload_n 3, 1) := by decide +kernel
theorem dL_planAnew_1 : decode cL_planAnew 1 = .ok (.iconst 0, 1) := by decide +kernel
theorem dL_planAnew_2 : decode cL_planAnew 2 = .ok (.aload_n 0, 1) := by decide +kernel
theorem dL_planAnew_3 : decode cL_planAnew 3 = .ok (.iload_n 1, 1) := by decide +kernel
theorem dL_planAnew_4 : decode cL_planAnew 4 = .ok (.iload_n 2, 1) := by decide +kernel
theorem dL_planAnew_5 : decode cL_planAnew 5 = .ok (.invokevirtual 92, 3) := by decide +kernel
theorem dL_planAnew_8 : decode cL_planAnew 8 = .ok (.i2l, 1) := by decide +kernel
theorem dL_planAnew_9 : decode cL_planAnew 9 = .ok (.lastore, 1) := by decide +kernel
theorem dL_planAnew_10 : decode cL_planAnew 10 = .ok (.goto 11, 3) := by decide +kernel
theorem dL_planAnew_13 : decode cL_planAnew 13 = .ok (.astore 4, 2) := by decide +kernel
theorem dL_planAnew_15 : decode cL_planAnew 15 = .ok (.iconst 1, 1) := by decide +kernel
theorem dL_planAnew_16 : decode cL_planAnew 16 = .ok (.ireturn, 1) := by decide +kernel
theorem dL_planAnew_17 : decode cL_planAnew 17 = .ok (.astore 4, 2) := by decide +kernel
theorem dL_planAnew_19 : decode cL_planAnew 19 = .ok (.iconst 2, 1) := by decide +kernel
theorem dL_planAnew_20 : decode cL_planAnew 20 = .ok (.ireturn, 1) := by decide +kernel
theorem dL_planAnew_21 : decode cL_planAnew 21 = .ok (.iconst 0, 1) := by decide +kernel
theorem dL_planAnew_22 : decode cL_planAnew 22 = .ok (.ireturn, 1) := by decide +kernel
theorem dL_law_0 : decode cL_law 0 = .ok (.new 8, 3) := by decide +kernel
theorem dL_law_3 : decode cL_law 3 = .ok (.dup, 1) := by decide +kernel
theorem dL_law_4 : decode cL_law 4 = .ok (.invokespecial 95, 3) := by decide +kernel
theorem dL_law_7 : decode cL_law 7 = .ok (.astore_n 1, 1) := by decide +kernel
theorem dL_law_8 : decode cL_law 8 = .ok (.new 96, 3) := by decide +kernel
theorem dL_law_11 : decode cL_law 11 = .ok (.dup, 1) := by decide +kernel
theorem dL_law_12 : decode cL_law 12 = .ok (.invokespecial 98, 3) := by decide +kernel
theorem dL_law_15 : decode cL_law 15 = .ok (.astore_n 2, 1) := by decide +kernel
theorem dL_law_16 : decode cL_law 16 = .ok (.iconst 1, 1) := by decide +kernel
theorem dL_law_17 : decode cL_law 17 = .ok (.newarray .long, 2) := by decide +kernel
theorem dL_law_19 : decode cL_law 19 = .ok (.astore_n 3, 1) := by decide +kernel
theorem dL_law_20 : decode cL_law 20 = .ok (.iconst 0, 1) := by decide +kernel
theorem dL_law_21 : decode cL_law 21 = .ok (.istore 4, 2) := by decide +kernel
theorem dL_law_23 : decode cL_law 23 = .ok (.iload 4, 2) := by decide +kernel
theorem dL_law_25 : decode cL_law 25 = .ok (.aload_n 0, 1) := by decide +kernel
theorem dL_law_26 : decode cL_law 26 = .ok (.arraylength, 1) := by decide +kernel
theorem dL_law_27 : decode cL_law 27 = .ok (.iconst 5, 1) := by decide +kernel
theorem dL_law_28 : decode cL_law 28 = .ok (.isub, 1) := by decide +kernel
theorem dL_law_29 : decode cL_law 29 = .ok (.if_icmp .gt 1842, 3) := by decide +kernel
theorem dL_law_32 : decode cL_law 32 = .ok (.aload_n 0, 1) := by decide +kernel
theorem dL_law_33 : decode cL_law 33 = .ok (.iload 4, 2) := by decide +kernel
theorem dL_law_35 : decode cL_law 35 = .ok (.iaload, 1) := by decide +kernel
theorem dL_law_36 : decode cL_law 36 = .ok (.bipush 31, 2) := by decide +kernel
theorem dL_law_38 : decode cL_law 38 = .ok (.iand, 1) := by decide +kernel
theorem dL_law_39 : decode cL_law 39 = .ok (.tableswitch 1826 0 25 #[117, 177, 233, 325, 405, 485, 565, 645, 705, 785, 853, 909, 965, 1045, 1101, 1114, 1170, 1238, 1306, 1374, 1442, 1510, 1578, 1634, 1690, 1758], 117) := by decide +kernel
theorem dL_law_156 : decode cL_law 156 = .ok (.aload_n 1, 1) := by decide +kernel
theorem dL_law_157 : decode cL_law 157 = .ok (.aload_n 0, 1) := by decide +kernel
theorem dL_law_158 : decode cL_law 158 = .ok (.iload 4, 2) := by decide +kernel
theorem dL_law_160 : decode cL_law 160 = .ok (.iconst 1, 1) := by decide +kernel
theorem dL_law_161 : decode cL_law 161 = .ok (.iadd, 1) := by decide +kernel
theorem dL_law_162 : decode cL_law 162 = .ok (.iaload, 1) := by decide +kernel
theorem dL_law_163 : decode cL_law 163 = .ok (.aload_n 0, 1) := by decide +kernel
theorem dL_law_164 : decode cL_law 164 = .ok (.iload 4, 2) := by decide +kernel
theorem dL_law_166 : decode cL_law 166 = .ok (.iconst 2, 1) := by decide +kernel
theorem dL_law_167 : decode cL_law 167 = .ok (.iadd, 1) := by decide +kernel
theorem dL_law_168 : decode cL_law 168 = .ok (.iaload, 1) := by decide +kernel
theorem dL_law_169 : decode cL_law 169 = .ok (.aload_n 0, 1) := by decide +kernel
theorem dL_law_170 : decode cL_law 170 = .ok (.iload 4, 2) := by decide +kernel
theorem dL_law_172 : decode cL_law 172 = .ok (.iconst 3, 1) := by decide +kernel
theorem dL_law_173 : decode cL_law 173 = .ok (.iadd, 1) := by decide +kernel
theorem dL_law_174 : decode cL_law 174 = .ok (.iaload, 1) := by decide +kernel
theorem dL_law_175 : decode cL_law 175 = .ok (.invokestatic 99, 3) := by decide +kernel
theorem dL_law_178 : decode cL_law 178 = .ok (.istore 5, 2) := by decide +kernel
theorem dL_law_180 : decode cL_law 180 = .ok (.aload_n 2, 1) := by decide +kernel
theorem dL_law_181 : decode cL_law 181 = .ok (.aload_n 0, 1) := by decide +kernel
theorem dL_law_182 : decode cL_law 182 = .ok (.iload 4, 2) := by decide +kernel
theorem dL_law_184 : decode cL_law 184 = .ok (.iconst 1, 1) := by decide +kernel
theorem dL_law_185 : decode cL_law 185 = .ok (.iadd, 1) := by decide +kernel
theorem dL_law_186 : decode cL_law 186 = .ok (.iaload, 1) := by decide +kernel
theorem dL_law_187 : decode cL_law 187 = .ok (.aload_n 0, 1) := by decide +kernel
theorem dL_law_188 : decode cL_law 188 = .ok (.iload 4, 2) := by decide +kernel
theorem dL_law_190 : decode cL_law 190 = .ok (.iconst 2, 1) := by decide +kernel
theorem dL_law_191 : decode cL_law 191 = .ok (.iadd, 1) := by decide +kernel
theorem dL_law_192 : decode cL_law 192 = .ok (.iaload, 1) := by decide +kernel
theorem dL_law_193 : decode cL_law 193 = .ok (.aload_n 0, 1) := by decide +kernel
theorem dL_law_194 : decode cL_law 194 = .ok (.iload 4, 2) := by decide +kernel
theorem dL_law_196 : decode cL_law 196 = .ok (.iconst 3, 1) := by decide +kernel
theorem dL_law_197 : decode cL_law 197 = .ok (.iadd, 1) := by decide +kernel
theorem dL_law_198 : decode cL_law 198 = .ok (.iaload, 1) := by decide +kernel
theorem dL_law_199 : decode cL_law 199 = .ok (.invokevirtual 104, 3) := by decide +kernel
theorem dL_law_202 : decode cL_law 202 = .ok (.aload_n 2, 1) := by decide +kernel
theorem dL_law_203 : decode cL_law 203 = .ok (.invokevirtual 105, 3) := by decide +kernel
theorem dL_law_206 : decode cL_law 206 = .ok (.iload 5, 2) := by decide +kernel
theorem dL_law_208 : decode cL_law 208 = .ok (.if_icmp .eq 5, 3) := by decide +kernel
theorem dL_law_211 : decode cL_law 211 = .ok (.iconst 0, 1) := by decide +kernel
theorem dL_law_212 : decode cL_law 212 = .ok (.ireturn, 1) := by decide +kernel
theorem dL_law_213 : decode cL_law 213 = .ok (.goto 1652, 3) := by decide +kernel
theorem dL_law_216 : decode cL_law 216 = .ok (.aload_n 1, 1) := by decide +kernel
theorem dL_law_217 : decode cL_law 217 = .ok (.aload_n 0, 1) := by decide +kernel
theorem dL_law_218 : decode cL_law 218 = .ok (.iload 4, 2) := by decide +kernel
theorem dL_law_220 : decode cL_law 220 = .ok (.iconst 1, 1) := by decide +kernel
theorem dL_law_221 : decode cL_law 221 = .ok (.iadd, 1) := by decide +kernel
theorem dL_law_222 : decode cL_law 222 = .ok (.iaload, 1) := by decide +kernel
theorem dL_law_223 : decode cL_law 223 = .ok (.aload_n 3, 1) := by decide +kernel
theorem dL_law_224 : decode cL_law 224 = .ok (.invokestatic 109, 3) := by decide +kernel
theorem dL_law_227 : decode cL_law 227 = .ok (.istore 5, 2) := by decide +kernel
theorem dL_law_229 : decode cL_law 229 = .ok (.aload_n 2, 1) := by decide +kernel
theorem dL_law_230 : decode cL_law 230 = .ok (.aload_n 0, 1) := by decide +kernel
theorem dL_law_231 : decode cL_law 231 = .ok (.iload 4, 2) := by decide +kernel
theorem dL_law_233 : decode cL_law 233 = .ok (.iconst 1, 1) := by decide +kernel
theorem dL_law_234 : decode cL_law 234 = .ok (.iadd, 1) := by decide +kernel
theorem dL_law_235 : decode cL_law 235 = .ok (.iaload, 1) := by decide +kernel
theorem dL_law_236 : decode cL_law 236 = .ok (.invokevirtual 112, 3) := by decide +kernel
theorem dL_law_239 : decode cL_law 239 = .ok (.istore 6, 2) := by decide +kernel
theorem dL_law_241 : decode cL_law 241 = .ok (.aload_n 2, 1) := by decide +kernel
theorem dL_law_242 : decode cL_law 242 = .ok (.invokevirtual 105, 3) := by decide +kernel
theorem dL_law_245 : decode cL_law 245 = .ok (.iload 5, 2) := by decide +kernel
theorem dL_law_247 : decode cL_law 247 = .ok (.if_icmp .eq 5, 3) := by decide +kernel
theorem dL_law_250 : decode cL_law 250 = .ok (.iconst 0, 1) := by decide +kernel
theorem dL_law_251 : decode cL_law 251 = .ok (.ireturn, 1) := by decide +kernel
theorem dL_law_252 : decode cL_law 252 = .ok (.iload 5, 2) := by decide +kernel
theorem dL_law_254 : decode cL_law 254 = .ok (.ifCond .ne 15, 3) := by decide +kernel
theorem dL_law_257 : decode cL_law 257 = .ok (.aload_n 3, 1) := by decide +kernel
theorem dL_law_258 : decode cL_law 258 = .ok (.iconst 0, 1) := by decide +kernel
theorem dL_law_259 : decode cL_law 259 = .ok (.laload, 1) := by decide +kernel
theorem dL_law_260 : decode cL_law 260 = .ok (.iload 6, 2) := by decide +kernel
theorem dL_law_262 : decode cL_law 262 = .ok (.i2l, 1) := by decide +kernel
theorem dL_law_263 : decode cL_law 263 = .ok (.lcmp, 1) := by decide +kernel
theorem dL_law_264 : decode cL_law 264 = .ok (.ifCond .eq 5, 3) := by decide +kernel
theorem dL_law_267 : decode cL_law 267 = .ok (.iconst 0, 1) := by decide +kernel
theorem dL_law_268 : decode cL_law 268 = .ok (.ireturn, 1) := by decide +kernel
theorem dL_law_269 : decode cL_law 269 = .ok (.goto 1596, 3) := by decide +kernel
theorem dL_law_272 : decode cL_law 272 = .ok (.aload_n 1, 1) := by decide +kernel
theorem dL_law_273 : decode cL_law 273 = .ok (.aload_n 0, 1) := by decide +kernel
theorem dL_law_274 : decode cL_law 274 = .ok (.iload 4, 2) := by decide +kernel
theorem dL_law_276 : decode cL_law 276 = .ok (.iconst 1, 1) := by decide +kernel
theorem dL_law_277 : decode cL_law 277 = .ok (.iadd, 1) := by decide +kernel
theorem dL_law_278 : decode cL_law 278 = .ok (.iaload, 1) := by decide +kernel
theorem dL_law_279 : decode cL_law 279 = .ok (.aload_n 0, 1) := by decide +kernel
theorem dL_law_280 : decode cL_law 280 = .ok (.iload 4, 2) := by decide +kernel
theorem dL_law_282 : decode cL_law 282 = .ok (.iconst 2, 1) := by decide +kernel
theorem dL_law_283 : decode cL_law 283 = .ok (.iadd, 1) := by decide +kernel
theorem dL_law_284 : decode cL_law 284 = .ok (.iaload, 1) := by decide +kernel
theorem dL_law_285 : decode cL_law 285 = .ok (.aload_n 0, 1) := by decide +kernel
theorem dL_law_286 : decode cL_law 286 = .ok (.iload 4, 2) := by decide +kernel
theorem dL_law_288 : decode cL_law 288 = .ok (.iconst 3, 1) := by decide +kernel
theorem dL_law_289 : decode cL_law 289 = .ok (.iadd, 1) := by decide +kernel
theorem dL_law_290 : decode cL_law 290 = .ok (.iaload, 1) := by decide +kernel
theorem dL_law_291 : decode cL_law 291 = .ok (.aload_n 0, 1) := by decide +kernel
theorem dL_law_292 : decode cL_law 292 = .ok (.iload 4, 2) := by decide +kernel
theorem dL_law_294 : decode cL_law 294 = .ok (.iconst 4, 1) := by decide +kernel
theorem dL_law_295 : decode cL_law 295 = .ok (.iadd, 1) := by decide +kernel
theorem dL_law_296 : decode cL_law 296 = .ok (.iaload, 1) := by decide +kernel
theorem dL_law_297 : decode cL_law 297 = .ok (.aload_n 3, 1) := by decide +kernel
theorem dL_law_298 : decode cL_law 298 = .ok (.invokestatic 113, 3) := by decide +kernel
theorem dL_law_301 : decode cL_law 301 = .ok (.istore 5, 2) := by decide +kernel
theorem dL_law_303 : decode cL_law 303 = .ok (.aload_n 2, 1) := by decide +kernel
theorem dL_law_304 : decode cL_law 304 = .ok (.aload_n 0, 1) := by decide +kernel
theorem dL_law_305 : decode cL_law 305 = .ok (.iload 4, 2) := by decide +kernel
theorem dL_law_307 : decode cL_law 307 = .ok (.iconst 1, 1) := by decide +kernel
theorem dL_law_308 : decode cL_law 308 = .ok (.iadd, 1) := by decide +kernel
theorem dL_law_309 : decode cL_law 309 = .ok (.iaload, 1) := by decide +kernel
theorem dL_law_310 : decode cL_law 310 = .ok (.aload_n 0, 1) := by decide +kernel
theorem dL_law_311 : decode cL_law 311 = .ok (.iload 4, 2) := by decide +kernel
theorem dL_law_313 : decode cL_law 313 = .ok (.iconst 2, 1) := by decide +kernel
theorem dL_law_314 : decode cL_law 314 = .ok (.iadd, 1) := by decide +kernel
theorem dL_law_315 : decode cL_law 315 = .ok (.iaload, 1) := by decide +kernel
theorem dL_law_316 : decode cL_law 316 = .ok (.aload_n 0, 1) := by decide +kernel
theorem dL_law_317 : decode cL_law 317 = .ok (.iload 4, 2) := by decide +kernel
theorem dL_law_319 : decode cL_law 319 = .ok (.iconst 3, 1) := by decide +kernel
theorem dL_law_320 : decode cL_law 320 = .ok (.iadd, 1) := by decide +kernel
theorem dL_law_321 : decode cL_law 321 = .ok (.iaload, 1) := by decide +kernel
theorem dL_law_322 : decode cL_law 322 = .ok (.aload_n 0, 1) := by decide +kernel
theorem dL_law_323 : decode cL_law 323 = .ok (.iload 4, 2) := by decide +kernel
theorem dL_law_325 : decode cL_law 325 = .ok (.iconst 4, 1) := by decide +kernel
theorem dL_law_326 : decode cL_law 326 = .ok (.iadd, 1) := by decide +kernel
theorem dL_law_327 : decode cL_law 327 = .ok (.iaload, 1) := by decide +kernel
theorem dL_law_328 : decode cL_law 328 = .ok (.invokevirtual 116, 3) := by decide +kernel
theorem dL_law_331 : decode cL_law 331 = .ok (.istore 6, 2) := by decide +kernel
theorem dL_law_333 : decode cL_law 333 = .ok (.aload_n 2, 1) := by decide +kernel
theorem dL_law_334 : decode cL_law 334 = .ok (.invokevirtual 105, 3) := by decide +kernel
theorem dL_law_337 : decode cL_law 337 = .ok (.iload 5, 2) := by decide +kernel
theorem dL_law_339 : decode cL_law 339 = .ok (.if_icmp .eq 5, 3) := by decide +kernel
theorem dL_law_342 : decode cL_law 342 = .ok (.iconst 0, 1) := by decide +kernel
theorem dL_law_343 : decode cL_law 343 = .ok (.ireturn, 1) := by decide +kernel
theorem dL_law_344 : decode cL_law 344 = .ok (.iload 5, 2) := by decide +kernel
theorem dL_law_346 : decode cL_law 346 = .ok (.ifCond .ne 15, 3) := by decide +kernel
theorem dL_law_349 : decode cL_law 349 = .ok (.aload_n 3, 1) := by decide +kernel
theorem dL_law_350 : decode cL_law 350 = .ok (.iconst 0, 1) := by decide +kernel
theorem dL_law_351 : decode cL_law 351 = .ok (.laload, 1) := by decide +kernel
theorem dL_law_352 : decode cL_law 352 = .ok (.iload 6, 2) := by decide +kernel
theorem dL_law_354 : decode cL_law 354 = .ok (.i2l, 1) := by decide +kernel
theorem dL_law_355 : decode cL_law 355 = .ok (.lcmp, 1) := by decide +kernel
theorem dL_law_356 : decode cL_law 356 = .ok (.ifCond .eq 5, 3) := by decide +kernel
theorem dL_law_359 : decode cL_law 359 = .ok (.iconst 0, 1) := by decide +kernel
theorem dL_law_360 : decode cL_law 360 = .ok (.ireturn, 1) := by decide +kernel
theorem dL_law_361 : decode cL_law 361 = .ok (.goto 1504, 3) := by decide +kernel
theorem dL_law_364 : decode cL_law 364 = .ok (.aload_n 1, 1) := by decide +kernel
theorem dL_law_365 : decode cL_law 365 = .ok (.aload_n 0, 1) := by decide +kernel
theorem dL_law_366 : decode cL_law 366 = .ok (.iload 4, 2) := by decide +kernel
theorem dL_law_368 : decode cL_law 368 = .ok (.iconst 1, 1) := by decide +kernel
theorem dL_law_369 : decode cL_law 369 = .ok (.iadd, 1) := by decide +kernel
theorem dL_law_370 : decode cL_law 370 = .ok (.iaload, 1) := by decide +kernel
theorem dL_law_371 : decode cL_law 371 = .ok (.aload_n 0, 1) := by decide +kernel
theorem dL_law_372 : decode cL_law 372 = .ok (.iload 4, 2) := by decide +kernel
theorem dL_law_374 : decode cL_law 374 = .ok (.iconst 2, 1) := by decide +kernel
theorem dL_law_375 : decode cL_law 375 = .ok (.iadd, 1) := by decide +kernel
theorem dL_law_376 : decode cL_law 376 = .ok (.iaload, 1) := by decide +kernel
theorem dL_law_377 : decode cL_law 377 = .ok (.aload_n 0, 1) := by decide +kernel
theorem dL_law_378 : decode cL_law 378 = .ok (.iload 4, 2) := by decide +kernel
theorem dL_law_380 : decode cL_law 380 = .ok (.iconst 3, 1) := by decide +kernel
theorem dL_law_381 : decode cL_law 381 = .ok (.iadd, 1) := by decide +kernel
theorem dL_law_382 : decode cL_law 382 = .ok (.iaload, 1) := by decide +kernel
theorem dL_law_383 : decode cL_law 383 = .ok (.aload_n 3, 1) := by decide +kernel
theorem dL_law_384 : decode cL_law 384 = .ok (.invokestatic 117, 3) := by decide +kernel
theorem dL_law_387 : decode cL_law 387 = .ok (.istore 5, 2) := by decide +kernel
theorem dL_law_389 : decode cL_law 389 = .ok (.aload_n 2, 1) := by decide +kernel
theorem dL_law_390 : decode cL_law 390 = .ok (.aload_n 0, 1) := by decide +kernel
theorem dL_law_391 : decode cL_law 391 = .ok (.iload 4, 2) := by decide +kernel
theorem dL_law_393 : decode cL_law 393 = .ok (.iconst 1, 1) := by decide +kernel
theorem dL_law_394 : decode cL_law 394 = .ok (.iadd, 1) := by decide +kernel
theorem dL_law_395 : decode cL_law 395 = .ok (.iaload, 1) := by decide +kernel
theorem dL_law_396 : decode cL_law 396 = .ok (.aload_n 0, 1) := by decide +kernel
theorem dL_law_397 : decode cL_law 397 = .ok (.iload 4, 2) := by decide +kernel
theorem dL_law_399 : decode cL_law 399 = .ok (.iconst 2, 1) := by decide +kernel
theorem dL_law_400 : decode cL_law 400 = .ok (.iadd, 1) := by decide +kernel
theorem dL_law_401 : decode cL_law 401 = .ok (.iaload, 1) := by decide +kernel
theorem dL_law_402 : decode cL_law 402 = .ok (.aload_n 0, 1) := by decide +kernel
theorem dL_law_403 : decode cL_law 403 = .ok (.iload 4, 2) := by decide +kernel
theorem dL_law_405 : decode cL_law 405 = .ok (.iconst 3, 1) := by decide +kernel
theorem dL_law_406 : decode cL_law 406 = .ok (.iadd, 1) := by decide +kernel
theorem dL_law_407 : decode cL_law 407 = .ok (.iaload, 1) := by decide +kernel
theorem dL_law_408 : decode cL_law 408 = .ok (.invokevirtual 120, 3) := by decide +kernel
theorem dL_law_411 : decode cL_law 411 = .ok (.istore 6, 2) := by decide +kernel
theorem dL_law_413 : decode cL_law 413 = .ok (.aload_n 2, 1) := by decide +kernel
theorem dL_law_414 : decode cL_law 414 = .ok (.invokevirtual 105, 3) := by decide +kernel
theorem dL_law_417 : decode cL_law 417 = .ok (.iload 5, 2) := by decide +kernel
theorem dL_law_419 : decode cL_law 419 = .ok (.if_icmp .eq 5, 3) := by decide +kernel
theorem dL_law_422 : decode cL_law 422 = .ok (.iconst 0, 1) := by decide +kernel
theorem dL_law_423 : decode cL_law 423 = .ok (.ireturn, 1) := by decide +kernel
theorem dL_law_424 : decode cL_law 424 = .ok (.iload 5, 2) := by decide +kernel
theorem dL_law_426 : decode cL_law 426 = .ok (.ifCond .ne 15, 3) := by decide +kernel
theorem dL_law_429 : decode cL_law 429 = .ok (.aload_n 3, 1) := by decide +kernel
theorem dL_law_430 : decode cL_law 430 = .ok (.iconst 0, 1) := by decide +kernel
theorem dL_law_431 : decode cL_law 431 = .ok (.laload, 1) := by decide +kernel
theorem dL_law_432 : decode cL_law 432 = .ok (.iload 6, 2) := by decide +kernel
theorem dL_law_434 : decode cL_law 434 = .ok (.i2l, 1) := by decide +kernel
theorem dL_law_435 : decode cL_law 435 = .ok (.lcmp, 1) := by decide +kernel
theorem dL_law_436 : decode cL_law 436 = .ok (.ifCond .eq 5, 3) := by decide +kernel
theorem dL_law_439 : decode cL_law 439 = .ok (.iconst 0, 1) := by decide +kernel
theorem dL_law_440 : decode cL_law 440 = .ok (.ireturn, 1) := by decide +kernel
theorem dL_law_441 : decode cL_law 441 = .ok (.goto 1424, 3) := by decide +kernel
theorem dL_law_444 : decode cL_law 444 = .ok (.aload_n 1, 1) := by decide +kernel
theorem dL_law_445 : decode cL_law 445 = .ok (.aload_n 0, 1) := by decide +kernel
theorem dL_law_446 : decode cL_law 446 = .ok (.iload 4, 2) := by decide +kernel
theorem dL_law_448 : decode cL_law 448 = .ok (.iconst 1, 1) := by decide +kernel
theorem dL_law_449 : decode cL_law 449 = .ok (.iadd, 1) := by decide +kernel
theorem dL_law_450 : decode cL_law 450 = .ok (.iaload, 1) := by decide +kernel
theorem dL_law_451 : decode cL_law 451 = .ok (.aload_n 0, 1) := by decide +kernel
theorem dL_law_452 : decode cL_law 452 = .ok (.iload 4, 2) := by decide +kernel
theorem dL_law_454 : decode cL_law 454 = .ok (.iconst 2, 1) := by decide +kernel
theorem dL_law_455 : decode cL_law 455 = .ok (.iadd, 1) := by decide +kernel
theorem dL_law_456 : decode cL_law 456 = .ok (.iaload, 1) := by decide +kernel
theorem dL_law_457 : decode cL_law 457 = .ok (.aload_n 0, 1) := by decide +kernel
theorem dL_law_458 : decode cL_law 458 = .ok (.iload 4, 2) := by decide +kernel
theorem dL_law_460 : decode cL_law 460 = .ok (.iconst 3, 1) := by decide +kernel
theorem dL_law_461 : decode cL_law 461 = .ok (.iadd, 1) := by decide +kernel
theorem dL_law_462 : decode cL_law 462 = .ok (.iaload, 1) := by decide +kernel
theorem dL_law_463 : decode cL_law 463 = .ok (.aload_n 3, 1) := by decide +kernel
theorem dL_law_464 : decode cL_law 464 = .ok (.invokestatic 121, 3) := by decide +kernel
theorem dL_law_467 : decode cL_law 467 = .ok (.istore 5, 2) := by decide +kernel
theorem dL_law_469 : decode cL_law 469 = .ok (.aload_n 2, 1) := by decide +kernel
theorem dL_law_470 : decode cL_law 470 = .ok (.aload_n 0, 1) := by decide +kernel
theorem dL_law_471 : decode cL_law 471 = .ok (.iload 4, 2) := by decide +kernel
theorem dL_law_473 : decode cL_law 473 = .ok (.iconst 1, 1) := by decide +kernel
theorem dL_law_474 : decode cL_law 474 = .ok (.iadd, 1) := by decide +kernel
theorem dL_law_475 : decode cL_law 475 = .ok (.iaload, 1) := by decide +kernel
theorem dL_law_476 : decode cL_law 476 = .ok (.aload_n 0, 1) := by decide +kernel
theorem dL_law_477 : decode cL_law 477 = .ok (.iload 4, 2) := by decide +kernel
theorem dL_law_479 : decode cL_law 479 = .ok (.iconst 2, 1) := by decide +kernel
theorem dL_law_480 : decode cL_law 480 = .ok (.iadd, 1) := by decide +kernel
theorem dL_law_481 : decode cL_law 481 = .ok (.iaload, 1) := by decide +kernel
theorem dL_law_482 : decode cL_law 482 = .ok (.aload_n 0, 1) := by decide +kernel
theorem dL_law_483 : decode cL_law 483 = .ok (.iload 4, 2) := by decide +kernel
theorem dL_law_485 : decode cL_law 485 = .ok (.iconst 3, 1) := by decide +kernel
theorem dL_law_486 : decode cL_law 486 = .ok (.iadd, 1) := by decide +kernel
theorem dL_law_487 : decode cL_law 487 = .ok (.iaload, 1) := by decide +kernel
theorem dL_law_488 : decode cL_law 488 = .ok (.invokevirtual 123, 3) := by decide +kernel
theorem dL_law_491 : decode cL_law 491 = .ok (.istore 6, 2) := by decide +kernel
theorem dL_law_493 : decode cL_law 493 = .ok (.aload_n 2, 1) := by decide +kernel
theorem dL_law_494 : decode cL_law 494 = .ok (.invokevirtual 105, 3) := by decide +kernel
theorem dL_law_497 : decode cL_law 497 = .ok (.iload 5, 2) := by decide +kernel
theorem dL_law_499 : decode cL_law 499 = .ok (.if_icmp .eq 5, 3) := by decide +kernel
theorem dL_law_502 : decode cL_law 502 = .ok (.iconst 0, 1) := by decide +kernel
theorem dL_law_503 : decode cL_law 503 = .ok (.ireturn, 1) := by decide +kernel
theorem dL_law_504 : decode cL_law 504 = .ok (.iload 5, 2) := by decide +kernel
theorem dL_law_506 : decode cL_law 506 = .ok (.ifCond .ne 15, 3) := by decide +kernel
theorem dL_law_509 : decode cL_law 509 = .ok (.aload_n 3, 1) := by decide +kernel
theorem dL_law_510 : decode cL_law 510 = .ok (.iconst 0, 1) := by decide +kernel
theorem dL_law_511 : decode cL_law 511 = .ok (.laload, 1) := by decide +kernel
theorem dL_law_512 : decode cL_law 512 = .ok (.iload 6, 2) := by decide +kernel
theorem dL_law_514 : decode cL_law 514 = .ok (.i2l, 1) := by decide +kernel
theorem dL_law_515 : decode cL_law 515 = .ok (.lcmp, 1) := by decide +kernel
theorem dL_law_516 : decode cL_law 516 = .ok (.ifCond .eq 5, 3) := by decide +kernel
theorem dL_law_519 : decode cL_law 519 = .ok (.iconst 0, 1) := by decide +kernel
theorem dL_law_520 : decode cL_law 520 = .ok (.ireturn, 1) := by decide +kernel
theorem dL_law_521 : decode cL_law 521 = .ok (.goto 1344, 3) := by decide +kernel
theorem dL_law_524 : decode cL_law 524 = .ok (.aload_n 1, 1) := by decide +kernel
theorem dL_law_525 : decode cL_law 525 = .ok (.aload_n 0, 1) := by decide +kernel
theorem dL_law_526 : decode cL_law 526 = .ok (.iload 4, 2) := by decide +kernel
theorem dL_law_528 : decode cL_law 528 = .ok (.iconst 1, 1) := by decide +kernel
theorem dL_law_529 : decode cL_law 529 = .ok (.iadd, 1) := by decide +kernel
theorem dL_law_530 : decode cL_law 530 = .ok (.iaload, 1) := by decide +kernel
theorem dL_law_531 : decode cL_law 531 = .ok (.aload_n 0, 1) := by decide +kernel
theorem dL_law_532 : decode cL_law 532 = .ok (.iload 4, 2) := by decide +kernel
theorem dL_law_534 : decode cL_law 534 = .ok (.iconst 2, 1) := by decide +kernel
theorem dL_law_535 : decode cL_law 535 = .ok (.iadd, 1) := by decide +kernel
theorem dL_law_536 : decode cL_law 536 = .ok (.iaload, 1) := by decide +kernel
theorem dL_law_537 : decode cL_law 537 = .ok (.aload_n 0, 1) := by decide +kernel
theorem dL_law_538 : decode cL_law 538 = .ok (.iload 4, 2) := by decide +kernel
theorem dL_law_540 : decode cL_law 540 = .ok (.iconst 3, 1) := by decide +kernel
theorem dL_law_541 : decode cL_law 541 = .ok (.iadd, 1) := by decide +kernel
theorem dL_law_542 : decode cL_law 542 = .ok (.iaload, 1) := by decide +kernel
theorem dL_law_543 : decode cL_law 543 = .ok (.aload_n 3, 1) := by decide +kernel
theorem dL_law_544 : decode cL_law 544 = .ok (.invokestatic 124, 3) := by decide +kernel
theorem dL_law_547 : decode cL_law 547 = .ok (.istore 5, 2) := by decide +kernel
theorem dL_law_549 : decode cL_law 549 = .ok (.aload_n 2, 1) := by decide +kernel
theorem dL_law_550 : decode cL_law 550 = .ok (.aload_n 0, 1) := by decide +kernel
theorem dL_law_551 : decode cL_law 551 = .ok (.iload 4, 2) := by decide +kernel
theorem dL_law_553 : decode cL_law 553 = .ok (.iconst 1, 1) := by decide +kernel
theorem dL_law_554 : decode cL_law 554 = .ok (.iadd, 1) := by decide +kernel
theorem dL_law_555 : decode cL_law 555 = .ok (.iaload, 1) := by decide +kernel
theorem dL_law_556 : decode cL_law 556 = .ok (.aload_n 0, 1) := by decide +kernel
theorem dL_law_557 : decode cL_law 557 = .ok (.iload 4, 2) := by decide +kernel
theorem dL_law_559 : decode cL_law 559 = .ok (.iconst 2, 1) := by decide +kernel
theorem dL_law_560 : decode cL_law 560 = .ok (.iadd, 1) := by decide +kernel
theorem dL_law_561 : decode cL_law 561 = .ok (.iaload, 1) := by decide +kernel
theorem dL_law_562 : decode cL_law 562 = .ok (.aload_n 0, 1) := by decide +kernel
theorem dL_law_563 : decode cL_law 563 = .ok (.iload 4, 2) := by decide +kernel
theorem dL_law_565 : decode cL_law 565 = .ok (.iconst 3, 1) := by decide +kernel
theorem dL_law_566 : decode cL_law 566 = .ok (.iadd, 1) := by decide +kernel
theorem dL_law_567 : decode cL_law 567 = .ok (.iaload, 1) := by decide +kernel
theorem dL_law_568 : decode cL_law 568 = .ok (.invokevirtual 126, 3) := by decide +kernel
theorem dL_law_571 : decode cL_law 571 = .ok (.istore 6, 2) := by decide +kernel
theorem dL_law_573 : decode cL_law 573 = .ok (.aload_n 2, 1) := by decide +kernel
theorem dL_law_574 : decode cL_law 574 = .ok (.invokevirtual 105, 3) := by decide +kernel
theorem dL_law_577 : decode cL_law 577 = .ok (.iload 5, 2) := by decide +kernel
theorem dL_law_579 : decode cL_law 579 = .ok (.if_icmp .eq 5, 3) := by decide +kernel
theorem dL_law_582 : decode cL_law 582 = .ok (.iconst 0, 1) := by decide +kernel
theorem dL_law_583 : decode cL_law 583 = .ok (.ireturn, 1) := by decide +kernel
theorem dL_law_584 : decode cL_law 584 = .ok (.iload 5, 2) := by decide +kernel
theorem dL_law_586 : decode cL_law 586 = .ok (.ifCond .ne 15, 3) := by decide +kernel
theorem dL_law_589 : decode cL_law 589 = .ok (.aload_n 3, 1) := by decide +kernel
theorem dL_law_590 : decode cL_law 590 = .ok (.iconst 0, 1) := by decide +kernel
theorem dL_law_591 : decode cL_law 591 = .ok (.laload, 1) := by decide +kernel
theorem dL_law_592 : decode cL_law 592 = .ok (.iload 6, 2) := by decide +kernel
theorem dL_law_594 : decode cL_law 594 = .ok (.i2l, 1) := by decide +kernel
theorem dL_law_595 : decode cL_law 595 = .ok (.lcmp, 1) := by decide +kernel
theorem dL_law_596 : decode cL_law 596 = .ok (.ifCond .eq 5, 3) := by decide +kernel
theorem dL_law_599 : decode cL_law 599 = .ok (.iconst 0, 1) := by decide +kernel
theorem dL_law_600 : decode cL_law 600 = .ok (.ireturn, 1) := by decide +kernel
theorem dL_law_601 : decode cL_law 601 = .ok (.goto 1264, 3) := by decide +kernel
theorem dL_law_604 : decode cL_law 604 = .ok (.aload_n 1, 1) := by decide +kernel
theorem dL_law_605 : decode cL_law 605 = .ok (.aload_n 0, 1) := by decide +kernel
theorem dL_law_606 : decode cL_law 606 = .ok (.iload 4, 2) := by decide +kernel
theorem dL_law_608 : decode cL_law 608 = .ok (.iconst 1, 1) := by decide +kernel
theorem dL_law_609 : decode cL_law 609 = .ok (.iadd, 1) := by decide +kernel
theorem dL_law_610 : decode cL_law 610 = .ok (.iaload, 1) := by decide +kernel
theorem dL_law_611 : decode cL_law 611 = .ok (.aload_n 0, 1) := by decide +kernel
theorem dL_law_612 : decode cL_law 612 = .ok (.iload 4, 2) := by decide +kernel
theorem dL_law_614 : decode cL_law 614 = .ok (.iconst 2, 1) := by decide +kernel
theorem dL_law_615 : decode cL_law 615 = .ok (.iadd, 1) := by decide +kernel
theorem dL_law_616 : decode cL_law 616 = .ok (.iaload, 1) := by decide +kernel
theorem dL_law_617 : decode cL_law 617 = .ok (.aload_n 0, 1) := by decide +kernel
theorem dL_law_618 : decode cL_law 618 = .ok (.iload 4, 2) := by decide +kernel
theorem dL_law_620 : decode cL_law 620 = .ok (.iconst 3, 1) := by decide +kernel
theorem dL_law_621 : decode cL_law 621 = .ok (.iadd, 1) := by decide +kernel
theorem dL_law_622 : decode cL_law 622 = .ok (.iaload, 1) := by decide +kernel
theorem dL_law_623 : decode cL_law 623 = .ok (.aload_n 3, 1) := by decide +kernel
theorem dL_law_624 : decode cL_law 624 = .ok (.invokestatic 127, 3) := by decide +kernel
theorem dL_law_627 : decode cL_law 627 = .ok (.istore 5, 2) := by decide +kernel
theorem dL_law_629 : decode cL_law 629 = .ok (.aload_n 2, 1) := by decide +kernel
theorem dL_law_630 : decode cL_law 630 = .ok (.aload_n 0, 1) := by decide +kernel
theorem dL_law_631 : decode cL_law 631 = .ok (.iload 4, 2) := by decide +kernel
theorem dL_law_633 : decode cL_law 633 = .ok (.iconst 1, 1) := by decide +kernel
theorem dL_law_634 : decode cL_law 634 = .ok (.iadd, 1) := by decide +kernel
theorem dL_law_635 : decode cL_law 635 = .ok (.iaload, 1) := by decide +kernel
theorem dL_law_636 : decode cL_law 636 = .ok (.aload_n 0, 1) := by decide +kernel
theorem dL_law_637 : decode cL_law 637 = .ok (.iload 4, 2) := by decide +kernel
theorem dL_law_639 : decode cL_law 639 = .ok (.iconst 2, 1) := by decide +kernel
theorem dL_law_640 : decode cL_law 640 = .ok (.iadd, 1) := by decide +kernel
theorem dL_law_641 : decode cL_law 641 = .ok (.iaload, 1) := by decide +kernel
theorem dL_law_642 : decode cL_law 642 = .ok (.aload_n 0, 1) := by decide +kernel
theorem dL_law_643 : decode cL_law 643 = .ok (.iload 4, 2) := by decide +kernel
theorem dL_law_645 : decode cL_law 645 = .ok (.iconst 3, 1) := by decide +kernel
theorem dL_law_646 : decode cL_law 646 = .ok (.iadd, 1) := by decide +kernel
theorem dL_law_647 : decode cL_law 647 = .ok (.iaload, 1) := by decide +kernel
theorem dL_law_648 : decode cL_law 648 = .ok (.invokevirtual 129, 3) := by decide +kernel
theorem dL_law_651 : decode cL_law 651 = .ok (.istore 6, 2) := by decide +kernel
theorem dL_law_653 : decode cL_law 653 = .ok (.aload_n 2, 1) := by decide +kernel
theorem dL_law_654 : decode cL_law 654 = .ok (.invokevirtual 105, 3) := by decide +kernel
theorem dL_law_657 : decode cL_law 657 = .ok (.iload 5, 2) := by decide +kernel
theorem dL_law_659 : decode cL_law 659 = .ok (.if_icmp .eq 5, 3) := by decide +kernel
theorem dL_law_662 : decode cL_law 662 = .ok (.iconst 0, 1) := by decide +kernel
theorem dL_law_663 : decode cL_law 663 = .ok (.ireturn, 1) := by decide +kernel
theorem dL_law_664 : decode cL_law 664 = .ok (.iload 5, 2) := by decide +kernel
theorem dL_law_666 : decode cL_law 666 = .ok (.ifCond .ne 15, 3) := by decide +kernel
theorem dL_law_669 : decode cL_law 669 = .ok (.aload_n 3, 1) := by decide +kernel
theorem dL_law_670 : decode cL_law 670 = .ok (.iconst 0, 1) := by decide +kernel
theorem dL_law_671 : decode cL_law 671 = .ok (.laload, 1) := by decide +kernel
theorem dL_law_672 : decode cL_law 672 = .ok (.iload 6, 2) := by decide +kernel
theorem dL_law_674 : decode cL_law 674 = .ok (.i2l, 1) := by decide +kernel
theorem dL_law_675 : decode cL_law 675 = .ok (.lcmp, 1) := by decide +kernel
theorem dL_law_676 : decode cL_law 676 = .ok (.ifCond .eq 5, 3) := by decide +kernel
theorem dL_law_679 : decode cL_law 679 = .ok (.iconst 0, 1) := by decide +kernel
theorem dL_law_680 : decode cL_law 680 = .ok (.ireturn, 1) := by decide +kernel
theorem dL_law_681 : decode cL_law 681 = .ok (.goto 1184, 3) := by decide +kernel
theorem dL_law_684 : decode cL_law 684 = .ok (.aload_n 1, 1) := by decide +kernel
theorem dL_law_685 : decode cL_law 685 = .ok (.aload_n 0, 1) := by decide +kernel
theorem dL_law_686 : decode cL_law 686 = .ok (.iload 4, 2) := by decide +kernel
theorem dL_law_688 : decode cL_law 688 = .ok (.iconst 1, 1) := by decide +kernel
theorem dL_law_689 : decode cL_law 689 = .ok (.iadd, 1) := by decide +kernel
theorem dL_law_690 : decode cL_law 690 = .ok (.iaload, 1) := by decide +kernel
theorem dL_law_691 : decode cL_law 691 = .ok (.aload_n 0, 1) := by decide +kernel
theorem dL_law_692 : decode cL_law 692 = .ok (.iload 4, 2) := by decide +kernel
theorem dL_law_694 : decode cL_law 694 = .ok (.iconst 2, 1) := by decide +kernel
theorem dL_law_695 : decode cL_law 695 = .ok (.iadd, 1) := by decide +kernel
theorem dL_law_696 : decode cL_law 696 = .ok (.iaload, 1) := by decide +kernel
theorem dL_law_697 : decode cL_law 697 = .ok (.aload_n 0, 1) := by decide +kernel
theorem dL_law_698 : decode cL_law 698 = .ok (.iload 4, 2) := by decide +kernel
theorem dL_law_700 : decode cL_law 700 = .ok (.iconst 3, 1) := by decide +kernel
theorem dL_law_701 : decode cL_law 701 = .ok (.iadd, 1) := by decide +kernel
theorem dL_law_702 : decode cL_law 702 = .ok (.iaload, 1) := by decide +kernel
theorem dL_law_703 : decode cL_law 703 = .ok (.invokestatic 130, 3) := by decide +kernel
theorem dL_law_706 : decode cL_law 706 = .ok (.istore 5, 2) := by decide +kernel
theorem dL_law_708 : decode cL_law 708 = .ok (.aload_n 2, 1) := by decide +kernel
theorem dL_law_709 : decode cL_law 709 = .ok (.aload_n 0, 1) := by decide +kernel
theorem dL_law_710 : decode cL_law 710 = .ok (.iload 4, 2) := by decide +kernel
theorem dL_law_712 : decode cL_law 712 = .ok (.iconst 1, 1) := by decide +kernel
theorem dL_law_713 : decode cL_law 713 = .ok (.iadd, 1) := by decide +kernel
theorem dL_law_714 : decode cL_law 714 = .ok (.iaload, 1) := by decide +kernel
theorem dL_law_715 : decode cL_law 715 = .ok (.aload_n 0, 1) := by decide +kernel
theorem dL_law_716 : decode cL_law 716 = .ok (.iload 4, 2) := by decide +kernel
theorem dL_law_718 : decode cL_law 718 = .ok (.iconst 2, 1) := by decide +kernel
theorem dL_law_719 : decode cL_law 719 = .ok (.iadd, 1) := by decide +kernel
theorem dL_law_720 : decode cL_law 720 = .ok (.iaload, 1) := by decide +kernel
theorem dL_law_721 : decode cL_law 721 = .ok (.aload_n 0, 1) := by decide +kernel
theorem dL_law_722 : decode cL_law 722 = .ok (.iload 4, 2) := by decide +kernel
theorem dL_law_724 : decode cL_law 724 = .ok (.iconst 3, 1) := by decide +kernel
theorem dL_law_725 : decode cL_law 725 = .ok (.iadd, 1) := by decide +kernel
theorem dL_law_726 : decode cL_law 726 = .ok (.iaload, 1) := by decide +kernel
theorem dL_law_727 : decode cL_law 727 = .ok (.invokevirtual 132, 3) := by decide +kernel
theorem dL_law_730 : decode cL_law 730 = .ok (.aload_n 2, 1) := by decide +kernel
theorem dL_law_731 : decode cL_law 731 = .ok (.invokevirtual 105, 3) := by decide +kernel
theorem dL_law_734 : decode cL_law 734 = .ok (.iload 5, 2) := by decide +kernel
theorem dL_law_736 : decode cL_law 736 = .ok (.if_icmp .eq 5, 3) := by decide +kernel
theorem dL_law_739 : decode cL_law 739 = .ok (.iconst 0, 1) := by decide +kernel
theorem dL_law_740 : decode cL_law 740 = .ok (.ireturn, 1) := by decide +kernel
theorem dL_law_741 : decode cL_law 741 = .ok (.goto 1124, 3) := by decide +kernel
theorem dL_law_744 : decode cL_law 744 = .ok (.aload_n 1, 1) := by decide +kernel
theorem dL_law_745 : decode cL_law 745 = .ok (.aload_n 0, 1) := by decide +kernel
theorem dL_law_746 : decode cL_law 746 = .ok (.iload 4, 2) := by decide +kernel
theorem dL_law_748 : decode cL_law 748 = .ok (.iconst 1, 1) := by decide +kernel
theorem dL_law_749 : decode cL_law 749 = .ok (.iadd, 1) := by decide +kernel
theorem dL_law_750 : decode cL_law 750 = .ok (.iaload, 1) := by decide +kernel
theorem dL_law_751 : decode cL_law 751 = .ok (.aload_n 0, 1) := by decide +kernel
theorem dL_law_752 : decode cL_law 752 = .ok (.iload 4, 2) := by decide +kernel
theorem dL_law_754 : decode cL_law 754 = .ok (.iconst 2, 1) := by decide +kernel
theorem dL_law_755 : decode cL_law 755 = .ok (.iadd, 1) := by decide +kernel
theorem dL_law_756 : decode cL_law 756 = .ok (.iaload, 1) := by decide +kernel
theorem dL_law_757 : decode cL_law 757 = .ok (.aload_n 0, 1) := by decide +kernel
theorem dL_law_758 : decode cL_law 758 = .ok (.iload 4, 2) := by decide +kernel
theorem dL_law_760 : decode cL_law 760 = .ok (.iconst 3, 1) := by decide +kernel
theorem dL_law_761 : decode cL_law 761 = .ok (.iadd, 1) := by decide +kernel
theorem dL_law_762 : decode cL_law 762 = .ok (.iaload, 1) := by decide +kernel
theorem dL_law_763 : decode cL_law 763 = .ok (.aload_n 3, 1) := by decide +kernel
theorem dL_law_764 : decode cL_law 764 = .ok (.invokestatic 133, 3) := by decide +kernel
theorem dL_law_767 : decode cL_law 767 = .ok (.istore 5, 2) := by decide +kernel
theorem dL_law_769 : decode cL_law 769 = .ok (.aload_n 2, 1) := by decide +kernel
theorem dL_law_770 : decode cL_law 770 = .ok (.aload_n 0, 1) := by decide +kernel
theorem dL_law_771 : decode cL_law 771 = .ok (.iload 4, 2) := by decide +kernel
theorem dL_law_773 : decode cL_law 773 = .ok (.iconst 1, 1) := by decide +kernel
theorem dL_law_774 : decode cL_law 774 = .ok (.iadd, 1) := by decide +kernel
theorem dL_law_775 : decode cL_law 775 = .ok (.iaload, 1) := by decide +kernel
theorem dL_law_776 : decode cL_law 776 = .ok (.aload_n 0, 1) := by decide +kernel
theorem dL_law_777 : decode cL_law 777 = .ok (.iload 4, 2) := by decide +kernel
theorem dL_law_779 : decode cL_law 779 = .ok (.iconst 2, 1) := by decide +kernel
theorem dL_law_780 : decode cL_law 780 = .ok (.iadd, 1) := by decide +kernel
theorem dL_law_781 : decode cL_law 781 = .ok (.iaload, 1) := by decide +kernel
theorem dL_law_782 : decode cL_law 782 = .ok (.aload_n 0, 1) := by decide +kernel
theorem dL_law_783 : decode cL_law 783 = .ok (.iload 4, 2) := by decide +kernel
theorem dL_law_785 : decode cL_law 785 = .ok (.iconst 3, 1) := by decide +kernel
theorem dL_law_786 : decode cL_law 786 = .ok (.iadd, 1) := by decide +kernel
theorem dL_law_787 : decode cL_law 787 = .ok (.iaload, 1) := by decide +kernel
theorem dL_law_788 : decode cL_law 788 = .ok (.invokevirtual 135, 3) := by decide +kernel
theorem dL_law_791 : decode cL_law 791 = .ok (.istore 6, 2) := by decide +kernel
theorem dL_law_793 : decode cL_law 793 = .ok (.aload_n 2, 1) := by decide +kernel
theorem dL_law_794 : decode cL_law 794 = .ok (.invokevirtual 105, 3) := by decide +kernel
theorem dL_law_797 : decode cL_law 797 = .ok (.iload 5, 2) := by decide +kernel
theorem dL_law_799 : decode cL_law 799 = .ok (.if_icmp .eq 5, 3) := by decide +kernel
theorem dL_law_802 : decode cL_law 802 = .ok (.iconst 0, 1) := by decide +kernel
theorem dL_law_803 : decode cL_law 803 = .ok (.ireturn, 1) := by decide +kernel
theorem dL_law_804 : decode cL_law 804 = .ok (.iload 5, 2) := by decide +kernel
theorem dL_law_806 : decode cL_law 806 = .ok (.ifCond .ne 15, 3) := by decide +kernel
theorem dL_law_809 : decode cL_law 809 = .ok (.aload_n 3, 1) := by decide +kernel
theorem dL_law_810 : decode cL_law 810 = .ok (.iconst 0, 1) := by decide +kernel
theorem dL_law_811 : decode cL_law 811 = .ok (.laload, 1) := by decide +kernel
theorem dL_law_812 : decode cL_law 812 = .ok (.iload 6, 2) := by decide +kernel
theorem dL_law_814 : decode cL_law 814 = .ok (.i2l, 1) := by decide +kernel
theorem dL_law_815 : decode cL_law 815 = .ok (.lcmp, 1) := by decide +kernel
theorem dL_law_816 : decode cL_law 816 = .ok (.ifCond .eq 5, 3) := by decide +kernel
theorem dL_law_819 : decode cL_law 819 = .ok (.iconst 0, 1) := by decide +kernel
theorem dL_law_820 : decode cL_law 820 = .ok (.ireturn, 1) := by decide +kernel
theorem dL_law_821 : decode cL_law 821 = .ok (.goto 1044, 3) := by decide +kernel
theorem dL_law_824 : decode cL_law 824 = .ok (.aload_n 1, 1) := by decide +kernel
theorem dL_law_825 : decode cL_law 825 = .ok (.aload_n 0, 1) := by decide +kernel
theorem dL_law_826 : decode cL_law 826 = .ok (.iload 4, 2) := by decide +kernel
theorem dL_law_828 : decode cL_law 828 = .ok (.iconst 1, 1) := by decide +kernel
theorem dL_law_829 : decode cL_law 829 = .ok (.iadd, 1) := by decide +kernel
theorem dL_law_830 : decode cL_law 830 = .ok (.iaload, 1) := by decide +kernel
theorem dL_law_831 : decode cL_law 831 = .ok (.aload_n 0, 1) := by decide +kernel
theorem dL_law_832 : decode cL_law 832 = .ok (.iload 4, 2) := by decide +kernel
theorem dL_law_834 : decode cL_law 834 = .ok (.iconst 2, 1) := by decide +kernel
theorem dL_law_835 : decode cL_law 835 = .ok (.iadd, 1) := by decide +kernel
theorem dL_law_836 : decode cL_law 836 = .ok (.iaload, 1) := by decide +kernel
theorem dL_law_837 : decode cL_law 837 = .ok (.aload_n 3, 1) := by decide +kernel
theorem dL_law_838 : decode cL_law 838 = .ok (.invokestatic 136, 3) := by decide +kernel
theorem dL_law_841 : decode cL_law 841 = .ok (.istore 5, 2) := by decide +kernel
theorem dL_law_843 : decode cL_law 843 = .ok (.aload_n 2, 1) := by decide +kernel
theorem dL_law_844 : decode cL_law 844 = .ok (.aload_n 0, 1) := by decide +kernel
theorem dL_law_845 : decode cL_law 845 = .ok (.iload 4, 2) := by decide +kernel
theorem dL_law_847 : decode cL_law 847 = .ok (.iconst 1, 1) := by decide +kernel
theorem dL_law_848 : decode cL_law 848 = .ok (.iadd, 1) := by decide +kernel
theorem dL_law_849 : decode cL_law 849 = .ok (.iaload, 1) := by decide +kernel
theorem dL_law_850 : decode cL_law 850 = .ok (.aload_n 0, 1) := by decide +kernel
theorem dL_law_851 : decode cL_law 851 = .ok (.iload 4, 2) := by decide +kernel
theorem dL_law_853 : decode cL_law 853 = .ok (.iconst 2, 1) := by decide +kernel
theorem dL_law_854 : decode cL_law 854 = .ok (.iadd, 1) := by decide +kernel
theorem dL_law_855 : decode cL_law 855 = .ok (.iaload, 1) := by decide +kernel
theorem dL_law_856 : decode cL_law 856 = .ok (.invokevirtual 139, 3) := by decide +kernel
theorem dL_law_859 : decode cL_law 859 = .ok (.istore 6, 2) := by decide +kernel
theorem dL_law_861 : decode cL_law 861 = .ok (.aload_n 2, 1) := by decide +kernel
theorem dL_law_862 : decode cL_law 862 = .ok (.invokevirtual 105, 3) := by decide +kernel
theorem dL_law_865 : decode cL_law 865 = .ok (.iload 5, 2) := by decide +kernel
theorem dL_law_867 : decode cL_law 867 = .ok (.if_icmp .eq 5, 3) := by decide +kernel
theorem dL_law_870 : decode cL_law 870 = .ok (.iconst 0, 1) := by decide +kernel
theorem dL_law_871 : decode cL_law 871 = .ok (.ireturn, 1) := by decide +kernel
theorem dL_law_872 : decode cL_law 872 = .ok (.iload 5, 2) := by decide +kernel
theorem dL_law_874 : decode cL_law 874 = .ok (.ifCond .ne 15, 3) := by decide +kernel
theorem dL_law_877 : decode cL_law 877 = .ok (.aload_n 3, 1) := by decide +kernel
theorem dL_law_878 : decode cL_law 878 = .ok (.iconst 0, 1) := by decide +kernel
theorem dL_law_879 : decode cL_law 879 = .ok (.laload, 1) := by decide +kernel
theorem dL_law_880 : decode cL_law 880 = .ok (.iload 6, 2) := by decide +kernel
theorem dL_law_882 : decode cL_law 882 = .ok (.i2l, 1) := by decide +kernel
theorem dL_law_883 : decode cL_law 883 = .ok (.lcmp, 1) := by decide +kernel
theorem dL_law_884 : decode cL_law 884 = .ok (.ifCond .eq 5, 3) := by decide +kernel
theorem dL_law_887 : decode cL_law 887 = .ok (.iconst 0, 1) := by decide +kernel
theorem dL_law_888 : decode cL_law 888 = .ok (.ireturn, 1) := by decide +kernel
theorem dL_law_889 : decode cL_law 889 = .ok (.goto 976, 3) := by decide +kernel
theorem dL_law_892 : decode cL_law 892 = .ok (.aload_n 1, 1) := by decide +kernel
theorem dL_law_893 : decode cL_law 893 = .ok (.aload_n 0, 1) := by decide +kernel
theorem dL_law_894 : decode cL_law 894 = .ok (.iload 4, 2) := by decide +kernel
theorem dL_law_896 : decode cL_law 896 = .ok (.iconst 1, 1) := by decide +kernel
theorem dL_law_897 : decode cL_law 897 = .ok (.iadd, 1) := by decide +kernel
theorem dL_law_898 : decode cL_law 898 = .ok (.iaload, 1) := by decide +kernel
theorem dL_law_899 : decode cL_law 899 = .ok (.aload_n 3, 1) := by decide +kernel
theorem dL_law_900 : decode cL_law 900 = .ok (.invokestatic 140, 3) := by decide +kernel
theorem dL_law_903 : decode cL_law 903 = .ok (.istore 5, 2) := by decide +kernel
theorem dL_law_905 : decode cL_law 905 = .ok (.aload_n 2, 1) := by decide +kernel
theorem dL_law_906 : decode cL_law 906 = .ok (.aload_n 0, 1) := by decide +kernel
theorem dL_law_907 : decode cL_law 907 = .ok (.iload 4, 2) := by decide +kernel
theorem dL_law_909 : decode cL_law 909 = .ok (.iconst 1, 1) := by decide +kernel
theorem dL_law_910 : decode cL_law 910 = .ok (.iadd, 1) := by decide +kernel
theorem dL_law_911 : decode cL_law 911 = .ok (.iaload, 1) := by decide +kernel
theorem dL_law_912 : decode cL_law 912 = .ok (.invokevirtual 142, 3) := by decide +kernel
theorem dL_law_915 : decode cL_law 915 = .ok (.istore 6, 2) := by decide +kernel
theorem dL_law_917 : decode cL_law 917 = .ok (.aload_n 2, 1) := by decide +kernel
theorem dL_law_918 : decode cL_law 918 = .ok (.invokevirtual 105, 3) := by decide +kernel
theorem dL_law_921 : decode cL_law 921 = .ok (.iload 5, 2) := by decide +kernel
theorem dL_law_923 : decode cL_law 923 = .ok (.if_icmp .eq 5, 3) := by decide +kernel
theorem dL_law_926 : decode cL_law 926 = .ok (.iconst 0, 1) := by decide +kernel
theorem dL_law_927 : decode cL_law 927 = .ok (.ireturn, 1) := by decide +kernel
theorem dL_law_928 : decode cL_law 928 = .ok (.iload 5, 2) := by decide +kernel
theorem dL_law_930 : decode cL_law 930 = .ok (.ifCond .ne 15, 3) := by decide +kernel
theorem dL_law_933 : decode cL_law 933 = .ok (.aload_n 3, 1) := by decide +kernel
theorem dL_law_934 : decode cL_law 934 = .ok (.iconst 0, 1) := by decide +kernel
theorem dL_law_935 : decode cL_law 935 = .ok (.laload, 1) := by decide +kernel
theorem dL_law_936 : decode cL_law 936 = .ok (.iload 6, 2) := by decide +kernel
theorem dL_law_938 : decode cL_law 938 = .ok (.i2l, 1) := by decide +kernel
theorem dL_law_939 : decode cL_law 939 = .ok (.lcmp, 1) := by decide +kernel
theorem dL_law_940 : decode cL_law 940 = .ok (.ifCond .eq 5, 3) := by decide +kernel
theorem dL_law_943 : decode cL_law 943 = .ok (.iconst 0, 1) := by decide +kernel
theorem dL_law_944 : decode cL_law 944 = .ok (.ireturn, 1) := by decide +kernel
theorem dL_law_945 : decode cL_law 945 = .ok (.goto 920, 3) := by decide +kernel
theorem dL_law_948 : decode cL_law 948 = .ok (.aload_n 1, 1) := by decide +kernel
theorem dL_law_949 : decode cL_law 949 = .ok (.aload_n 0, 1) := by decide +kernel
theorem dL_law_950 : decode cL_law 950 = .ok (.iload 4, 2) := by decide +kernel
theorem dL_law_952 : decode cL_law 952 = .ok (.iconst 1, 1) := by decide +kernel
theorem dL_law_953 : decode cL_law 953 = .ok (.iadd, 1) := by decide +kernel
theorem dL_law_954 : decode cL_law 954 = .ok (.iaload, 1) := by decide +kernel
theorem dL_law_955 : decode cL_law 955 = .ok (.aload_n 3, 1) := by decide +kernel
theorem dL_law_956 : decode cL_law 956 = .ok (.invokestatic 143, 3) := by decide +kernel
theorem dL_law_959 : decode cL_law 959 = .ok (.istore 5, 2) := by decide +kernel
theorem dL_law_961 : decode cL_law 961 = .ok (.aload_n 2, 1) := by decide +kernel
theorem dL_law_962 : decode cL_law 962 = .ok (.aload_n 0, 1) := by decide +kernel
theorem dL_law_963 : decode cL_law 963 = .ok (.iload 4, 2) := by decide +kernel
theorem dL_law_965 : decode cL_law 965 = .ok (.iconst 1, 1) := by decide +kernel
theorem dL_law_966 : decode cL_law 966 = .ok (.iadd, 1) := by decide +kernel
theorem dL_law_967 : decode cL_law 967 = .ok (.iaload, 1) := by decide +kernel
theorem dL_law_968 : decode cL_law 968 = .ok (.invokevirtual 145, 3) := by decide +kernel
theorem dL_law_971 : decode cL_law 971 = .ok (.istore 6, 2) := by decide +kernel
theorem dL_law_973 : decode cL_law 973 = .ok (.aload_n 2, 1) := by decide +kernel
theorem dL_law_974 : decode cL_law 974 = .ok (.invokevirtual 105, 3) := by decide +kernel
theorem dL_law_977 : decode cL_law 977 = .ok (.iload 5, 2) := by decide +kernel
theorem dL_law_979 : decode cL_law 979 = .ok (.if_icmp .eq 5, 3) := by decide +kernel
theorem dL_law_982 : decode cL_law 982 = .ok (.iconst 0, 1) := by decide +kernel
theorem dL_law_983 : decode cL_law 983 = .ok (.ireturn, 1) := by decide +kernel
theorem dL_law_984 : decode cL_law 984 = .ok (.iload 5, 2) := by decide +kernel
theorem dL_law_986 : decode cL_law 986 = .ok (.ifCond .ne 15, 3) := by decide +kernel
theorem dL_law_989 : decode cL_law 989 = .ok (.aload_n 3, 1) := by decide +kernel
theorem dL_law_990 : decode cL_law 990 = .ok (.iconst 0, 1) := by decide +kernel
theorem dL_law_991 : decode cL_law 991 = .ok (.laload, 1) := by decide +kernel
theorem dL_law_992 : decode cL_law 992 = .ok (.iload 6, 2) := by decide +kernel
theorem dL_law_994 : decode cL_law 994 = .ok (.i2l, 1) := by decide +kernel
theorem dL_law_995 : decode cL_law 995 = .ok (.lcmp, 1) := by decide +kernel
theorem dL_law_996 : decode cL_law 996 = .ok (.ifCond .eq 5, 3) := by decide +kernel
theorem dL_law_999 : decode cL_law 999 = .ok (.iconst 0, 1) := by decide +kernel
theorem dL_law_1000 : decode cL_law 1000 = .ok (.ireturn, 1) := by decide +kernel
theorem dL_law_1001 : decode cL_law 1001 = .ok (.goto 864, 3) := by decide +kernel
theorem dL_law_1004 : decode cL_law 1004 = .ok (.aload_n 1, 1) := by decide +kernel
theorem dL_law_1005 : decode cL_law 1005 = .ok (.aload_n 0, 1) := by decide +kernel
theorem dL_law_1006 : decode cL_law 1006 = .ok (.iload 4, 2) := by decide +kernel
theorem dL_law_1008 : decode cL_law 1008 = .ok (.iconst 1, 1) := by decide +kernel
theorem dL_law_1009 : decode cL_law 1009 = .ok (.iadd, 1) := by decide +kernel
theorem dL_law_1010 : decode cL_law 1010 = .ok (.iaload, 1) := by decide +kernel
theorem dL_law_1011 : decode cL_law 1011 = .ok (.aload_n 0, 1) := by decide +kernel
theorem dL_law_1012 : decode cL_law 1012 = .ok (.iload 4, 2) := by decide +kernel
theorem dL_law_1014 : decode cL_law 1014 = .ok (.iconst 2, 1) := by decide +kernel
theorem dL_law_1015 : decode cL_law 1015 = .ok (.iadd, 1) := by decide +kernel
theorem dL_law_1016 : decode cL_law 1016 = .ok (.iaload, 1) := by decide +kernel
theorem dL_law_1017 : decode cL_law 1017 = .ok (.aload_n 0, 1) := by decide +kernel
theorem dL_law_1018 : decode cL_law 1018 = .ok (.iload 4, 2) := by decide +kernel
theorem dL_law_1020 : decode cL_law 1020 = .ok (.iconst 3, 1) := by decide +kernel
theorem dL_law_1021 : decode cL_law 1021 = .ok (.iadd, 1) := by decide +kernel
theorem dL_law_1022 : decode cL_law 1022 = .ok (.iaload, 1) := by decide +kernel
theorem dL_law_1023 : decode cL_law 1023 = .ok (.aload_n 3, 1) := by decide +kernel
theorem dL_law_1024 : decode cL_law 1024 = .ok (.invokestatic 146, 3) := by decide +kernel
theorem dL_law_1027 : decode cL_law 1027 = .ok (.istore 5, 2) := by decide +kernel
theorem dL_law_1029 : decode cL_law 1029 = .ok (.aload_n 2, 1) := by decide +kernel
theorem dL_law_1030 : decode cL_law 1030 = .ok (.aload_n 0, 1) := by decide +kernel
theorem dL_law_1031 : decode cL_law 1031 = .ok (.iload 4, 2) := by decide +kernel
theorem dL_law_1033 : decode cL_law 1033 = .ok (.iconst 1, 1) := by decide +kernel
theorem dL_law_1034 : decode cL_law 1034 = .ok (.iadd, 1) := by decide +kernel
theorem dL_law_1035 : decode cL_law 1035 = .ok (.iaload, 1) := by decide +kernel
theorem dL_law_1036 : decode cL_law 1036 = .ok (.aload_n 0, 1) := by decide +kernel
theorem dL_law_1037 : decode cL_law 1037 = .ok (.iload 4, 2) := by decide +kernel
theorem dL_law_1039 : decode cL_law 1039 = .ok (.iconst 2, 1) := by decide +kernel
theorem dL_law_1040 : decode cL_law 1040 = .ok (.iadd, 1) := by decide +kernel
theorem dL_law_1041 : decode cL_law 1041 = .ok (.iaload, 1) := by decide +kernel
theorem dL_law_1042 : decode cL_law 1042 = .ok (.aload_n 0, 1) := by decide +kernel
theorem dL_law_1043 : decode cL_law 1043 = .ok (.iload 4, 2) := by decide +kernel
theorem dL_law_1045 : decode cL_law 1045 = .ok (.iconst 3, 1) := by decide +kernel
theorem dL_law_1046 : decode cL_law 1046 = .ok (.iadd, 1) := by decide +kernel
theorem dL_law_1047 : decode cL_law 1047 = .ok (.iaload, 1) := by decide +kernel
theorem dL_law_1048 : decode cL_law 1048 = .ok (.invokevirtual 148, 3) := by decide +kernel
theorem dL_law_1051 : decode cL_law 1051 = .ok (.istore 6, 2) := by decide +kernel
theorem dL_law_1053 : decode cL_law 1053 = .ok (.aload_n 2, 1) := by decide +kernel
theorem dL_law_1054 : decode cL_law 1054 = .ok (.invokevirtual 105, 3) := by decide +kernel
theorem dL_law_1057 : decode cL_law 1057 = .ok (.iload 5, 2) := by decide +kernel
theorem dL_law_1059 : decode cL_law 1059 = .ok (.if_icmp .eq 5, 3) := by decide +kernel
theorem dL_law_1062 : decode cL_law 1062 = .ok (.iconst 0, 1) := by decide +kernel
theorem dL_law_1063 : decode cL_law 1063 = .ok (.ireturn, 1) := by decide +kernel
theorem dL_law_1064 : decode cL_law 1064 = .ok (.iload 5, 2) := by decide +kernel
theorem dL_law_1066 : decode cL_law 1066 = .ok (.ifCond .ne 15, 3) := by decide +kernel
theorem dL_law_1069 : decode cL_law 1069 = .ok (.aload_n 3, 1) := by decide +kernel
theorem dL_law_1070 : decode cL_law 1070 = .ok (.iconst 0, 1) := by decide +kernel
theorem dL_law_1071 : decode cL_law 1071 = .ok (.laload, 1) := by decide +kernel
theorem dL_law_1072 : decode cL_law 1072 = .ok (.iload 6, 2) := by decide +kernel
theorem dL_law_1074 : decode cL_law 1074 = .ok (.i2l, 1) := by decide +kernel
theorem dL_law_1075 : decode cL_law 1075 = .ok (.lcmp, 1) := by decide +kernel
theorem dL_law_1076 : decode cL_law 1076 = .ok (.ifCond .eq 5, 3) := by decide +kernel
theorem dL_law_1079 : decode cL_law 1079 = .ok (.iconst 0, 1) := by decide +kernel
theorem dL_law_1080 : decode cL_law 1080 = .ok (.ireturn, 1) := by decide +kernel
theorem dL_law_1081 : decode cL_law 1081 = .ok (.goto 784, 3) := by decide +kernel
theorem dL_law_1084 : decode cL_law 1084 = .ok (.aload_n 1, 1) := by decide +kernel
theorem dL_law_1085 : decode cL_law 1085 = .ok (.aload_n 0, 1) := by decide +kernel
theorem dL_law_1086 : decode cL_law 1086 = .ok (.iload 4, 2) := by decide +kernel
theorem dL_law_1088 : decode cL_law 1088 = .ok (.iconst 1, 1) := by decide +kernel
theorem dL_law_1089 : decode cL_law 1089 = .ok (.iadd, 1) := by decide +kernel
theorem dL_law_1090 : decode cL_law 1090 = .ok (.iaload, 1) := by decide +kernel
theorem dL_law_1091 : decode cL_law 1091 = .ok (.aload_n 3, 1) := by decide +kernel
theorem dL_law_1092 : decode cL_law 1092 = .ok (.invokestatic 149, 3) := by decide +kernel
theorem dL_law_1095 : decode cL_law 1095 = .ok (.istore 5, 2) := by decide +kernel
theorem dL_law_1097 : decode cL_law 1097 = .ok (.aload_n 2, 1) := by decide +kernel
theorem dL_law_1098 : decode cL_law 1098 = .ok (.aload_n 0, 1) := by decide +kernel
theorem dL_law_1099 : decode cL_law 1099 = .ok (.iload 4, 2) := by decide +kernel
theorem dL_law_1101 : decode cL_law 1101 = .ok (.iconst 1, 1) := by decide +kernel
theorem dL_law_1102 : decode cL_law 1102 = .ok (.iadd, 1) := by decide +kernel
theorem dL_law_1103 : decode cL_law 1103 = .ok (.iaload, 1) := by decide +kernel
theorem dL_law_1104 : decode cL_law 1104 = .ok (.invokevirtual 151, 3) := by decide +kernel
theorem dL_law_1107 : decode cL_law 1107 = .ok (.istore 6, 2) := by decide +kernel
theorem dL_law_1109 : decode cL_law 1109 = .ok (.aload_n 2, 1) := by decide +kernel
theorem dL_law_1110 : decode cL_law 1110 = .ok (.invokevirtual 105, 3) := by decide +kernel
theorem dL_law_1113 : decode cL_law 1113 = .ok (.iload 5, 2) := by decide +kernel
theorem dL_law_1115 : decode cL_law 1115 = .ok (.if_icmp .eq 5, 3) := by decide +kernel
theorem dL_law_1118 : decode cL_law 1118 = .ok (.iconst 0, 1) := by decide +kernel
theorem dL_law_1119 : decode cL_law 1119 = .ok (.ireturn, 1) := by decide +kernel
theorem dL_law_1120 : decode cL_law 1120 = .ok (.iload 5, 2) := by decide +kernel
theorem dL_law_1122 : decode cL_law 1122 = .ok (.ifCond .ne 15, 3) := by decide +kernel
theorem dL_law_1125 : decode cL_law 1125 = .ok (.aload_n 3, 1) := by decide +kernel
theorem dL_law_1126 : decode cL_law 1126 = .ok (.iconst 0, 1) := by decide +kernel
theorem dL_law_1127 : decode cL_law 1127 = .ok (.laload, 1) := by decide +kernel
theorem dL_law_1128 : decode cL_law 1128 = .ok (.iload 6, 2) := by decide +kernel
theorem dL_law_1130 : decode cL_law 1130 = .ok (.i2l, 1) := by decide +kernel
theorem dL_law_1131 : decode cL_law 1131 = .ok (.lcmp, 1) := by decide +kernel
theorem dL_law_1132 : decode cL_law 1132 = .ok (.ifCond .eq 5, 3) := by decide +kernel
theorem dL_law_1135 : decode cL_law 1135 = .ok (.iconst 0, 1) := by decide +kernel
theorem dL_law_1136 : decode cL_law 1136 = .ok (.ireturn, 1) := by decide +kernel
theorem dL_law_1137 : decode cL_law 1137 = .ok (.goto 728, 3) := by decide +kernel
theorem dL_law_1140 : decode cL_law 1140 = .ok (.aload_n 1, 1) := by decide +kernel
theorem dL_law_1141 : decode cL_law 1141 = .ok (.invokevirtual 152, 3) := by decide +kernel
theorem dL_law_1144 : decode cL_law 1144 = .ok (.aload_n 2, 1) := by decide +kernel
theorem dL_law_1145 : decode cL_law 1145 = .ok (.invokevirtual 155, 3) := by decide +kernel
theorem dL_law_1148 : decode cL_law 1148 = .ok (.if_icmp .eq 717, 3) := by decide +kernel
theorem dL_law_1151 : decode cL_law 1151 = .ok (.iconst 0, 1) := by decide +kernel
theorem dL_law_1152 : decode cL_law 1152 = .ok (.ireturn, 1) := by decide +kernel
theorem dL_law_1153 : decode cL_law 1153 = .ok (.aload_n 1, 1) := by decide +kernel
theorem dL_law_1154 : decode cL_law 1154 = .ok (.aload_n 0, 1) := by decide +kernel
theorem dL_law_1155 : decode cL_law 1155 = .ok (.iload 4, 2) := by decide +kernel
theorem dL_law_1157 : decode cL_law 1157 = .ok (.iconst 1, 1) := by decide +kernel
theorem dL_law_1158 : decode cL_law 1158 = .ok (.iadd, 1) := by decide +kernel
theorem dL_law_1159 : decode cL_law 1159 = .ok (.iaload, 1) := by decide +kernel
theorem dL_law_1160 : decode cL_law 1160 = .ok (.aload_n 3, 1) := by decide +kernel
theorem dL_law_1161 : decode cL_law 1161 = .ok (.invokestatic 156, 3) := by decide +kernel
theorem dL_law_1164 : decode cL_law 1164 = .ok (.istore 5, 2) := by decide +kernel
theorem dL_law_1166 : decode cL_law 1166 = .ok (.aload_n 2, 1) := by decide +kernel
theorem dL_law_1167 : decode cL_law 1167 = .ok (.aload_n 0, 1) := by decide +kernel
theorem dL_law_1168 : decode cL_law 1168 = .ok (.iload 4, 2) := by decide +kernel
theorem dL_law_1170 : decode cL_law 1170 = .ok (.iconst 1, 1) := by decide +kernel
theorem dL_law_1171 : decode cL_law 1171 = .ok (.iadd, 1) := by decide +kernel
theorem dL_law_1172 : decode cL_law 1172 = .ok (.iaload, 1) := by decide +kernel
theorem dL_law_1173 : decode cL_law 1173 = .ok (.invokevirtual 158, 3) := by decide +kernel
theorem dL_law_1176 : decode cL_law 1176 = .ok (.istore 6, 2) := by decide +kernel
theorem dL_law_1178 : decode cL_law 1178 = .ok (.aload_n 2, 1) := by decide +kernel
theorem dL_law_1179 : decode cL_law 1179 = .ok (.invokevirtual 105, 3) := by decide +kernel
theorem dL_law_1182 : decode cL_law 1182 = .ok (.iload 5, 2) := by decide +kernel
theorem dL_law_1184 : decode cL_law 1184 = .ok (.if_icmp .eq 5, 3) := by decide +kernel
theorem dL_law_1187 : decode cL_law 1187 = .ok (.iconst 0, 1) := by decide +kernel
theorem dL_law_1188 : decode cL_law 1188 = .ok (.ireturn, 1) := by decide +kernel
theorem dL_law_1189 : decode cL_law 1189 = .ok (.iload 5, 2) := by decide +kernel
theorem dL_law_1191 : decode cL_law 1191 = .ok (.ifCond .ne 15, 3) := by decide +kernel
theorem dL_law_1194 : decode cL_law 1194 = .ok (.aload_n 3, 1) := by decide +kernel
theorem dL_law_1195 : decode cL_law 1195 = .ok (.iconst 0, 1) := by decide +kernel
theorem dL_law_1196 : decode cL_law 1196 = .ok (.laload, 1) := by decide +kernel
theorem dL_law_1197 : decode cL_law 1197 = .ok (.iload 6, 2) := by decide +kernel
theorem dL_law_1199 : decode cL_law 1199 = .ok (.i2l, 1) := by decide +kernel
theorem dL_law_1200 : decode cL_law 1200 = .ok (.lcmp, 1) := by decide +kernel
theorem dL_law_1201 : decode cL_law 1201 = .ok (.ifCond .eq 5, 3) := by decide +kernel
theorem dL_law_1204 : decode cL_law 1204 = .ok (.iconst 0, 1) := by decide +kernel
theorem dL_law_1205 : decode cL_law 1205 = .ok (.ireturn, 1) := by decide +kernel
theorem dL_law_1206 : decode cL_law 1206 = .ok (.goto 659, 3) := by decide +kernel
theorem dL_law_1209 : decode cL_law 1209 = .ok (.aload_n 1, 1) := by decide +kernel
theorem dL_law_1210 : decode cL_law 1210 = .ok (.aload_n 0, 1) := by decide +kernel
theorem dL_law_1211 : decode cL_law 1211 = .ok (.iload 4, 2) := by decide +kernel
theorem dL_law_1213 : decode cL_law 1213 = .ok (.iconst 1, 1) := by decide +kernel
theorem dL_law_1214 : decode cL_law 1214 = .ok (.iadd, 1) := by decide +kernel
theorem dL_law_1215 : decode cL_law 1215 = .ok (.iaload, 1) := by decide +kernel
theorem dL_law_1216 : decode cL_law 1216 = .ok (.aload_n 0, 1) := by decide +kernel
theorem dL_law_1217 : decode cL_law 1217 = .ok (.iload 4, 2) := by decide +kernel
theorem dL_law_1219 : decode cL_law 1219 = .ok (.iconst 2, 1) := by decide +kernel
theorem dL_law_1220 : decode cL_law 1220 = .ok (.iadd, 1) := by decide +kernel
theorem dL_law_1221 : decode cL_law 1221 = .ok (.iaload, 1) := by decide +kernel
theorem dL_law_1222 : decode cL_law 1222 = .ok (.aload_n 3, 1) := by decide +kernel
theorem dL_law_1223 : decode cL_law 1223 = .ok (.invokestatic 159, 3) := by decide +kernel
theorem dL_law_1226 : decode cL_law 1226 = .ok (.istore 5, 2) := by decide +kernel
theorem dL_law_1228 : decode cL_law 1228 = .ok (.aload_n 2, 1) := by decide +kernel
theorem dL_law_1229 : decode cL_law 1229 = .ok (.aload_n 0, 1) := by decide +kernel
theorem dL_law_1230 : decode cL_law 1230 = .ok (.iload 4, 2) := by decide +kernel
theorem dL_law_1232 : decode cL_law 1232 = .ok (.iconst 1, 1) := by decide +kernel
theorem dL_law_1233 : decode cL_law 1233 = .ok (.iadd, 1) := by decide +kernel
theorem dL_law_1234 : decode cL_law 1234 = .ok (.iaload, 1) := by decide +kernel
theorem dL_law_1235 : decode cL_law 1235 = .ok (.aload_n 0, 1) := by decide +kernel
theorem dL_law_1236 : decode cL_law 1236 = .ok (.iload 4, 2) := by decide +kernel
theorem dL_law_1238 : decode cL_law 1238 = .ok (.iconst 2, 1) := by decide +kernel
theorem dL_law_1239 : decode cL_law 1239 = .ok (.iadd, 1) := by decide +kernel
theorem dL_law_1240 : decode cL_law 1240 = .ok (.iaload, 1) := by decide +kernel
theorem dL_law_1241 : decode cL_law 1241 = .ok (.invokevirtual 161, 3) := by decide +kernel
theorem dL_law_1244 : decode cL_law 1244 = .ok (.istore 6, 2) := by decide +kernel
theorem dL_law_1246 : decode cL_law 1246 = .ok (.aload_n 2, 1) := by decide +kernel
theorem dL_law_1247 : decode cL_law 1247 = .ok (.invokevirtual 105, 3) := by decide +kernel
theorem dL_law_1250 : decode cL_law 1250 = .ok (.iload 5, 2) := by decide +kernel
theorem dL_law_1252 : decode cL_law 1252 = .ok (.if_icmp .eq 5, 3) := by decide +kernel
theorem dL_law_1255 : decode cL_law 1255 = .ok (.iconst 0, 1) := by decide +kernel
theorem dL_law_1256 : decode cL_law 1256 = .ok (.ireturn, 1) := by decide +kernel
theorem dL_law_1257 : decode cL_law 1257 = .ok (.iload 5, 2) := by decide +kernel
theorem dL_law_1259 : decode cL_law 1259 = .ok (.ifCond .ne 15, 3) := by decide +kernel
theorem dL_law_1262 : decode cL_law 1262 = .ok (.aload_n 3, 1) := by decide +kernel
theorem dL_law_1263 : decode cL_law 1263 = .ok (.iconst 0, 1) := by decide +kernel
theorem dL_law_1264 : decode cL_law 1264 = .ok (.laload, 1) := by decide +kernel
theorem dL_law_1265 : decode cL_law 1265 = .ok (.iload 6, 2) := by decide +kernel
theorem dL_law_1267 : decode cL_law 1267 = .ok (.i2l, 1) := by decide +kernel
theorem dL_law_1268 : decode cL_law 1268 = .ok (.lcmp, 1) := by decide +kernel
theorem dL_law_1269 : decode cL_law 1269 = .ok (.ifCond .eq 5, 3) := by decide +kernel
theorem dL_law_1272 : decode cL_law 1272 = .ok (.iconst 0, 1) := by decide +kernel
theorem dL_law_1273 : decode cL_law 1273 = .ok (.ireturn, 1) := by decide +kernel
theorem dL_law_1274 : decode cL_law 1274 = .ok (.goto 591, 3) := by decide +kernel
theorem dL_law_1277 : decode cL_law 1277 = .ok (.aload_n 1, 1) := by decide +kernel
theorem dL_law_1278 : decode cL_law 1278 = .ok (.aload_n 0, 1) := by decide +kernel
theorem dL_law_1279 : decode cL_law 1279 = .ok (.iload 4, 2) := by decide +kernel
theorem dL_law_1281 : decode cL_law 1281 = .ok (.iconst 1, 1) := by decide +kernel
theorem dL_law_1282 : decode cL_law 1282 = .ok (.iadd, 1) := by decide +kernel
theorem dL_law_1283 : decode cL_law 1283 = .ok (.iaload, 1) := by decide +kernel
theorem dL_law_1284 : decode cL_law 1284 = .ok (.aload_n 0, 1) := by decide +kernel
theorem dL_law_1285 : decode cL_law 1285 = .ok (.iload 4, 2) := by decide +kernel
theorem dL_law_1287 : decode cL_law 1287 = .ok (.iconst 2, 1) := by decide +kernel
theorem dL_law_1288 : decode cL_law 1288 = .ok (.iadd, 1) := by decide +kernel
theorem dL_law_1289 : decode cL_law 1289 = .ok (.iaload, 1) := by decide +kernel
theorem dL_law_1290 : decode cL_law 1290 = .ok (.aload_n 3, 1) := by decide +kernel
theorem dL_law_1291 : decode cL_law 1291 = .ok (.invokestatic 162, 3) := by decide +kernel
theorem dL_law_1294 : decode cL_law 1294 = .ok (.istore 5, 2) := by decide +kernel
theorem dL_law_1296 : decode cL_law 1296 = .ok (.aload_n 2, 1) := by decide +kernel
theorem dL_law_1297 : decode cL_law 1297 = .ok (.aload_n 0, 1) := by decide +kernel
theorem dL_law_1298 : decode cL_law 1298 = .ok (.iload 4, 2) := by decide +kernel
theorem dL_law_1300 : decode cL_law 1300 = .ok (.iconst 1, 1) := by decide +kernel
theorem dL_law_1301 : decode cL_law 1301 = .ok (.iadd, 1) := by decide +kernel
theorem dL_law_1302 : decode cL_law 1302 = .ok (.iaload, 1) := by decide +kernel
theorem dL_law_1303 : decode cL_law 1303 = .ok (.aload_n 0, 1) := by decide +kernel
theorem dL_law_1304 : decode cL_law 1304 = .ok (.iload 4, 2) := by decide +kernel
theorem dL_law_1306 : decode cL_law 1306 = .ok (.iconst 2, 1) := by decide +kernel
theorem dL_law_1307 : decode cL_law 1307 = .ok (.iadd, 1) := by decide +kernel
theorem dL_law_1308 : decode cL_law 1308 = .ok (.iaload, 1) := by decide +kernel
theorem dL_law_1309 : decode cL_law 1309 = .ok (.invokevirtual 164, 3) := by decide +kernel
theorem dL_law_1312 : decode cL_law 1312 = .ok (.istore 6, 2) := by decide +kernel
theorem dL_law_1314 : decode cL_law 1314 = .ok (.aload_n 2, 1) := by decide +kernel
theorem dL_law_1315 : decode cL_law 1315 = .ok (.invokevirtual 105, 3) := by decide +kernel
theorem dL_law_1318 : decode cL_law 1318 = .ok (.iload 5, 2) := by decide +kernel
theorem dL_law_1320 : decode cL_law 1320 = .ok (.if_icmp .eq 5, 3) := by decide +kernel
theorem dL_law_1323 : decode cL_law 1323 = .ok (.iconst 0, 1) := by decide +kernel
theorem dL_law_1324 : decode cL_law 1324 = .ok (.ireturn, 1) := by decide +kernel
theorem dL_law_1325 : decode cL_law 1325 = .ok (.iload 5, 2) := by decide +kernel
theorem dL_law_1327 : decode cL_law 1327 = .ok (.ifCond .ne 15, 3) := by decide +kernel
theorem dL_law_1330 : decode cL_law 1330 = .ok (.aload_n 3, 1) := by decide +kernel
theorem dL_law_1331 : decode cL_law 1331 = .ok (.iconst 0, 1) := by decide +kernel
theorem dL_law_1332 : decode cL_law 1332 = .ok (.laload, 1) := by decide +kernel
theorem dL_law_1333 : decode cL_law 1333 = .ok (.iload 6, 2) := by decide +kernel
theorem dL_law_1335 : decode cL_law 1335 = .ok (.i2l, 1) := by decide +kernel
theorem dL_law_1336 : decode cL_law 1336 = .ok (.lcmp, 1) := by decide +kernel
theorem dL_law_1337 : decode cL_law 1337 = .ok (.ifCond .eq 5, 3) := by decide +kernel
theorem dL_law_1340 : decode cL_law 1340 = .ok (.iconst 0, 1) := by decide +kernel
theorem dL_law_1341 : decode cL_law 1341 = .ok (.ireturn, 1) := by decide +kernel
theorem dL_law_1342 : decode cL_law 1342 = .ok (.goto 523, 3) := by decide +kernel
theorem dL_law_1345 : decode cL_law 1345 = .ok (.aload_n 1, 1) := by decide +kernel
theorem dL_law_1346 : decode cL_law 1346 = .ok (.aload_n 0, 1) := by decide +kernel
theorem dL_law_1347 : decode cL_law 1347 = .ok (.iload 4, 2) := by decide +kernel
theorem dL_law_1349 : decode cL_law 1349 = .ok (.iconst 1, 1) := by decide +kernel
theorem dL_law_1350 : decode cL_law 1350 = .ok (.iadd, 1) := by decide +kernel
theorem dL_law_1351 : decode cL_law 1351 = .ok (.iaload, 1) := by decide +kernel
theorem dL_law_1352 : decode cL_law 1352 = .ok (.aload_n 0, 1) := by decide +kernel
theorem dL_law_1353 : decode cL_law 1353 = .ok (.iload 4, 2) := by decide +kernel
theorem dL_law_1355 : decode cL_law 1355 = .ok (.iconst 2, 1) := by decide +kernel
theorem dL_law_1356 : decode cL_law 1356 = .ok (.iadd, 1) := by decide +kernel
theorem dL_law_1357 : decode cL_law 1357 = .ok (.iaload, 1) := by decide +kernel
theorem dL_law_1358 : decode cL_law 1358 = .ok (.aload_n 3, 1) := by decide +kernel
theorem dL_law_1359 : decode cL_law 1359 = .ok (.invokestatic 165, 3) := by decide +kernel
theorem dL_law_1362 : decode cL_law 1362 = .ok (.istore 5, 2) := by decide +kernel
theorem dL_law_1364 : decode cL_law 1364 = .ok (.aload_n 2, 1) := by decide +kernel
theorem dL_law_1365 : decode cL_law 1365 = .ok (.aload_n 0, 1) := by decide +kernel
theorem dL_law_1366 : decode cL_law 1366 = .ok (.iload 4, 2) := by decide +kernel
theorem dL_law_1368 : decode cL_law 1368 = .ok (.iconst 1, 1) := by decide +kernel
theorem dL_law_1369 : decode cL_law 1369 = .ok (.iadd, 1) := by decide +kernel
theorem dL_law_1370 : decode cL_law 1370 = .ok (.iaload, 1) := by decide +kernel
theorem dL_law_1371 : decode cL_law 1371 = .ok (.aload_n 0, 1) := by decide +kernel
theorem dL_law_1372 : decode cL_law 1372 = .ok (.iload 4, 2) := by decide +kernel
theorem dL_law_1374 : decode cL_law 1374 = .ok (.iconst 2, 1) := by decide +kernel
theorem dL_law_1375 : decode cL_law 1375 = .ok (.iadd, 1) := by decide +kernel
theorem dL_law_1376 : decode cL_law 1376 = .ok (.iaload, 1) := by decide +kernel
theorem dL_law_1377 : decode cL_law 1377 = .ok (.invokevirtual 167, 3) := by decide +kernel
theorem dL_law_1380 : decode cL_law 1380 = .ok (.istore 6, 2) := by decide +kernel
theorem dL_law_1382 : decode cL_law 1382 = .ok (.aload_n 2, 1) := by decide +kernel
theorem dL_law_1383 : decode cL_law 1383 = .ok (.invokevirtual 105, 3) := by decide +kernel
theorem dL_law_1386 : decode cL_law 1386 = .ok (.iload 5, 2) := by decide +kernel
theorem dL_law_1388 : decode cL_law 1388 = .ok (.if_icmp .eq 5, 3) := by decide +kernel
theorem dL_law_1391 : decode cL_law 1391 = .ok (.iconst 0, 1) := by decide +kernel
theorem dL_law_1392 : decode cL_law 1392 = .ok (.ireturn, 1) := by decide +kernel
theorem dL_law_1393 : decode cL_law 1393 = .ok (.iload 5, 2) := by decide +kernel
theorem dL_law_1395 : decode cL_law 1395 = .ok (.ifCond .ne 15, 3) := by decide +kernel
theorem dL_law_1398 : decode cL_law 1398 = .ok (.aload_n 3, 1) := by decide +kernel
theorem dL_law_1399 : decode cL_law 1399 = .ok (.iconst 0, 1) := by decide +kernel
theorem dL_law_1400 : decode cL_law 1400 = .ok (.laload, 1) := by decide +kernel
theorem dL_law_1401 : decode cL_law 1401 = .ok (.iload 6, 2) := by decide +kernel
theorem dL_law_1403 : decode cL_law 1403 = .ok (.i2l, 1) := by decide +kernel
theorem dL_law_1404 : decode cL_law 1404 = .ok (.lcmp, 1) := by decide +kernel
theorem dL_law_1405 : decode cL_law 1405 = .ok (.ifCond .eq 5, 3) := by decide +kernel
theorem dL_law_1408 : decode cL_law 1408 = .ok (.iconst 0, 1) := by decide +kernel
theorem dL_law_1409 : decode cL_law 1409 = .ok (.ireturn, 1) := by decide +kernel
theorem dL_law_1410 : decode cL_law 1410 = .ok (.goto 455, 3) := by decide +kernel
theorem dL_law_1413 : decode cL_law 1413 = .ok (.aload_n 1, 1) := by decide +kernel
theorem dL_law_1414 : decode cL_law 1414 = .ok (.aload_n 0, 1) := by decide +kernel
theorem dL_law_1415 : decode cL_law 1415 = .ok (.iload 4, 2) := by decide +kernel
theorem dL_law_1417 : decode cL_law 1417 = .ok (.iconst 1, 1) := by decide +kernel
theorem dL_law_1418 : decode cL_law 1418 = .ok (.iadd, 1) := by decide +kernel
theorem dL_law_1419 : decode cL_law 1419 = .ok (.iaload, 1) := by decide +kernel
theorem dL_law_1420 : decode cL_law 1420 = .ok (.aload_n 0, 1) := by decide +kernel
theorem dL_law_1421 : decode cL_law 1421 = .ok (.iload 4, 2) := by decide +kernel
theorem dL_law_1423 : decode cL_law 1423 = .ok (.iconst 2, 1) := by decide +kernel
theorem dL_law_1424 : decode cL_law 1424 = .ok (.iadd, 1) := by decide +kernel
theorem dL_law_1425 : decode cL_law 1425 = .ok (.iaload, 1) := by decide +kernel
theorem dL_law_1426 : decode cL_law 1426 = .ok (.aload_n 3, 1) := by decide +kernel
theorem dL_law_1427 : decode cL_law 1427 = .ok (.invokestatic 168, 3) := by decide +kernel
theorem dL_law_1430 : decode cL_law 1430 = .ok (.istore 5, 2) := by decide +kernel
theorem dL_law_1432 : decode cL_law 1432 = .ok (.aload_n 2, 1) := by decide +kernel
theorem dL_law_1433 : decode cL_law 1433 = .ok (.aload_n 0, 1) := by decide +kernel
theorem dL_law_1434 : decode cL_law 1434 = .ok (.iload 4, 2) := by decide +kernel
theorem dL_law_1436 : decode cL_law 1436 = .ok (.iconst 1, 1) := by decide +kernel
theorem dL_law_1437 : decode cL_law 1437 = .ok (.iadd, 1) := by decide +kernel
theorem dL_law_1438 : decode cL_law 1438 = .ok (.iaload, 1) := by decide +kernel
theorem dL_law_1439 : decode cL_law 1439 = .ok (.aload_n 0, 1) := by decide +kernel
theorem dL_law_1440 : decode cL_law 1440 = .ok (.iload 4, 2) := by decide +kernel
theorem dL_law_1442 : decode cL_law 1442 = .ok (.iconst 2, 1) := by decide +kernel
theorem dL_law_1443 : decode cL_law 1443 = .ok (.iadd, 1) := by decide +kernel
theorem dL_law_1444 : decode cL_law 1444 = .ok (.iaload, 1) := by decide +kernel
theorem dL_law_1445 : decode cL_law 1445 = .ok (.invokevirtual 170, 3) := by decide +kernel
theorem dL_law_1448 : decode cL_law 1448 = .ok (.istore 6, 2) := by decide +kernel
theorem dL_law_1450 : decode cL_law 1450 = .ok (.aload_n 2, 1) := by decide +kernel
theorem dL_law_1451 : decode cL_law 1451 = .ok (.invokevirtual 105, 3) := by decide +kernel
theorem dL_law_1454 : decode cL_law 1454 = .ok (.iload 5, 2) := by decide +kernel
theorem dL_law_1456 : decode cL_law 1456 = .ok (.if_icmp .eq 5, 3) := by decide +kernel
theorem dL_law_1459 : decode cL_law 1459 = .ok (.iconst 0, 1) := by decide +kernel
theorem dL_law_1460 : decode cL_law 1460 = .ok (.ireturn, 1) := by decide +kernel
theorem dL_law_1461 : decode cL_law 1461 = .ok (.iload 5, 2) := by decide +kernel
theorem dL_law_1463 : decode cL_law 1463 = .ok (.ifCond .ne 15, 3) := by decide +kernel
theorem dL_law_1466 : decode cL_law 1466 = .ok (.aload_n 3, 1) := by decide +kernel
theorem dL_law_1467 : decode cL_law 1467 = .ok (.iconst 0, 1) := by decide +kernel
theorem dL_law_1468 : decode cL_law 1468 = .ok (.laload, 1) := by decide +kernel
theorem dL_law_1469 : decode cL_law 1469 = .ok (.iload 6, 2) := by decide +kernel
theorem dL_law_1471 : decode cL_law 1471 = .ok (.i2l, 1) := by decide +kernel
theorem dL_law_1472 : decode cL_law 1472 = .ok (.lcmp, 1) := by decide +kernel
theorem dL_law_1473 : decode cL_law 1473 = .ok (.ifCond .eq 5, 3) := by decide +kernel
theorem dL_law_1476 : decode cL_law 1476 = .ok (.iconst 0, 1) := by decide +kernel
theorem dL_law_1477 : decode cL_law 1477 = .ok (.ireturn, 1) := by decide +kernel
theorem dL_law_1478 : decode cL_law 1478 = .ok (.goto 387, 3) := by decide +kernel
theorem dL_law_1481 : decode cL_law 1481 = .ok (.aload_n 1, 1) := by decide +kernel
theorem dL_law_1482 : decode cL_law 1482 = .ok (.aload_n 0, 1) := by decide +kernel
theorem dL_law_1483 : decode cL_law 1483 = .ok (.iload 4, 2) := by decide +kernel
theorem dL_law_1485 : decode cL_law 1485 = .ok (.iconst 1, 1) := by decide +kernel
theorem dL_law_1486 : decode cL_law 1486 = .ok (.iadd, 1) := by decide +kernel
theorem dL_law_1487 : decode cL_law 1487 = .ok (.iaload, 1) := by decide +kernel
theorem dL_law_1488 : decode cL_law 1488 = .ok (.aload_n 0, 1) := by decide +kernel
theorem dL_law_1489 : decode cL_law 1489 = .ok (.iload 4, 2) := by decide +kernel
theorem dL_law_1491 : decode cL_law 1491 = .ok (.iconst 2, 1) := by decide +kernel
theorem dL_law_1492 : decode cL_law 1492 = .ok (.iadd, 1) := by decide +kernel
theorem dL_law_1493 : decode cL_law 1493 = .ok (.iaload, 1) := by decide +kernel
theorem dL_law_1494 : decode cL_law 1494 = .ok (.aload_n 3, 1) := by decide +kernel
theorem dL_law_1495 : decode cL_law 1495 = .ok (.invokestatic 171, 3) := by decide +kernel
theorem dL_law_1498 : decode cL_law 1498 = .ok (.istore 5, 2) := by decide +kernel
theorem dL_law_1500 : decode cL_law 1500 = .ok (.aload_n 2, 1) := by decide +kernel
theorem dL_law_1501 : decode cL_law 1501 = .ok (.aload_n 0, 1) := by decide +kernel
theorem dL_law_1502 : decode cL_law 1502 = .ok (.iload 4, 2) := by decide +kernel
theorem dL_law_1504 : decode cL_law 1504 = .ok (.iconst 1, 1) := by decide +kernel
theorem dL_law_1505 : decode cL_law 1505 = .ok (.iadd, 1) := by decide +kernel
theorem dL_law_1506 : decode cL_law 1506 = .ok (.iaload, 1) := by decide +kernel
theorem dL_law_1507 : decode cL_law 1507 = .ok (.aload_n 0, 1) := by decide +kernel
theorem dL_law_1508 : decode cL_law 1508 = .ok (.iload 4, 2) := by decide +kernel
theorem dL_law_1510 : decode cL_law 1510 = .ok (.iconst 2, 1) := by decide +kernel
theorem dL_law_1511 : decode cL_law 1511 = .ok (.iadd, 1) := by decide +kernel
theorem dL_law_1512 : decode cL_law 1512 = .ok (.iaload, 1) := by decide +kernel
theorem dL_law_1513 : decode cL_law 1513 = .ok (.invokevirtual 173, 3) := by decide +kernel
theorem dL_law_1516 : decode cL_law 1516 = .ok (.istore 6, 2) := by decide +kernel
theorem dL_law_1518 : decode cL_law 1518 = .ok (.aload_n 2, 1) := by decide +kernel
theorem dL_law_1519 : decode cL_law 1519 = .ok (.invokevirtual 105, 3) := by decide +kernel
theorem dL_law_1522 : decode cL_law 1522 = .ok (.iload 5, 2) := by decide +kernel
theorem dL_law_1524 : decode cL_law 1524 = .ok (.if_icmp .eq 5, 3) := by decide +kernel
theorem dL_law_1527 : decode cL_law 1527 = .ok (.iconst 0, 1) := by decide +kernel
theorem dL_law_1528 : decode cL_law 1528 = .ok (.ireturn, 1) := by decide +kernel
theorem dL_law_1529 : decode cL_law 1529 = .ok (.iload 5, 2) := by decide +kernel
theorem dL_law_1531 : decode cL_law 1531 = .ok (.ifCond .ne 15, 3) := by decide +kernel
theorem dL_law_1534 : decode cL_law 1534 = .ok (.aload_n 3, 1) := by decide +kernel
theorem dL_law_1535 : decode cL_law 1535 = .ok (.iconst 0, 1) := by decide +kernel
theorem dL_law_1536 : decode cL_law 1536 = .ok (.laload, 1) := by decide +kernel
theorem dL_law_1537 : decode cL_law 1537 = .ok (.iload 6, 2) := by decide +kernel
theorem dL_law_1539 : decode cL_law 1539 = .ok (.i2l, 1) := by decide +kernel
theorem dL_law_1540 : decode cL_law 1540 = .ok (.lcmp, 1) := by decide +kernel
theorem dL_law_1541 : decode cL_law 1541 = .ok (.ifCond .eq 5, 3) := by decide +kernel
theorem dL_law_1544 : decode cL_law 1544 = .ok (.iconst 0, 1) := by decide +kernel
theorem dL_law_1545 : decode cL_law 1545 = .ok (.ireturn, 1) := by decide +kernel
theorem dL_law_1546 : decode cL_law 1546 = .ok (.goto 319, 3) := by decide +kernel
theorem dL_law_1549 : decode cL_law 1549 = .ok (.aload_n 1, 1) := by decide +kernel
theorem dL_law_1550 : decode cL_law 1550 = .ok (.aload_n 0, 1) := by decide +kernel
theorem dL_law_1551 : decode cL_law 1551 = .ok (.iload 4, 2) := by decide +kernel
theorem dL_law_1553 : decode cL_law 1553 = .ok (.iconst 1, 1) := by decide +kernel
theorem dL_law_1554 : decode cL_law 1554 = .ok (.iadd, 1) := by decide +kernel
theorem dL_law_1555 : decode cL_law 1555 = .ok (.iaload, 1) := by decide +kernel
theorem dL_law_1556 : decode cL_law 1556 = .ok (.aload_n 0, 1) := by decide +kernel
theorem dL_law_1557 : decode cL_law 1557 = .ok (.iload 4, 2) := by decide +kernel
theorem dL_law_1559 : decode cL_law 1559 = .ok (.iconst 2, 1) := by decide +kernel
theorem dL_law_1560 : decode cL_law 1560 = .ok (.iadd, 1) := by decide +kernel
theorem dL_law_1561 : decode cL_law 1561 = .ok (.iaload, 1) := by decide +kernel
theorem dL_law_1562 : decode cL_law 1562 = .ok (.aload_n 3, 1) := by decide +kernel
theorem dL_law_1563 : decode cL_law 1563 = .ok (.invokestatic 174, 3) := by decide +kernel
theorem dL_law_1566 : decode cL_law 1566 = .ok (.istore 5, 2) := by decide +kernel
theorem dL_law_1568 : decode cL_law 1568 = .ok (.aload_n 2, 1) := by decide +kernel
theorem dL_law_1569 : decode cL_law 1569 = .ok (.aload_n 0, 1) := by decide +kernel
theorem dL_law_1570 : decode cL_law 1570 = .ok (.iload 4, 2) := by decide +kernel
theorem dL_law_1572 : decode cL_law 1572 = .ok (.iconst 1, 1) := by decide +kernel
theorem dL_law_1573 : decode cL_law 1573 = .ok (.iadd, 1) := by decide +kernel
theorem dL_law_1574 : decode cL_law 1574 = .ok (.iaload, 1) := by decide +kernel
theorem dL_law_1575 : decode cL_law 1575 = .ok (.aload_n 0, 1) := by decide +kernel
theorem dL_law_1576 : decode cL_law 1576 = .ok (.iload 4, 2) := by decide +kernel
theorem dL_law_1578 : decode cL_law 1578 = .ok (.iconst 2, 1) := by decide +kernel
theorem dL_law_1579 : decode cL_law 1579 = .ok (.iadd, 1) := by decide +kernel
theorem dL_law_1580 : decode cL_law 1580 = .ok (.iaload, 1) := by decide +kernel
theorem dL_law_1581 : decode cL_law 1581 = .ok (.invokevirtual 176, 3) := by decide +kernel
theorem dL_law_1584 : decode cL_law 1584 = .ok (.istore 6, 2) := by decide +kernel
theorem dL_law_1586 : decode cL_law 1586 = .ok (.aload_n 2, 1) := by decide +kernel
theorem dL_law_1587 : decode cL_law 1587 = .ok (.invokevirtual 105, 3) := by decide +kernel
theorem dL_law_1590 : decode cL_law 1590 = .ok (.iload 5, 2) := by decide +kernel
theorem dL_law_1592 : decode cL_law 1592 = .ok (.if_icmp .eq 5, 3) := by decide +kernel
theorem dL_law_1595 : decode cL_law 1595 = .ok (.iconst 0, 1) := by decide +kernel
theorem dL_law_1596 : decode cL_law 1596 = .ok (.ireturn, 1) := by decide +kernel
theorem dL_law_1597 : decode cL_law 1597 = .ok (.iload 5, 2) := by decide +kernel
theorem dL_law_1599 : decode cL_law 1599 = .ok (.ifCond .ne 15, 3) := by decide +kernel
theorem dL_law_1602 : decode cL_law 1602 = .ok (.aload_n 3, 1) := by decide +kernel
theorem dL_law_1603 : decode cL_law 1603 = .ok (.iconst 0, 1) := by decide +kernel
theorem dL_law_1604 : decode cL_law 1604 = .ok (.laload, 1) := by decide +kernel
theorem dL_law_1605 : decode cL_law 1605 = .ok (.iload 6, 2) := by decide +kernel
theorem dL_law_1607 : decode cL_law 1607 = .ok (.i2l, 1) := by decide +kernel
theorem dL_law_1608 : decode cL_law 1608 = .ok (.lcmp, 1) := by decide +kernel
theorem dL_law_1609 : decode cL_law 1609 = .ok (.ifCond .eq 5, 3) := by decide +kernel
theorem dL_law_1612 : decode cL_law 1612 = .ok (.iconst 0, 1) := by decide +kernel
theorem dL_law_1613 : decode cL_law 1613 = .ok (.ireturn, 1) := by decide +kernel
theorem dL_law_1614 : decode cL_law 1614 = .ok (.goto 251, 3) := by decide +kernel
theorem dL_law_1617 : decode cL_law 1617 = .ok (.aload_n 1, 1) := by decide +kernel
theorem dL_law_1618 : decode cL_law 1618 = .ok (.aload_n 0, 1) := by decide +kernel
theorem dL_law_1619 : decode cL_law 1619 = .ok (.iload 4, 2) := by decide +kernel
theorem dL_law_1621 : decode cL_law 1621 = .ok (.iconst 1, 1) := by decide +kernel
theorem dL_law_1622 : decode cL_law 1622 = .ok (.iadd, 1) := by decide +kernel
theorem dL_law_1623 : decode cL_law 1623 = .ok (.iaload, 1) := by decide +kernel
theorem dL_law_1624 : decode cL_law 1624 = .ok (.aload_n 3, 1) := by decide +kernel
theorem dL_law_1625 : decode cL_law 1625 = .ok (.invokestatic 177, 3) := by decide +kernel
theorem dL_law_1628 : decode cL_law 1628 = .ok (.istore 5, 2) := by decide +kernel
theorem dL_law_1630 : decode cL_law 1630 = .ok (.aload_n 2, 1) := by decide +kernel
theorem dL_law_1631 : decode cL_law 1631 = .ok (.aload_n 0, 1) := by decide +kernel
theorem dL_law_1632 : decode cL_law 1632 = .ok (.iload 4, 2) := by decide +kernel
theorem dL_law_1634 : decode cL_law 1634 = .ok (.iconst 1, 1) := by decide +kernel
theorem dL_law_1635 : decode cL_law 1635 = .ok (.iadd, 1) := by decide +kernel
theorem dL_law_1636 : decode cL_law 1636 = .ok (.iaload, 1) := by decide +kernel
theorem dL_law_1637 : decode cL_law 1637 = .ok (.invokevirtual 179, 3) := by decide +kernel
theorem dL_law_1640 : decode cL_law 1640 = .ok (.istore 6, 2) := by decide +kernel
theorem dL_law_1642 : decode cL_law 1642 = .ok (.aload_n 2, 1) := by decide +kernel
theorem dL_law_1643 : decode cL_law 1643 = .ok (.invokevirtual 105, 3) := by decide +kernel
theorem dL_law_1646 : decode cL_law 1646 = .ok (.iload 5, 2) := by decide +kernel
theorem dL_law_1648 : decode cL_law 1648 = .ok (.if_icmp .eq 5, 3) := by decide +kernel
theorem dL_law_1651 : decode cL_law 1651 = .ok (.iconst 0, 1) := by decide +kernel
theorem dL_law_1652 : decode cL_law 1652 = .ok (.ireturn, 1) := by decide +kernel
theorem dL_law_1653 : decode cL_law 1653 = .ok (.iload 5, 2) := by decide +kernel
theorem dL_law_1655 : decode cL_law 1655 = .ok (.ifCond .ne 15, 3) := by decide +kernel
theorem dL_law_1658 : decode cL_law 1658 = .ok (.aload_n 3, 1) := by decide +kernel
theorem dL_law_1659 : decode cL_law 1659 = .ok (.iconst 0, 1) := by decide +kernel
theorem dL_law_1660 : decode cL_law 1660 = .ok (.laload, 1) := by decide +kernel
theorem dL_law_1661 : decode cL_law 1661 = .ok (.iload 6, 2) := by decide +kernel
theorem dL_law_1663 : decode cL_law 1663 = .ok (.i2l, 1) := by decide +kernel
theorem dL_law_1664 : decode cL_law 1664 = .ok (.lcmp, 1) := by decide +kernel
theorem dL_law_1665 : decode cL_law 1665 = .ok (.ifCond .eq 5, 3) := by decide +kernel
theorem dL_law_1668 : decode cL_law 1668 = .ok (.iconst 0, 1) := by decide +kernel
theorem dL_law_1669 : decode cL_law 1669 = .ok (.ireturn, 1) := by decide +kernel
theorem dL_law_1670 : decode cL_law 1670 = .ok (.goto 195, 3) := by decide +kernel
theorem dL_law_1673 : decode cL_law 1673 = .ok (.aload_n 1, 1) := by decide +kernel
theorem dL_law_1674 : decode cL_law 1674 = .ok (.aload_n 0, 1) := by decide +kernel
theorem dL_law_1675 : decode cL_law 1675 = .ok (.iload 4, 2) := by decide +kernel
theorem dL_law_1677 : decode cL_law 1677 = .ok (.iconst 1, 1) := by decide +kernel
theorem dL_law_1678 : decode cL_law 1678 = .ok (.iadd, 1) := by decide +kernel
theorem dL_law_1679 : decode cL_law 1679 = .ok (.iaload, 1) := by decide +kernel
theorem dL_law_1680 : decode cL_law 1680 = .ok (.aload_n 3, 1) := by decide +kernel
theorem dL_law_1681 : decode cL_law 1681 = .ok (.invokestatic 180, 3) := by decide +kernel
theorem dL_law_1684 : decode cL_law 1684 = .ok (.istore 5, 2) := by decide +kernel
theorem dL_law_1686 : decode cL_law 1686 = .ok (.aload_n 2, 1) := by decide +kernel
theorem dL_law_1687 : decode cL_law 1687 = .ok (.aload_n 0, 1) := by decide +kernel
theorem dL_law_1688 : decode cL_law 1688 = .ok (.iload 4, 2) := by decide +kernel
theorem dL_law_1690 : decode cL_law 1690 = .ok (.iconst 1, 1) := by decide +kernel
theorem dL_law_1691 : decode cL_law 1691 = .ok (.iadd, 1) := by decide +kernel
theorem dL_law_1692 : decode cL_law 1692 = .ok (.iaload, 1) := by decide +kernel
theorem dL_law_1693 : decode cL_law 1693 = .ok (.invokevirtual 182, 3) := by decide +kernel
theorem dL_law_1696 : decode cL_law 1696 = .ok (.istore 6, 2) := by decide +kernel
theorem dL_law_1698 : decode cL_law 1698 = .ok (.aload_n 2, 1) := by decide +kernel
theorem dL_law_1699 : decode cL_law 1699 = .ok (.invokevirtual 105, 3) := by decide +kernel
theorem dL_law_1702 : decode cL_law 1702 = .ok (.iload 5, 2) := by decide +kernel
theorem dL_law_1704 : decode cL_law 1704 = .ok (.if_icmp .eq 5, 3) := by decide +kernel
theorem dL_law_1707 : decode cL_law 1707 = .ok (.iconst 0, 1) := by decide +kernel
theorem dL_law_1708 : decode cL_law 1708 = .ok (.ireturn, 1) := by decide +kernel
theorem dL_law_1709 : decode cL_law 1709 = .ok (.iload 5, 2) := by decide +kernel
theorem dL_law_1711 : decode cL_law 1711 = .ok (.ifCond .ne 15, 3) := by decide +kernel
theorem dL_law_1714 : decode cL_law 1714 = .ok (.aload_n 3, 1) := by decide +kernel
theorem dL_law_1715 : decode cL_law 1715 = .ok (.iconst 0, 1) := by decide +kernel
theorem dL_law_1716 : decode cL_law 1716 = .ok (.laload, 1) := by decide +kernel
theorem dL_law_1717 : decode cL_law 1717 = .ok (.iload 6, 2) := by decide +kernel
theorem dL_law_1719 : decode cL_law 1719 = .ok (.i2l, 1) := by decide +kernel
theorem dL_law_1720 : decode cL_law 1720 = .ok (.lcmp, 1) := by decide +kernel
theorem dL_law_1721 : decode cL_law 1721 = .ok (.ifCond .eq 5, 3) := by decide +kernel
theorem dL_law_1724 : decode cL_law 1724 = .ok (.iconst 0, 1) := by decide +kernel
theorem dL_law_1725 : decode cL_law 1725 = .ok (.ireturn, 1) := by decide +kernel
theorem dL_law_1726 : decode cL_law 1726 = .ok (.goto 139, 3) := by decide +kernel
theorem dL_law_1729 : decode cL_law 1729 = .ok (.aload_n 1, 1) := by decide +kernel
theorem dL_law_1730 : decode cL_law 1730 = .ok (.aload_n 0, 1) := by decide +kernel
theorem dL_law_1731 : decode cL_law 1731 = .ok (.iload 4, 2) := by decide +kernel
theorem dL_law_1733 : decode cL_law 1733 = .ok (.iconst 1, 1) := by decide +kernel
theorem dL_law_1734 : decode cL_law 1734 = .ok (.iadd, 1) := by decide +kernel
theorem dL_law_1735 : decode cL_law 1735 = .ok (.iaload, 1) := by decide +kernel
theorem dL_law_1736 : decode cL_law 1736 = .ok (.aload_n 0, 1) := by decide +kernel
theorem dL_law_1737 : decode cL_law 1737 = .ok (.iload 4, 2) := by decide +kernel
theorem dL_law_1739 : decode cL_law 1739 = .ok (.iconst 2, 1) := by decide +kernel
theorem dL_law_1740 : decode cL_law 1740 = .ok (.iadd, 1) := by decide +kernel
theorem dL_law_1741 : decode cL_law 1741 = .ok (.iaload, 1) := by decide +kernel
theorem dL_law_1742 : decode cL_law 1742 = .ok (.aload_n 3, 1) := by decide +kernel
theorem dL_law_1743 : decode cL_law 1743 = .ok (.invokestatic 183, 3) := by decide +kernel
theorem dL_law_1746 : decode cL_law 1746 = .ok (.istore 5, 2) := by decide +kernel
theorem dL_law_1748 : decode cL_law 1748 = .ok (.aload_n 2, 1) := by decide +kernel
theorem dL_law_1749 : decode cL_law 1749 = .ok (.aload_n 0, 1) := by decide +kernel
theorem dL_law_1750 : decode cL_law 1750 = .ok (.iload 4, 2) := by decide +kernel
theorem dL_law_1752 : decode cL_law 1752 = .ok (.iconst 1, 1) := by decide +kernel
theorem dL_law_1753 : decode cL_law 1753 = .ok (.iadd, 1) := by decide +kernel
theorem dL_law_1754 : decode cL_law 1754 = .ok (.iaload, 1) := by decide +kernel
theorem dL_law_1755 : decode cL_law 1755 = .ok (.aload_n 0, 1) := by decide +kernel
theorem dL_law_1756 : decode cL_law 1756 = .ok (.iload 4, 2) := by decide +kernel
theorem dL_law_1758 : decode cL_law 1758 = .ok (.iconst 2, 1) := by decide +kernel
theorem dL_law_1759 : decode cL_law 1759 = .ok (.iadd, 1) := by decide +kernel
theorem dL_law_1760 : decode cL_law 1760 = .ok (.iaload, 1) := by decide +kernel
theorem dL_law_1761 : decode cL_law 1761 = .ok (.invokevirtual 185, 3) := by decide +kernel
theorem dL_law_1764 : decode cL_law 1764 = .ok (.istore 6, 2) := by decide +kernel
theorem dL_law_1766 : decode cL_law 1766 = .ok (.aload_n 2, 1) := by decide +kernel
theorem dL_law_1767 : decode cL_law 1767 = .ok (.invokevirtual 105, 3) := by decide +kernel
theorem dL_law_1770 : decode cL_law 1770 = .ok (.iload 5, 2) := by decide +kernel
theorem dL_law_1772 : decode cL_law 1772 = .ok (.if_icmp .eq 5, 3) := by decide +kernel
theorem dL_law_1775 : decode cL_law 1775 = .ok (.iconst 0, 1) := by decide +kernel
theorem dL_law_1776 : decode cL_law 1776 = .ok (.ireturn, 1) := by decide +kernel
theorem dL_law_1777 : decode cL_law 1777 = .ok (.iload 5, 2) := by decide +kernel
theorem dL_law_1779 : decode cL_law 1779 = .ok (.ifCond .ne 15, 3) := by decide +kernel
theorem dL_law_1782 : decode cL_law 1782 = .ok (.aload_n 3, 1) := by decide +kernel
theorem dL_law_1783 : decode cL_law 1783 = .ok (.iconst 0, 1) := by decide +kernel
theorem dL_law_1784 : decode cL_law 1784 = .ok (.laload, 1) := by decide +kernel
theorem dL_law_1785 : decode cL_law 1785 = .ok (.iload 6, 2) := by decide +kernel
theorem dL_law_1787 : decode cL_law 1787 = .ok (.i2l, 1) := by decide +kernel
theorem dL_law_1788 : decode cL_law 1788 = .ok (.lcmp, 1) := by decide +kernel
theorem dL_law_1789 : decode cL_law 1789 = .ok (.ifCond .eq 5, 3) := by decide +kernel
theorem dL_law_1792 : decode cL_law 1792 = .ok (.iconst 0, 1) := by decide +kernel
theorem dL_law_1793 : decode cL_law 1793 = .ok (.ireturn, 1) := by decide +kernel
theorem dL_law_1794 : decode cL_law 1794 = .ok (.goto 71, 3) := by decide +kernel
theorem dL_law_1797 : decode cL_law 1797 = .ok (.aload_n 1, 1) := by decide +kernel
theorem dL_law_1798 : decode cL_law 1798 = .ok (.aload_n 0, 1) := by decide +kernel
theorem dL_law_1799 : decode cL_law 1799 = .ok (.iload 4, 2) := by decide +kernel
theorem dL_law_1801 : decode cL_law 1801 = .ok (.iconst 1, 1) := by decide +kernel
theorem dL_law_1802 : decode cL_law 1802 = .ok (.iadd, 1) := by decide +kernel
theorem dL_law_1803 : decode cL_law 1803 = .ok (.iaload, 1) := by decide +kernel
theorem dL_law_1804 : decode cL_law 1804 = .ok (.aload_n 0, 1) := by decide +kernel
theorem dL_law_1805 : decode cL_law 1805 = .ok (.iload 4, 2) := by decide +kernel
theorem dL_law_1807 : decode cL_law 1807 = .ok (.iconst 2, 1) := by decide +kernel
theorem dL_law_1808 : decode cL_law 1808 = .ok (.iadd, 1) := by decide +kernel
theorem dL_law_1809 : decode cL_law 1809 = .ok (.iaload, 1) := by decide +kernel
theorem dL_law_1810 : decode cL_law 1810 = .ok (.aload_n 3, 1) := by decide +kernel
theorem dL_law_1811 : decode cL_law 1811 = .ok (.invokestatic 186, 3) := by decide +kernel
theorem dL_law_1814 : decode cL_law 1814 = .ok (.istore 5, 2) := by decide +kernel
theorem dL_law_1816 : decode cL_law 1816 = .ok (.aload_n 2, 1) := by decide +kernel
theorem dL_law_1817 : decode cL_law 1817 = .ok (.aload_n 0, 1) := by decide +kernel
theorem dL_law_1818 : decode cL_law 1818 = .ok (.iload 4, 2) := by decide +kernel
theorem dL_law_1820 : decode cL_law 1820 = .ok (.iconst 1, 1) := by decide +kernel
theorem dL_law_1821 : decode cL_law 1821 = .ok (.iadd, 1) := by decide +kernel
theorem dL_law_1822 : decode cL_law 1822 = .ok (.iaload, 1) := by decide +kernel
theorem dL_law_1823 : decode cL_law 1823 = .ok (.aload_n 0, 1) := by decide +kernel
theorem dL_law_1824 : decode cL_law 1824 = .ok (.iload 4, 2) := by decide +kernel
theorem dL_law_1826 : decode cL_law 1826 = .ok (.iconst 2, 1) := by decide +kernel
theorem dL_law_1827 : decode cL_law 1827 = .ok (.iadd, 1) := by decide +kernel
theorem dL_law_1828 : decode cL_law 1828 = .ok (.iaload, 1) := by decide +kernel
theorem dL_law_1829 : decode cL_law 1829 = .ok (.invokevirtual 188, 3) := by decide +kernel
theorem dL_law_1832 : decode cL_law 1832 = .ok (.istore 6, 2) := by decide +kernel
theorem dL_law_1834 : decode cL_law 1834 = .ok (.aload_n 2, 1) := by decide +kernel
theorem dL_law_1835 : decode cL_law 1835 = .ok (.invokevirtual 105, 3) := by decide +kernel
theorem dL_law_1838 : decode cL_law 1838 = .ok (.iload 5, 2) := by decide +kernel
theorem dL_law_1840 : decode cL_law 1840 = .ok (.if_icmp .eq 5, 3) := by decide +kernel
theorem dL_law_1843 : decode cL_law 1843 = .ok (.iconst 0, 1) := by decide +kernel
theorem dL_law_1844 : decode cL_law 1844 = .ok (.ireturn, 1) := by decide +kernel
theorem dL_law_1845 : decode cL_law 1845 = .ok (.iload 5, 2) := by decide +kernel
theorem dL_law_1847 : decode cL_law 1847 = .ok (.ifCond .ne 15, 3) := by decide +kernel
theorem dL_law_1850 : decode cL_law 1850 = .ok (.aload_n 3, 1) := by decide +kernel
theorem dL_law_1851 : decode cL_law 1851 = .ok (.iconst 0, 1) := by decide +kernel
theorem dL_law_1852 : decode cL_law 1852 = .ok (.laload, 1) := by decide +kernel
theorem dL_law_1853 : decode cL_law 1853 = .ok (.iload 6, 2) := by decide +kernel
theorem dL_law_1855 : decode cL_law 1855 = .ok (.i2l, 1) := by decide +kernel
theorem dL_law_1856 : decode cL_law 1856 = .ok (.lcmp, 1) := by decide +kernel
theorem dL_law_1857 : decode cL_law 1857 = .ok (.ifCond .eq 5, 3) := by decide +kernel
theorem dL_law_1860 : decode cL_law 1860 = .ok (.iconst 0, 1) := by decide +kernel
theorem dL_law_1861 : decode cL_law 1861 = .ok (.ireturn, 1) := by decide +kernel
theorem dL_law_1862 : decode cL_law 1862 = .ok (.goto 3, 3) := by decide +kernel
theorem dL_law_1865 : decode cL_law 1865 = .ok (.iinc 4 5, 3) := by decide +kernel
theorem dL_law_1868 : decode cL_law 1868 = .ok (.goto (-1845), 3) := by decide +kernel
theorem dL_law_1871 : decode cL_law 1871 = .ok (.iconst 1, 1) := by decide +kernel
theorem dL_law_1872 : decode cL_law 1872 = .ok (.ireturn, 1) := by decide +kernel
end
section
section VXIA
variable {p : Program} {l : Launch} {e : Env} {R : Room} {s : State} {m : MethodId} {args : Array Value} {below : List Frame} {meth : Method} {c : Code} {T : State} {locs : List Loc} {cells slots : Nat}
theorem vx_callI (X : Stand p l e R s m args below meth c T locs cells slots) (hexec : p.tables.exec = Jvm.exec) {own : String} {index : Nat} {y : MethodName} {bytes : ByteArray} {maxL : Nat}
    (hown : s.vm.findClass own = some m.cls) (hy1 : y.name = "<init>") (hlink : (Cond.methodLink own index y).before args s = true) (hinst : (Cond.instanceMethod y).before args s = true)
    (hcode : (Cond.code y bytes maxL none).before args s = true) (hy : y.cls ≠ "java/lang/invoke/MethodHandle" ∧ y.cls ≠ "java/lang/invoke/VarHandle")
    {W9 : Nat} {Pre : Pt → Array Value → Prop} {Post : Pt → Array Value → Option Value → Pt → Prop} {PostX : Pt → Array Value → Addr → Pt → Prop} (hK : vx_Back l R p e below s args y 3 W9 Pre Post PostX)
    {g : JFrame} (hg : g.method = m) (hsize : g.locals.size = c.maxLocals) {a : Addr} {argsL rest : List Value} (hlen : ∀ sig, parseMethodDescriptor y.desc = some sig → argsL.length = sig.parameters.length)
    (hstack : g.stack = argsL.reverse ++ .ref a :: rest) (hW : 2 * g.monitorRoom + (rest.map fun v => v.category).sum ≤ W9) (hdg : decode c.code g.pc = .ok (.invokespecial index, 3))
    (hpre : ∀ vm₁, s.WarmedH vm₁ → Pre ⟨T.setVm vm₁, locs, cells, slots⟩ (Value.ref a :: argsL).toArray) :
    (∃ (v : Option Value) (vm₁ : Vm) (B : Pt), s.WarmedH vm₁ ∧ Stand p l e R s m args below meth c B.U B.locs B.cells B.slots ∧ Post ⟨T.setVm vm₁, locs, cells, slots⟩ (Value.ref a :: argsL).toArray v B ∧
      ∀ target, Steps p.tables e below (B.U.setTop { g with pc := g.pc + 3, stack := v.toList ++ rest }) target → Steps p.tables e below (T.setTop g) target) ∨
    (∃ (q : Addr) (vm₁ : Vm) (B : Pt), s.WarmedH vm₁ ∧ Stand p l e R s m args below meth c B.U B.locs B.cells B.slots ∧ PostX ⟨T.setVm vm₁, locs, cells, slots⟩ (Value.ref a :: argsL).toArray q B ∧
      Steps p.tables e below (T.setTop g) ((B.U.setTop { g with stack := rest }).pushFrame (.throwing q))) := by
  subst hg
  have hpl : e.platform.magicAccessors = ({} : Platform).magicAccessors := by rw [X.admits.platform]
  obtain ⟨mk, methM, cM, kP, vm₁, hnamed, hmethM, hcodeM, -, hlocalsM, -, hkP, -, hW₁, hstep₁⟩ := Steps.initColdArgs (e := e) X.here hexec X.warmed hpl hown hy1 hy hlink hinst hcode (f := g) rfl hlen hstack hdg
  have X₁ := X.noted hW₁
  rcases hK g.method meth c ⟨T.setVm vm₁, locs, cells, slots⟩ { g with stack := rest } (.invokespecial index) mk (Value.ref a :: argsL).toArray X₁ rfl hsize hdg hW (X₁.named hnamed) (hpre vm₁ X₁.warmed) with ⟨v, B, X', hpost, hsteps⟩ | ⟨q, B, X', hpost, hsteps⟩
  · exact Or.inl ⟨v, vm₁, B, X₁.warmed, X', hpost, fun target h => hstep₁ _ fun acts => by rw [doInvoke_state]; exact hsteps.trans h⟩
  · exact Or.inr ⟨q, vm₁, B, X₁.warmed, X', hpost, hstep₁ _ fun acts => by rw [doInvoke_state]; exact hsteps⟩
end VXIA
section VXIB
variable {p : Program} {l : Launch} {e : Env} {R : Room} {s : State} {m : MethodId} {args : Array Value} {below : List Frame} {meth : Method} {c : Code} {H : Heap} {locs : List Loc} {cells slots : Nat}
variable {y : MethodName} {bytes cc : ByteArray} {maxL nL mc ms n index : Nat} {ret : Option FieldType} {ws : List Cond} {rm : Room} {Pc : Array Value → State → Prop} {Qc : Array Value → State → Outcome → State → Prop} {XC : String → State → State → Prop} {free : Addr → Prop} {Ts : List Cond} {own C : String} {b : Addr} {As rest : List Value} {g : JFrame}
theorem vx_runI (S : CallFix p m c cc nL s args Ts own) (hM : vx_Met l y ws rm Pc Qc XC mc ms free) (cw : CallB R s args own index y bytes maxL none ws rm mc ms n ∧ y.name = "<init>" ∧ (Cond.instanceMethod y).before args s = true) (hp : PreS s H Pc (.ref b :: As))
    (hg : g.method = m) (hn : As.length = n) (hsize : g.locals.size = nL) (hstack : g.stack = As.reverse ++ .ref b :: rest) (hW : 2 * g.monitorRoom + (rest.map fun v => v.category).sum ≤ 8) (hdg : decode cc g.pc = .ok (.invokespecial index, 3)) (hf : cells + mc ≤ R.cells ∧ slots + ms ≤ R.slots) :
    vx_Run p l e R s m args below meth c H locs cells slots mc ms g rest (Qc (Value.ref b :: As).toArray) XC free := by
  have hK : vx_Back l R p e below s args y 3 8 (PreOf R mc ms Pc) (PostOf Qc mc ms free) (vx_Post XC mc ms free) := vx_callBack cw.1 hM hp.1
  obtain ⟨⟨-, -, -, -, -, -, hcode, -, hy, hlen, hl⟩, hy1, hin⟩ := cw
  obtain ⟨hx, hb, hml, ho, -⟩ := S
  have hPc := hp.2
  intro T hT X
  rcases vx_callI X hx (bytes := bytes) (maxL := maxL) ho hy1 hl hin hcode hy hK hg (hsize.trans hml.symm) (a := b) (argsL := As) (rest := rest) (fun sig h => hn.trans (hlen sig h)) hstack hW (by rw [hb]; exact hdg)
    (fun vm₁ hW₁ => ⟨hf.1, hf.2, hPc (T.setVm vm₁) hT hW₁⟩) with ⟨v, vm₁, ⟨U', l2, c2, s2⟩, hW₁, X', ⟨g', mk, t, L, e1, e2, hq, h1, hL, h2, h3⟩, st⟩ | ⟨q, vm₁, ⟨U', l2, c2, s2⟩, hW₁, X', ⟨g', mk, t, L, E, ce, e1, e2, hq, hce, hcv, hcl, h1, hL, h2, h3⟩, st⟩
  · dsimp only [Pt.U, Pt.locs, Pt.cells, Pt.slots] at X' e1 e2 h1 h2 h3 st
    subst h1; subst h2; subst h3
    exact Or.inl ⟨v, (T.setVm vm₁).calling g' mk (Value.ref b :: As).toArray, t, U', L, hT, X', hL, e1, e2, hq, st⟩
  · dsimp only [Pt.U, Pt.locs, Pt.cells, Pt.slots] at X' e1 e2 h1 h2 h3 st hcl
    subst h1; subst h2; subst h3
    exact Or.inr ⟨q, (T.setVm vm₁).calling g' mk (Value.ref b :: As).toArray, t, U', L, E, ce, hT, X', hL, e1, e2, hq, hce, hcv, vx_cls hW₁ hcl, st⟩
end VXIB
section
variable {p : Program} {l : Launch} {e : Env} {R : Room} {s : State} {m : MethodId} {args : Array Value} {below : List Frame} {meth : Method} {c : Code} {H : Heap} {locs : List Loc} {cells slots : Nat}
variable {T : State}
theorem vx_callVN (X : Stand p l e R s m args below meth c T locs cells slots) (hexec : p.tables.exec = Jvm.exec) {own C : String} {index : Nat} {host : String} {y : MethodName} {bytes : ByteArray} {maxL : Nat} {ret : Option FieldType}
    (hown : s.vm.findClass own = some m.cls) (hlink : (Cond.methodLinkNest own index y host).before args s = true) (hinst : (Cond.instanceMethod y).before args s = true) (hsel : (Cond.selects C y y).before args s = true)
    (hcode : (Cond.code y bytes maxL ret).before args s = true) (hy : y.cls ≠ "java/lang/invoke/MethodHandle" ∧ y.cls ≠ "java/lang/invoke/VarHandle")
    {W : Nat} {Pre : Pt → Array Value → Prop} {Post : Pt → Array Value → Option Value → Pt → Prop} {PostX : Pt → Array Value → Addr → Pt → Prop} (hK : vx_Back l R p e below s args y 3 W Pre Post PostX)
    {b : Addr} {cellB : Cell} (hcell : T.heap[b]? = some cellB) (hobj : cellB.vm.isStatics = false) (hcls : s.vm.findClass C = some cellB.cls)
    {g : JFrame} (hg : g.method = m) (hsize : g.locals.size = c.maxLocals) {argsL rest : List Value} (hlen : ∀ sig, parseMethodDescriptor y.desc = some sig → argsL.length = sig.parameters.length)
    (hstack : g.stack = argsL.reverse ++ .ref b :: rest) (hW : 2 * g.monitorRoom + (rest.map fun v => v.category).sum ≤ W) (hdg : decode c.code g.pc = .ok (.invokevirtual index, 3))
    (hpre : ∀ vm₁, s.WarmedH vm₁ → Pre ⟨T.setVm vm₁, locs, cells, slots⟩ (Value.ref b :: argsL).toArray) :
    (∃ (v : Option Value) (vm₁ : Vm) (B : Pt), s.WarmedH vm₁ ∧ Stand p l e R s m args below meth c B.U B.locs B.cells B.slots ∧ Post ⟨T.setVm vm₁, locs, cells, slots⟩ (Value.ref b :: argsL).toArray v B ∧
      ∀ target, Steps p.tables e below (B.U.setTop { g with pc := g.pc + 3, stack := v.toList ++ rest }) target → Steps p.tables e below (T.setTop g) target) ∨
    (∃ (q : Addr) (vm₁ : Vm) (B : Pt), s.WarmedH vm₁ ∧ Stand p l e R s m args below meth c B.U B.locs B.cells B.slots ∧ PostX ⟨T.setVm vm₁, locs, cells, slots⟩ (Value.ref b :: argsL).toArray q B ∧
      Steps p.tables e below (T.setTop g) ((B.U.setTop { g with stack := rest }).pushFrame (.throwing q))) := by
  obtain ⟨mk, methM, hnamed, hmethM, hstM, habM⟩ := Cond.instanceMethod_spec hinst
  obtain ⟨methM', cM, hmethM', -, -, -, -, -, -, hsigM⟩ := Cond.code_spec hnamed hcode
  cases hmethM.symm.trans hmethM'
  obtain ⟨c2, r2, m2, q1, q2, q3, q4, kP, hkP, hkPi⟩ := Cond.selects_spec hsel
  cases hcls.symm.trans q1
  cases (State.methodFound?_of_named hnamed hy).symm.trans q2
  cases hnamed.symm.trans q3
  have hselP : selectMethod e.platform s.vm cellB.cls mk = .method mk := by rw [Launch.admits_selectMethod X.admits]; exact q4
  obtain ⟨vm₁, X₁, hstep₁⟩ := X.invokevirtualNest hexec hown hlink hnamed hmethM hstM hkP hkPi hy (a := b) (cell := cellB) hcell
    (fun z h => by rw [h] at hobj; cases hobj) hselP hmethM habM hkP hkPi (g := g) hg (argsL := argsL) (rest := rest) (hlen _ hsigM) hstack hdg
  rcases hK m meth c ⟨T.setVm vm₁, locs, cells, slots⟩ { g with stack := rest } (.invokevirtual index) mk (Value.ref b :: argsL).toArray X₁ hg hsize hdg hW (X₁.named hnamed) (hpre vm₁ X₁.warmed) with ⟨v, B, X', hpost, hsteps⟩ | ⟨q, B, X', hpost, hsteps⟩
  · exact Or.inl ⟨v, vm₁, B, X₁.warmed, X', hpost, fun target h => hstep₁ _ fun acts => by rw [doInvoke_state]; exact hsteps.trans h⟩
  · exact Or.inr ⟨q, vm₁, B, X₁.warmed, X', hpost, hstep₁ _ fun acts => by rw [doInvoke_state]; exact hsteps⟩
theorem vx_callSN (X : Stand p l e R s m args below meth c T locs cells slots) (hexec : p.tables.exec = Jvm.exec) {own : String} {index : Nat} {host : String} {y : MethodName} {bytes : ByteArray} {maxL : Nat} {ret : Option FieldType}
    (hown : s.vm.findClass own = some m.cls) (hlink : (Cond.methodLinkNest own index y host).before args s = true) (hstat : (Cond.static y).before args s = true) (hinit : (Cond.initialized y.cls).before args s = true)
    (hcode : (Cond.code y bytes maxL ret).before args s = true) (hy : y.cls ≠ "java/lang/invoke/MethodHandle" ∧ y.cls ≠ "java/lang/invoke/VarHandle")
    {W : Nat} {Pre : Pt → Array Value → Prop} {Post : Pt → Array Value → Option Value → Pt → Prop} {PostX : Pt → Array Value → Addr → Pt → Prop} (hK : vx_Back l R p e below s args y 3 W Pre Post PostX)
    {g : JFrame} (hg : g.method = m) (hsize : g.locals.size = c.maxLocals) {argsL rest : List Value} (hlen : ∀ sig, parseMethodDescriptor y.desc = some sig → argsL.length = sig.parameters.length)
    (hstack : g.stack = argsL.reverse ++ rest) (hW : 2 * g.monitorRoom + (rest.map fun v => v.category).sum ≤ W) (hdg : decode c.code g.pc = .ok (.invokestatic index, 3))
    (hpre : ∀ vm₁, s.WarmedH vm₁ → Pre ⟨T.setVm vm₁, locs, cells, slots⟩ argsL.toArray) :
    (∃ (v : Option Value) (vm₁ : Vm) (B : Pt), s.WarmedH vm₁ ∧ Stand p l e R s m args below meth c B.U B.locs B.cells B.slots ∧ Post ⟨T.setVm vm₁, locs, cells, slots⟩ argsL.toArray v B ∧
      ∀ target, Steps p.tables e below (B.U.setTop { g with pc := g.pc + 3, stack := v.toList ++ rest }) target → Steps p.tables e below (T.setTop g) target) ∨
    (∃ (q : Addr) (vm₁ : Vm) (B : Pt), s.WarmedH vm₁ ∧ Stand p l e R s m args below meth c B.U B.locs B.cells B.slots ∧ PostX ⟨T.setVm vm₁, locs, cells, slots⟩ argsL.toArray q B ∧
      Steps p.tables e below (T.setTop g) ((B.U.setTop { g with stack := rest }).pushFrame (.throwing q))) := by
  obtain ⟨mk, hnamed⟩ := Cond.code_named hcode
  obtain ⟨methM, cM, hmethM, -, -, -, -, -, -, hsigM⟩ := Cond.code_spec hnamed hcode
  have hstatic : methM.isStatic = true := Cond.static_spec hnamed hmethM hstat
  obtain ⟨kP, hkP, -⟩ := className_of_methodNamed hnamed
  have hinitP : kP.init = .initialized := Cond.initialized_spec (findClass_of_methodNamed hnamed) hkP hinit
  obtain ⟨vm₁, X₁, hstep₁⟩ := X.invokestaticNest hexec hown hlink hnamed hmethM hstatic hkP hinitP hy (g := g) hg (argsL := argsL) (rest := rest) (hlen _ hsigM) hstack hdg
  rcases hK m meth c ⟨T.setVm vm₁, locs, cells, slots⟩ { g with stack := rest } (.invokestatic index) mk argsL.toArray X₁ hg hsize hdg hW (X₁.named hnamed) (hpre vm₁ X₁.warmed) with ⟨v, B, X', hpost, hsteps⟩ | ⟨q, B, X', hpost, hsteps⟩
  · exact Or.inl ⟨v, vm₁, B, X₁.warmed, X', hpost, fun target h => hstep₁ _ fun acts => by rw [doInvoke_state]; exact hsteps.trans h⟩
  · exact Or.inr ⟨q, vm₁, B, X₁.warmed, X', hpost, hstep₁ _ fun acts => by rw [doInvoke_state]; exact hsteps⟩
theorem vx_runVN {y : MethodName} {bytes cc : ByteArray} {maxL nL mc ms n index : Nat} {ret : Option FieldType} {ws : List Cond} {rm : Room} {Pc : Array Value → State → Prop} {Qc : Array Value → State → Outcome → State → Prop} {XC : String → State → State → Prop} {free : Addr → Prop} {Ts : List Cond} {own C host : String} {b : Addr} {As rest : List Value} {g : JFrame}
    (S : CallFix p m c cc nL s args Ts own) (hM : vx_Met l y ws rm Pc Qc XC mc ms free) (cw : va_CN R s args own index y host bytes maxL ret ws rm mc ms n ∧ (Cond.instanceMethod y).before args s = true ∧ (Cond.selects C y y).before args s = true) (hp : PreV s H C b Pc As)
    (hg : g.method = m) (hn : As.length = n) (hsize : g.locals.size = nL) (hstack : g.stack = As.reverse ++ .ref b :: rest) (hW : 2 * g.monitorRoom + (rest.map fun v => v.category).sum ≤ 8) (hdg : decode cc g.pc = .ok (.invokevirtual index, 3)) (hf : cells + mc ≤ R.cells ∧ slots + ms ≤ R.slots) :
    vx_Run p l e R s m args below meth c H locs cells slots mc ms g rest (Qc (Value.ref b :: As).toArray) XC free := by
  obtain ⟨⟨⟨hrc, hrs, hfr, hlo, hws, hcw⟩, hcode, hini, hy, hlen, hl⟩, hx1, hx2⟩ := cw
  have hK : vx_Back l R p e below s args y 3 8 (PreOf R mc ms Pc) (PostOf Qc mc ms free) (vx_Post XC mc ms free) := vx_back (bytes := bytes) (maxL := maxL) (ret := ret) hM hp.1 hrc hrs hfr hlo hws hcw (fun a' U hW => word_at hW (Or.inl (by first | rfl | simp [Cond.onTables, Cond.keeps, Cond.steady])) hini)
  obtain ⟨hx, hb, hml, ho, -⟩ := S
  obtain ⟨-, ⟨cellB, hcB, hoB, hclB⟩, hPc⟩ := hp
  intro T hT X
  rcases vx_callVN X hx (C := C) (bytes := bytes) (maxL := maxL) (ret := ret) ho hl hx1 hx2 hcode hy hK (by rw [hT]; exact hcB) hoB hclB hg (hsize.trans hml.symm) (argsL := As) (rest := rest) (fun sig h => hn.trans (hlen sig h)) hstack hW (by rw [hb]; exact hdg)
    (fun vm₁ hW₁ => ⟨hf.1, hf.2, hPc (T.setVm vm₁) hT hW₁⟩) with ⟨v, vm₁, ⟨U', l2, c2, s2⟩, hW₁, X', ⟨g', mk, t, L, e1, e2, hq, h1, hL, h2, h3⟩, st⟩ | ⟨q, vm₁, ⟨U', l2, c2, s2⟩, hW₁, X', ⟨g', mk, t, L, E, ce, e1, e2, hq, hce, hcv, hcl, h1, hL, h2, h3⟩, st⟩
  · dsimp only [Pt.U, Pt.locs, Pt.cells, Pt.slots] at X' e1 e2 h1 h2 h3 st
    subst h1; subst h2; subst h3
    exact Or.inl ⟨v, (T.setVm vm₁).calling g' mk (Value.ref b :: As).toArray, t, U', L, hT, X', hL, e1, e2, hq, st⟩
  · dsimp only [Pt.U, Pt.locs, Pt.cells, Pt.slots] at X' e1 e2 h1 h2 h3 st hcl
    subst h1; subst h2; subst h3
    exact Or.inr ⟨q, (T.setVm vm₁).calling g' mk (Value.ref b :: As).toArray, t, U', L, E, ce, hT, X', hL, e1, e2, hq, hce, hcv, vx_cls hW₁ hcl, st⟩
theorem vx_runSN {y : MethodName} {bytes cc : ByteArray} {maxL nL mc ms n index : Nat} {ret : Option FieldType} {ws : List Cond} {rm : Room} {Pc : Array Value → State → Prop} {Qc : Array Value → State → Outcome → State → Prop} {XC : String → State → State → Prop} {free : Addr → Prop} {Ts : List Cond} {own host : String} {As rest : List Value} {g : JFrame}
    (S : CallFix p m c cc nL s args Ts own) (hM : vx_Met l y ws rm Pc Qc XC mc ms free) (cw : va_CN R s args own index y host bytes maxL ret ws rm mc ms n ∧ (Cond.static y).before args s = true ∧ True) (hp : PreS s H Pc As)
    (hg : g.method = m) (hn : As.length = n) (hsize : g.locals.size = nL) (hstack : g.stack = As.reverse ++ rest) (hW : 2 * g.monitorRoom + (rest.map fun v => v.category).sum ≤ 8) (hdg : decode cc g.pc = .ok (.invokestatic index, 3)) (hf : cells + mc ≤ R.cells ∧ slots + ms ≤ R.slots) :
    vx_Run p l e R s m args below meth c H locs cells slots mc ms g rest (Qc As.toArray) XC free := by
  obtain ⟨⟨⟨hrc, hrs, hfr, hlo, hws, hcw⟩, hcode, hini, hy, hlen, hl⟩, hx1, hx2⟩ := cw
  have hK : vx_Back l R p e below s args y 3 8 (PreOf R mc ms Pc) (PostOf Qc mc ms free) (vx_Post XC mc ms free) := vx_back (bytes := bytes) (maxL := maxL) (ret := ret) hM hp.1 hrc hrs hfr hlo hws hcw (fun a' U hW => word_at hW (Or.inl (by first | rfl | simp [Cond.onTables, Cond.keeps, Cond.steady])) hini)
  obtain ⟨hx, hb, hml, ho, -⟩ := S
  have hPc := hp.2
  intro T hT X
  rcases vx_callSN X hx (bytes := bytes) (maxL := maxL) (ret := ret) ho hl hx1 hini hcode hy hK hg (hsize.trans hml.symm) (argsL := As) (rest := rest) (fun sig h => hn.trans (hlen sig h)) hstack hW (by rw [hb]; exact hdg)
    (fun vm₁ hW₁ => ⟨hf.1, hf.2, hPc (T.setVm vm₁) hT hW₁⟩) with ⟨v, vm₁, ⟨U', l2, c2, s2⟩, hW₁, X', ⟨g', mk, t, L, e1, e2, hq, h1, hL, h2, h3⟩, st⟩ | ⟨q, vm₁, ⟨U', l2, c2, s2⟩, hW₁, X', ⟨g', mk, t, L, E, ce, e1, e2, hq, hce, hcv, hcl, h1, hL, h2, h3⟩, st⟩
  · dsimp only [Pt.U, Pt.locs, Pt.cells, Pt.slots] at X' e1 e2 h1 h2 h3 st
    subst h1; subst h2; subst h3
    exact Or.inl ⟨v, (T.setVm vm₁).calling g' mk As.toArray, t, U', L, hT, X', hL, e1, e2, hq, st⟩
  · dsimp only [Pt.U, Pt.locs, Pt.cells, Pt.slots] at X' e1 e2 h1 h2 h3 st hcl
    subst h1; subst h2; subst h3
    exact Or.inr ⟨q, (T.setVm vm₁).calling g' mk As.toArray, t, U', L, E, ce, hT, X', hL, e1, e2, hq, hce, hcv, vx_cls hW₁ hcl, st⟩
end
/-! ===== the ghost layer: names instead of addresses, whole numbers instead of ints ===== -/
abbrev Mem : Type := Nat → Nat → Int
abbrev GV : Type := Value ⊕ Nat
def gi (z : Int) : GV := Sum.inl (Value.int (Int32.ofInt z))
def gl (z : Int) : GV := Sum.inl (Value.long (Int64.ofInt z))
def gr (n : Nat) : GV := Sum.inr n
def gx (q : Nat) : GV := Sum.inl (Value.ref q)
def gnul : GV := Sum.inl Value.null
def ev (a : Nat → Nat) (v : GV) : Value := match v with
  | Sum.inl x => x
  | Sum.inr n => Value.ref (a n)
abbrev GD : Type := va_G × (ClassId × ClassId × ClassId × ClassId) × Nat
def lyT : List (Nat × Nat) := [(4,10),(2,6),(0,3),(0,3),(9,0),(9,0),(6,8),(6,8),(6,8),(6,5),(6,8),(6,16),(6,100),(6,100),(6,100),(6,100),(7,100),(6,100),(8,1),(99,0),(5,37),(99,0),(99,0),(6,100),(6,100),(6,100),(7,100),(7,100),(6,100),(7,100),(99,0),(6,12),(6,12),(6,12),(6,12),(6,12),(6,12),(6,12),(6,96),(6,96),(6,8),(6,8),(6,8),(6,8),(99,0),(6,100),(6,100),(6,100),(6,100),(6,100),(6,100),(6,100),(6,100),(6,500),(6,500),(6,5)]
/-- of a name: its kind (0 list, 1 claim, 2 ground, 3 stone, 4 field, 5 reference; 6 ints, 7 booleans, 8 longs, 9 a list's row), how many places -/
def ly (n : Nat) : Nat × Nat := if n < 100 then lyT.getD n (99, 0) else if n < 200 then (if (n - 100) % 3 = 0 then (1, 10) else (6, 8)) else (if (n - 200) % 3 = 0 then (3, 11) else (6, 5))
def rfk (c k : Nat) : Bool := match c with
  | 1 => k == 8 || k == 9
  | 2 => true
  | 3 => k == 9 || k == 10
  | 4 => k != 9
  | 5 => !(k == 0 || k == 1 || k == 9 || k == 23 || k == 35 || k == 36)
  | _ => false
def rfn (c n k : Nat) : Nat := match c with
  | 1 => n + (k - 7)
  | 2 => 12 + k
  | 3 => n + (k - 8)
  | 4 => [1, 2, 3, 6, 7, 8, 9, 10, 11].getD k 0
  | 5 => 21 + k
  | _ => 0
def eln (n j : Nat) : Nat := if n = 4 then 100 + 3 * j else 200 + 3 * j
def gfd (eD : Nat) (a : Nat → Nat) (A : Mem) (c n k : Nat) : Value :=
  if c = 0 ∧ k = 1 then (if A n 1 = 0 then .null else if A n 1 = 1 then .ref eD else .ref (a (n + 2)))
  else if rfk c k = true then (if A n k = 0 then .null else .ref (a (rfn c n k))) else .int (Int32.ofInt (A n k))
def grow_ (a : Nat → Nat) (A : Mem) (n : Nat) : Nat → Option Nat := fun j => if (j : Int) < A n 1 then some (a (eln n j)) else none
def gcell (D : GD) (a : Nat → Nat) (A : Mem) (n : Nat) : va_E := match (ly n).1 with
  | 6 => .inl (D.2.1.1, (ly n).2, .inl (fun j => Int32.ofInt (A n j)))
  | 7 => .inl (D.2.1.2.1, (ly n).2, .inl (fun j => Int32.ofInt (A n j)))
  | 8 => .inl (D.2.1.2.2.1, (ly n).2, .inr (.inl (fun j => Int64.ofInt (A n j))))
  | 9 => .inl (D.2.1.2.2.2, (A n 0).toNat, .inr (.inr (.inr (.inr (grow_ a A n)))))
  | c => .inr (c, (List.range (ly n).2).map (gfd D.2.2 a A c n))
def Wd (D : GD) (a : Nat → Nat) (L : Nat → Nat) (A : Mem) (H : Heap) : Prop :=
  (∀ n, L n ≠ 0 → va_at D.1 vwCl (a n, gcell D a A n) H) ∧ (∀ n m, L n ≠ 0 → L m ≠ 0 → a n = a m → n = m) ∧
  (∀ n k, L n = 2 → k < (ly n).2 → rfk (ly n).1 k = true → A n k ≠ 0) ∧ ∀ n k, -2147483648 ≤ A n k ∧ A n k < 2147483648
def fpt (a0 : Nat → Nat) (L0 : Nat → Nat) (sz : Nat) : Nat → Prop := fun q => (∃ n, L0 n ≠ 0 ∧ q = a0 n) ∨ sz ≤ q
def WS : List Cond := lw_tbl.filter goodWord
def EVW : List Cond := [.castable "java/lang/IndexOutOfBoundsException" "java/lang/IndexOutOfBoundsException", .castable "java/lang/IllegalArgumentException" "java/lang/IllegalArgumentException", .castable "java/lang/IllegalStateException" "java/lang/IllegalStateException",
  .methodLinkNest RX0 60 yX3_oneIf RX3, .methodLinkNest RX1 37 yX3_isCell RX3, .methodLinkNest RX1 57 yX3_oneIf RX3]
def NCS : List (String × String) := [("java/lang/IllegalArgumentException", "java/lang/IndexOutOfBoundsException"), ("java/lang/IllegalStateException", "java/lang/IndexOutOfBoundsException"), ("java/lang/IllegalStateException", "java/lang/IllegalArgumentException")]
def STRS : List (String × Nat × String) := [("OpalField", 64, "the cell is not solid"), ("OpalField", 72, "the cell was told"), ("OpalField", 84, "there are no more hours"), ("OpalField", 91, "the rectangle leaves the ground"), ("OpalField", 98, "there are no more claims"), ("OpalField", 120, "the person is one of the people"), ("OpalField", 125, "the person witnessed it"), ("OpalField", 139, "the owner would have nothing"), ("OpalField", 148, "the cell cannot be dug"), ("OpalField", 157, "the cell is open"), ("OpalField", 162, "the claim has its shafts"), ("OpalField", 164, "the cell is not open"), ("OpalField", 170, "the cell is propped"), ("OpalField", 175, "a trap lies there"), ("OpalField", 181, "the claim has its traps"), ("OpalField", 187, "it is day"), ("OpalField", 192, "the cell cannot be ratted"), ("OpalField", 201, "the parcel has no stones"), ("OpalField", 231, "the stone is dead"), ("OpalField", 246, "the buyer has bid"), ("OpalField", 258, "no purse has what was bid"), ("OpalField", 270, "a cell is told 0 to 3 of"), ("OpalField", 281, "a claim is told 0 to 6 of"), ("OpalField", 283, "both claims are the same"), ("OpalField", 301, "a person is told 0 to 3 of"), ("OpalField", 312, "a stone is told 0 to 7 of"), ("OpalField", 323, "carats are told 0 to 5 of"), ("OpalField", 341, "no such cell"), ("OpalField", 344, "no such person"), ("OpalField", 346, "no such buyer"), ("OpalField", 348, "no such claim"), ("OpalField", 354, "no such stone"), ("OpalField", 356, "out of range"), ("OpalField", 358, "the person is barred"), ("OpalField", 360, "the person is none of the people"), ("OpalField", 362, "the claim does not hold the cell"), ("OpalField", 367, "the stone is in a parcel, or sold")]
def EvJ (U : State) : Prop := va_Dc U ∧ (∃ mi, va_Mi "[Ljava/lang/Object;" mi U) ∧ va_AO "java/lang/Object" U
theorem EvJ.warm {s U : State} (hW : s.WarmedH U.vm) (h : EvJ s) : EvJ U := ⟨va_Dc.moved hW.alike h.1, h.2.1.imp fun mi hm => va_Mi.moved hW.alike hm, va_AO.moved hW.alike h.2.2⟩
theorem EvJ.same {s U : State} (hv : U.vm = s.vm) (h : EvJ s) : EvJ U := by
  have ha : s.vm.Alike U.vm := by rw [hv]; exact Vm.Alike.refl s.vm
  exact ⟨va_Dc.moved ha h.1, h.2.1.imp fun mi hm => va_Mi.moved ha hm, va_AO.moved ha h.2.2⟩
def Ev (D : GD) (f : Nat → Prop) (U : State) (H : Heap) : Prop :=
  va_K D.1 vwCl [(D.2.1.1, .int), (D.2.1.2.1, .boolean), (D.2.1.2.2.1, .long), (D.2.1.2.2.2, .object "java/lang/Object")] U ∧
  vx_Zq Bundle.tN "UNASSIGNED_STACK" Bundle.steD f U H ∧ vx_Zq Bundle.tN "SUPPRESSED_SENTINEL" Bundle.listD f U H ∧
  va_Z "java/util/ArrayList" "DEFAULTCAPACITY_EMPTY_ELEMENTDATA" "[Ljava/lang/Object;" (.ref D.2.2) f U H ∧ va_T (.object "java/lang/Object") D.2.2 0 (fun _ => .null) f U H ∧
  (∀ w ∈ EVW, va_Nw w U) ∧ (∀ q ∈ NCS, va_Nc q.1 q.2 U) ∧ (∀ q ∈ STRS, ∃ sa, vk_R q.1 q.2.1 q.2.2 sa U) ∧ EvJ U
theorem EVW_warm {s U : State} (hW : s.WarmedH U.vm) (h : ∀ w ∈ EVW, va_Nw w s) : ∀ w ∈ EVW, va_Nw w U := by
  intro w hw
  have hz := h w hw
  simp only [EVW, List.mem_cons, List.not_mem_nil, or_false] at hw
  rcases hw with rfl | rfl | rfl | rfl | rfl | rfl
  · exact va_Nw.warmC hW hz
  · exact va_Nw.warmC hW hz
  · exact va_Nw.warmC hW hz
  · exact va_Nw.warmM hW hz
  · exact va_Nw.warmM hW hz
  · exact va_Nw.warmM hW hz
theorem EVW_same {s U : State} (hv : s.vm = U.vm) (h : ∀ w ∈ EVW, va_Nw w s) : ∀ w ∈ EVW, va_Nw w U := by
  intro w hw
  refine va_Nw.same ?_ hv (h w hw)
  simp only [EVW, List.mem_cons, List.not_mem_nil, or_false] at hw
  rcases hw with rfl | rfl | rfl | rfl | rfl | rfl <;> rfl
theorem Ev.warm {D : GD} {f : Nat → Prop} {s U : State} {H : Heap} (hW : s.WarmedH U.vm) (h : Ev D f s H) : Ev D f U H := by
  obtain ⟨h1, h2, h3, h4, h5, h6, h7, h8, h9⟩ := h
  exact ⟨va_K.moved hW.alike h1, vx_Zq.moved hW.alike h2, vx_Zq.moved hW.alike h3, va_Z.moved hW.alike h4, va_T.moved hW.alike h5, EVW_warm hW h6, fun q hq => va_Nc.moved hW.alike (h7 q hq), fun q hq => (h8 q hq).imp fun sa hs => vk_R.warm hW hs, EvJ.warm hW h9⟩
theorem Ev.same {D : GD} {f : Nat → Prop} {s U : State} {H : Heap} (hv : U.vm = s.vm) (h : Ev D f s H) : Ev D f U H := by
  obtain ⟨h1, h2, h3, h4, h5, h6, h7, h8, h9⟩ := h
  have ha : s.vm.Alike U.vm := by rw [hv]; exact Vm.Alike.refl s.vm
  exact ⟨va_K.moved ha h1, vx_Zq.moved ha h2, vx_Zq.moved ha h3, va_Z.moved ha h4, va_T.moved ha h5, EVW_same hv.symm h6, fun q hq => va_Nc.moved ha (h7 q hq), fun q hq => (h8 q hq).imp fun sa hs => vk_R.same hv hs, EvJ.same hv h9⟩
theorem Ev.kept {D : GD} {f : Nat → Prop} {U : State} {H H1 : Heap} (h : Ev D f U H) (hq : ∀ a : Nat, a < H.size → ¬ f a → H1[a]? = H[a]?) : Ev D f U H1 := by
  obtain ⟨h1, h2, h3, h4, h5, h6, h7, h8, h9⟩ := h
  exact ⟨h1, vx_Zq.kept h2 hq, vx_Zq.kept h3 hq, va_Z.kept h4 hq, va_T.kept h5 hq, h6, h7, h8, h9⟩
theorem Ev.narrow {D : GD} {f g : Nat → Prop} {U : State} {H : Heap} (h : Ev D f U H) (hfg : ∀ q, g q → f q) : Ev D g U H := by
  obtain ⟨h1, h2, h3, h4, h5, h6, h7, h8, h9⟩ := h
  exact ⟨h1, vx_Zq.narrow h2 hfg, vx_Zq.narrow h3 hfg, va_Z.narrow h4 hfg, va_T.narrow h5 hfg, h6, h7, h8, h9⟩
/-- a method: its name, code, locals, answer's type, depth, cells and slots that it may make, whether it makes named cells, its table -/
abbrev MD : Type := MethodName × ByteArray × Nat × Option FieldType × Nat × Nat × Nat × Bool × List (Nat × Nat × Nat × Nat)
abbrev Pst : Type := (String ⊕ Option GV) → (Nat → Nat) → Mem → Prop
abbrev MD.y (M : MD) : MethodName := M.1
abbrev MD.cc (M : MD) : ByteArray := M.2.1
abbrev MD.nL (M : MD) : Nat := M.2.2.1
abbrev MD.rt (M : MD) : Option FieldType := M.2.2.2.1
abbrev MD.dp (M : MD) : Nat := M.2.2.2.2.1
abbrev MD.mc (M : MD) : Nat := M.2.2.2.2.2.1
abbrev MD.ms (M : MD) : Nat := M.2.2.2.2.2.2.1
abbrev MD.fl (M : MD) : Bool := M.2.2.2.2.2.2.2.1
abbrev MD.hh (M : MD) : List (Nat × Nat × Nat × Nat) := M.2.2.2.2.2.2.2.2
def rmd (M : MD) : Room := { frames := 12 + M.dp, cells := M.mc, slots := M.ms, locals := 300 + 60 * M.dp }
def wsd (M : MD) : List Cond := (if M.hh = [] then Cond.code M.y M.cc M.nL M.rt else Cond.codeWith M.y M.cc M.nL M.rt M.hh) :: WS
/-- what stays through a method's body -/
def FX (M : MD) (p : Program) (l : Launch) (R : Room) (s : State) (m : MethodId) (args : Array Value) (meth : Method) (c : Code) (D : GD) (a0 L0 : Nat → Nat) : Prop :=
  p.tables.exec = Jvm.exec ∧ c.code = M.cc ∧ c.maxLocals = M.nL ∧ s.vm.findClass M.y.cls = some m.cls ∧ (∀ w ∈ WS, w.before args s = true) ∧ meth.locks = false ∧ meth.sig.returnType = M.rt ∧ meth.name = M.y.name ∧ l.stackTraces = false ∧
  c.exceptionTable.toList = tableOf M.hh ∧ Ev D (fpt a0 L0 s.heap.size) s s.heap ∧ 12 + M.dp ≤ R.frames ∧ 300 + 60 * M.dp ≤ R.locals ∧ M.mc ≤ R.cells ∧ M.ms ≤ R.slots
/-- the world at a place of the body -/
def SH (M : MD) (D : GD) (a0 L0 : Nat → Nat) (s : State) (a L : Nat → Nat) (A : Mem) (H : Heap) (locs : List Loc) : Prop :=
  Wd D a L A H ∧ (∀ n, L n ≠ 0 → fpt a0 L0 s.heap.size (a n)) ∧ (∀ n, L0 n ≠ 0 → (ly n).1 ≠ 9 → a n = a0 n) ∧ (∀ n, L0 n ≠ 0 → L n ≠ 0) ∧ (M.fl = false → a = a0 ∧ L = L0) ∧ va_S (fpt a0 L0 s.heap.size) s.heap H locs
/-- which end an instruction is, with which answer -/
def rtok (M : MD) (i : Instr) (v : Option GV) : Prop :=
  (i = .return_ ∧ M.rt = none ∧ v = none) ∨ (i = .ireturn ∧ ∃ z : Int, v = some (gi z) ∧ (M.rt = some .int ∨ (M.rt = some .boolean ∧ (z = 0 ∨ z = 1)))) ∨ (i = .areturn ∧ ∃ n : Nat, v = some (gr n) ∧ ((∃ t, M.rt = some (.object t)) ∨ ∃ t, M.rt = some (.array t)))
/-- the ends: what a return and a throw that leaves owe -/
def EN (M : MD) (P : Pst) (p : Program) (l : Launch) (e : Env) (R : Room) (s : State) (m : MethodId) (args : Array Value) (below : List Frame) (meth : Method) (c : Code) (D : GD) (a0 L0 : Nat → Nat) (Q : State → Prop) : Prop :=
  (∀ (a L : Nat → Nat) (A : Mem) (H : Heap) (locs : List Loc) (kc ks pc : Nat) (ls : Array Slot) (v : Option GV) (i : Instr), P (.inr v) L A → SH M D a0 L0 s a L A H locs → kc ≤ M.mc → ks ≤ M.ms → decode M.cc pc = .ok (i, 1) → rtok M i v →
    W p l e R s m args below meth c H locs kc ks Q (F0 m pc ls (v.toList.map (ev a)))) ∧
  ∀ (a L : Nat → Nat) (A : Mem) (H : Heap) (locs : List Loc) (kc ks pc : Nat) (ls : Array Slot) (st : List Value) (E : String) (q : Nat) (ce : Cell), P (.inl E) L A → SH M D a0 L0 s a L A H locs → kc ≤ M.mc → ks ≤ M.ms →
    (∀ z ∈ c.exceptionTable.toList, covers z pc = false ∨ (z.catchType ≠ 0 ∧ ∃ nm : String, (Cond.classLink M.y.cls z.catchType nm).before args s = true ∧ va_Nc E nm s)) → H[q]? = some ce → ce.vm = .none → s.vm.findClass E = some ce.cls →
    vx_W p l e R s m args below meth c H locs kc ks Q (F0 m pc ls st) q
/-- what a throw 'new E("text")' at pc asks of the tables -/
def TH (M : MD) (E : String) (pc : Nat) (names : List String) (ik is ic : Nat) (text : String) : Prop :=
  Bundle.fit E = true ∧ (∀ n ∈ names, Bundle.fit n = true) ∧ names.length ≤ 3 ∧ Cond.classLink M.y.cls ik E ∈ WS ∧ Cond.initialized E ∈ WS ∧ (M.y.cls, is, text) ∈ STRS ∧ (∀ w ∈ vx_atS M.y.cls ic E names, w ∈ WS ∨ w ∈ EVW) ∧
  (∀ w ∈ Cond.classLink M.y.cls ik E :: Cond.initialized E :: vx_atS M.y.cls ic E names, vx_ot w = true) ∧ M.hh = [] ∧ decode M.cc pc = .ok (.new ik, 3) ∧ decode M.cc (pc + 3) = .ok (.dup, 1) ∧
  ((decode M.cc (pc + 4) = .ok (.ldc is, 2) ∧ decode M.cc (pc + 6) = .ok (.invokespecial ic, 3) ∧ decode M.cc (pc + 9) = .ok (.athrow, 1)) ∨ (decode M.cc (pc + 4) = .ok (.ldc_w is, 3) ∧ decode M.cc (pc + 7) = .ok (.invokespecial ic, 3) ∧ decode M.cc (pc + 10) = .ok (.athrow, 1)))
/-- what a throw owes -/
def EN3 (M : MD) (P : Pst) (p : Program) (l : Launch) (e : Env) (R : Room) (s : State) (m : MethodId) (args : Array Value) (below : List Frame) (meth : Method) (c : Code) (D : GD) (a0 L0 : Nat → Nat) (Q : State → Prop) : Prop :=
  ∀ (a L : Nat → Nat) (A : Mem) (H : Heap) (locs : List Loc) (kc ks pc : Nat) (ls : Array Slot) (st : List Value) (E : String) (names : List String) (ik is ic : Nat) (text : String), P (.inl E) L A → SH M D a0 L0 s a L A H locs → kc + 1 ≤ M.mc → ks + 6 ≤ M.ms →
    TH M E pc names ik is ic text → ls.size = c.maxLocals → (st.map fun v => v.category).sum ≤ 20 → W p l e R s m args below meth c H locs kc ks Q (F0 m pc ls st)
def GW (M : MD) (P : Pst) (kc ks pc : Nat) (ls : List (Nat × GV)) (st : List GV) (L : Nat → Nat) (A : Mem) : Prop :=
  ∀ (p : Program) (l : Launch) (e : Env) (R : Room) (s : State) (m : MethodId) (args : Array Value) (below : List Frame) (meth : Method) (c : Code) (D : GD) (a0 L0 a : Nat → Nat) (H : Heap) (locs : List Loc) (lsr : Array Slot) (Q : State → Prop),
    FX M p l R s m args meth c D a0 L0 → EN M P p l e R s m args below meth c D a0 L0 Q → EN3 M P p l e R s m args below meth c D a0 L0 Q → SH M D a0 L0 s a L A H locs → lv_has lsr M.nL (ls.map fun q => (q.1, ev a q.2)) →
    W p l e R s m args below meth c H locs kc ks Q (F0 m pc lsr (st.map (ev a)))
def CE (M : MD) (D : GD) (a0 L0 : Nat → Nat) (sz : Nat) (a L : Nat → Nat) (A : Mem) (H : Heap) : Prop :=
  Wd D a L A H ∧ (∀ n, L n ≠ 0 → fpt a0 L0 sz (a n)) ∧ (∀ n, L0 n ≠ 0 → (ly n).1 ≠ 9 → a n = a0 n) ∧ (∀ n, L0 n ≠ 0 → L n ≠ 0) ∧ (M.fl = false → a = a0 ∧ L = L0)
def CtQ (M : MD) (D : GD) (a0 L0 : Nat → Nat) (P : Pst) (sz : Nat) : Array Value → State → Outcome → State → Prop := fun _ st oc t =>
  ∃ (v : Option GV) (a L : Nat → Nat) (A : Mem), oc = .returned (v.map (ev a)) ∧ P (.inr v) L A ∧ CE M D a0 L0 sz a L A t.heap ∧ va_F (fpt a0 L0 sz) st t
def CtX (M : MD) (D : GD) (a0 L0 : Nat → Nat) (P : Pst) (sz : Nat) : String → State → State → Prop := fun E st t =>
  ∃ (a L : Nat → Nat) (A : Mem), P (.inl E) L A ∧ CE M D a0 L0 sz a L A t.heap ∧ va_F (fpt a0 L0 sz) st t
def CtP (D : GD) (a0 L0 : Nat → Nat) (A0 : Mem) (sz : Nat) (gs : List GV) : Array Value → State → Prop := va_Pc (gs.map (ev a0)) (fun U => U.heap.size = sz ∧ Wd D a0 L0 A0 U.heap ∧ Ev D (fpt a0 L0 sz) U U.heap)
/-- a method's contract: from these arguments, names and memory it comes to an end with P -/
def Ct (M : MD) (gs : List GV) (L0 : Nat → Nat) (A0 : Mem) (P : Pst) : Prop := ∀ (l : Launch), l.stackTraces = false → ∀ (D : GD) (a0 : Nat → Nat) (sz : Nat),
  vx_Met l M.y (wsd M) (rmd M) (CtP D a0 L0 A0 sz gs) (CtQ M D a0 L0 P sz) (CtX M D a0 L0 P sz) M.mc M.ms (fpt a0 L0 sz)
theorem WS_in {w : Cond} (h : w ∈ lw_tbl) (g : goodWord w = true) : w ∈ WS := List.mem_filter.mpr ⟨h, g⟩
theorem WS_good {w : Cond} (h : w ∈ WS) : (w.onTables && w.keeps) = true ∨ ∃ ty, w = .arrayClass ty := good_of_word (List.mem_filter.mp h).2
section GE
variable {M : MD} {P : Pst} {p : Program} {l : Launch} {e : Env} {R : Room} {s : State} {m : MethodId} {args : Array Value} {below : List Frame} {meth : Method} {c : Code} {D : GD} {a0 L0 : Nat → Nat}
set_option maxHeartbeats 1000000 in
theorem en_std (hF : FX M p l R s m args meth c D a0 L0) : EN M P p l e R s m args below meth c D a0 L0 (vx_MQ below (CtQ M D a0 L0 P s.heap.size) (CtX M D a0 L0 P s.heap.size) args s M.mc M.ms (fpt a0 L0 s.heap.size)) := by
  obtain ⟨hx, hb, hml, hown, hws, hlocks, hr, hnm, hl, htab, hE, hR⟩ := hF
  refine ⟨?_, ?_⟩
  · intro a L A H locs kc ks pc ls v i hP hS hkc hks hdg hrt
    obtain ⟨hW, hf, hag, hmo, hfl, hva⟩ := hS
    refine vx_ret (W.widen (k := M.mc) (n := M.ms) hkc hks ?_)
    have key : ∀ t : State, t.heap = H → CtQ M D a0 L0 P s.heap.size args s (.returned (v.map (ev a))) t := fun t ht => ⟨v, a, L, A, rfl, hP, ⟨by rw [ht]; exact hW, hf, hag, hmo, hfl⟩, hva.F ht⟩
    rcases hrt with ⟨rfl, h1, rfl⟩ | ⟨rfl, z, rfl, h1⟩ | ⟨rfl, n, rfl, h1⟩
    · exact W.vret hx hb (hr.trans h1) (fun t ht _ => key t ht) hva.2.2 hdg
    · rcases h1 with h1 | ⟨h1, hz⟩
      · exact W.iret (v := Int32.ofInt z) hx hb (hr.trans h1) (fun t ht _ => key t ht) hva.2.2 hdg
      · exact W.zret (v := Int32.ofInt z) (ty := .boolean) hx hb (hr.trans h1) (by rcases hz with rfl | rfl <;> rfl) (fun t ht _ => key t ht) hva.2.2 hdg
    · rcases h1 with ⟨t1, h1⟩ | ⟨t1, h1⟩
      · exact W.aret (v := .ref (a n)) hx hb (hr.trans h1) (Or.inl ⟨t1, rfl⟩) (Or.inr ⟨_, rfl⟩) (fun t ht _ => key t ht) hva.2.2 hdg
      · exact W.aret (v := .ref (a n)) hx hb (hr.trans h1) (Or.inr ⟨t1, rfl⟩) (Or.inr ⟨_, rfl⟩) (fun t ht _ => key t ht) hva.2.2 hdg
  · intro a L A H locs kc ks pc ls st E q ce hP hS hkc hks hpass hce hcv hcl
    obtain ⟨hW, hf, hag, hmo, hfl, hva⟩ := hS
    exact vx_outP hown hlocks hpass hce hcv hcl (fun t ht _ => ⟨a, L, A, hP, ⟨by rw [ht]; exact hW, hf, hag, hmo, hfl⟩, hva.F ht⟩) hva.2.2 hkc hks
theorem Wd_mono {a L : Nat → Nat} {A : Mem} {H H1 : Heap} (hW : Wd D a L A H) (h : ∀ n, L n ≠ 0 → H1[a n]? = H[a n]?) : Wd D a L A H1 :=
  ⟨fun n hn => va_at.kept (hW.1 n hn) (h n hn), hW.2⟩
set_option maxHeartbeats 1000000 in
theorem en3_std (hF : FX M p l R s m args meth c D a0 L0) : EN3 M P p l e R s m args below meth c D a0 L0 (vx_MQ below (CtQ M D a0 L0 P s.heap.size) (CtX M D a0 L0 P s.heap.size) args s M.mc M.ms (fpt a0 L0 s.heap.size)) := by
  obtain ⟨hx, hb, hml, hown, hws, hlocks, hr, hnm, hl, htab, hE, hR1, hR2, hR3, hR4⟩ := hF
  intro a L A H locs kc ks pc ls st E names ik is ic text hP hS hkc hks hT hsz hst
  obtain ⟨hW, hf, hag, hmo, hfl, hva⟩ := hS
  obtain ⟨t1, t2, t3, t4, t5, t6, t7, t8, t9, d0, d3, hd⟩ := hT
  obtain ⟨e1, e2, e3, e4, e5, e6, e7, e8, e9⟩ := hE
  obtain ⟨sa, hsa⟩ := e8 _ t6
  have hout : ∀ (k : Nat), ∀ x ∈ c.exceptionTable.toList, covers x k = false := by
    intro k x hx
    rw [htab, t9] at hx
    exact absurd hx (by simp [tableOf])
  have hx' : ∀ t : State, s.vm.Alike t.vm → H.size ≤ t.heap.size → (∀ q : Nat, q < H.size → t.heap[q]? = H[q]?) → CtX M D a0 L0 P s.heap.size E s t := by
    intro t _ h1 h2
    refine ⟨a, L, A, hP, ⟨Wd_mono hW (fun n hn => h2 _ (va_at.lt (hW.1 n hn))), hf, hag, hmo, hfl⟩, Nat.le_trans hva.1 h1, fun q h3 h4 => ?_⟩
    rw [h2 q (Nat.lt_of_lt_of_le h3 hva.1)]
    exact hva.2.1 q h3 h4
  have hw1 : ∀ w ∈ vx_atS M.y.cls ic E names, w.before args s = true := by
    intro w hw
    rcases t7 w hw with h | h
    · exact hws w h
    · have h1 : w.onTables = true := by
        simp only [EVW, List.mem_cons, List.not_mem_nil, or_false] at h
        rcases h with rfl | rfl | rfl | rfl | rfl | rfl <;> rfl
      exact va_Nw.use h1 (e6 w h)
  rcases hd with ⟨d4, d6, d9⟩ | ⟨d4, d7, d10⟩
  · exact vx_throwS (names := names) hx hb hl hown t1 t2 (hws _ t4) (hws _ t5) hsa hw1 t8 e2 e3 hva hsz d0 d3 d4 d6 d9 (hout _) (by omega) (by omega) (by omega) (by omega) hlocks hx' hva.2.2 hkc hks
  · exact vx_throwSW (names := names) hx hb hl hown t1 t2 (hws _ t4) (hws _ t5) hsa hw1 t8 e2 e3 hva hsz d0 d3 d4 d7 d10 (hout _) (by omega) (by omega) (by omega) (by omega) hlocks hx' hva.2.2 hkc hks
end GE
set_option maxHeartbeats 1000000 in
/-- a contract out of the body's walk -/
theorem Ct_of {M : MD} {gs : List GV} {ls : List (Nat × GV)} {L : Nat → Nat} {A : Mem} {P : Pst} (hh : M.hh = []) (hy : plainName M.y.cls = true) (hls : ∀ a, lv_args 0 (gs.map (ev a)) = ls.map fun q => (q.1, ev a q.2)) (hle : ∀ a, (lg_sl (gs.map (ev a))).length ≤ M.nL)
    (k : GW M P 0 0 0 ls [] L A) : Ct M gs L A P := by
  intro l hl D a0 sz
  refine vx_ofW (cc := M.cc) (maxL := M.nL) (ret := M.rt) (ws' := WS) hy (by unfold wsd; rw [if_pos hh]) ?_
  intro p e s m args below meth c s₁ B hml hex hv
  obtain ⟨rfl, hsz, hW, hE⟩ := hv
  subst hsz
  have hts := atoms_spec (ws := wsd M) B.pre
  have hF : FX M p l (headSpec (wsd M) (rmd M)).room s m (gs.map (ev a0)).toArray meth c D a0 L := by
    refine ⟨B.exec, B.bytes, hml, findClass_of_methodNamed B.named, fun w hw => hts w (List.mem_cons_of_mem _ hw), B.notSynchronized, B.returns, (name_of_methodNamed B.named B.method).1, hl, ?_, hE, Nat.le_refl _, Nat.le_refl _, Nat.le_refl _, Nat.le_refl _⟩
    rw [hh]
    cases h9 : c.exceptionTable.toList with
    | nil => rfl
    | cons x r => exact absurd (by rw [h9]; exact List.mem_cons_self) (fun h => hex x h)
  have hl0 := lv_entry (gs.map (ev a0)) (n := M.nL) (hle a0)
  rw [lg_entry_eq]
  generalize (lg_sl (gs.map (ev a0)) ++ List.replicate (M.nL - (lg_sl (gs.map (ev a0))).length) Slot.unset).toArray = lsr at hl0 ⊢
  rw [hls] at hl0
  exact k p l e _ s m _ below meth c D a0 L a0 s.heap [] lsr _ hF (en_std hF) (en3_std hF) ⟨hW, fun n hn => Or.inl ⟨n, hn, rfl⟩, fun _ _ _ => rfl, fun _ h => h, fun _ => ⟨rfl, rfl⟩, va_S.rf⟩ hl0
end
section
theorem ii_lo {x : Int} (h : -2147483648 ≤ x) (h2 : x < 2147483648) : (Int32.ofInt x).toInt = x := Int32.toInt_ofInt_of_le h h2
theorem ii_add (x y : Int) : Int32.ofInt x + Int32.ofInt y = Int32.ofInt (x + y) := (Int32.ofInt_add x y).symm
theorem ii_sub (x y : Int) : Int32.ofInt x - Int32.ofInt y = Int32.ofInt (x - y) := (Int32.ofInt_sub x y).symm
theorem ii_mul (x y : Int) : Int32.ofInt x * Int32.ofInt y = Int32.ofInt (x * y) := (Int32.ofInt_mul x y).symm
theorem ii_lt {x y : Int} (hx : -2147483648 ≤ x ∧ x < 2147483648) (hy : -2147483648 ≤ y ∧ y < 2147483648) : Int32.ofInt x < Int32.ofInt y ↔ x < y := by
  rw [Int32.lt_iff_toInt_lt, ii_lo hx.1 hx.2, ii_lo hy.1 hy.2]
theorem ii_le {x y : Int} (hx : -2147483648 ≤ x ∧ x < 2147483648) (hy : -2147483648 ≤ y ∧ y < 2147483648) : Int32.ofInt x ≤ Int32.ofInt y ↔ x ≤ y := by
  rw [Int32.le_iff_toInt_le, ii_lo hx.1 hx.2, ii_lo hy.1 hy.2]
theorem ii_eq {x y : Int} (hx : -2147483648 ≤ x ∧ x < 2147483648) (hy : -2147483648 ≤ y ∧ y < 2147483648) : Int32.ofInt x = Int32.ofInt y ↔ x = y := by
  rw [← Int32.toInt_inj, ii_lo hx.1 hx.2, ii_lo hy.1 hy.2]
theorem ii_0 : (0 : Int32) = Int32.ofInt 0 := rfl
theorem ii_nat {n : Nat} (h : n < 2147483648) : (Int32.ofInt (n : Int)).toNatClampNeg = n := by
  show (Int32.ofInt (n : Int)).toInt.toNat = n
  rw [ii_lo (by omega) (by omega)]
  exact Int.toNat_natCast n
theorem ii_in {n N : Nat} (h : n < N) (hN : N ≤ 2147483648) : vp_in (Int32.ofInt (n : Int)) N := by
  intro hc
  rcases hc with hc | hc
  · rw [Int32.lt_iff_toInt_lt, ii_lo (by omega) (by omega), Int32.toInt_zero] at hc
    omega
  · rw [ii_nat (by omega)] at hc
    omega
theorem ii_div {x y : Int} (hx : 0 ≤ x ∧ x < 2147483648) (hy : 0 < y ∧ y < 2147483648) : Int32.ofInt x / Int32.ofInt y = Int32.ofInt (x / y) := by
  have hq : x / y ≤ x := Int.ediv_le_self _ hx.1
  have hq0 : 0 ≤ x / y := Int.ediv_nonneg hx.1 (by omega)
  rw [← Int32.toInt_inj, Int32.toInt_div, ii_lo (by omega) hx.2, ii_lo (by omega) hy.2, ii_lo (by omega) (by omega), Int.tdiv_eq_ediv_of_nonneg hx.1]
  rw [Int.bmod_eq_of_le] <;> omega
theorem ii_rem {x y : Int} (hx : 0 ≤ x ∧ x < 2147483648) (hy : 0 < y ∧ y < 2147483648) : Int32.ofInt x - Int32.ofInt x / Int32.ofInt y * Int32.ofInt y = Int32.ofInt (x % y) := by
  rw [ii_div hx hy, ii_mul, ii_sub]
  congr 1
  have h := Int.emod_add_ediv_mul x y
  omega
theorem ii_ne0 {y : Int} (hy : 0 < y ∧ y < 2147483648) : ¬ Int32.ofInt y = 0 := by
  rw [ii_0, ii_eq (by omega) (by omega)]
  omega
theorem lf_cons (ls : List (Nat × GV)) (a : Nat → Nat) (i : Nat) (v : GV) (hv : (ev a v).category = 1) (h2 : ∀ q ∈ ls, (ev a q.2).category = 1) :
    (i, ev a v) :: (ls.map fun q => (q.1, ev a q.2)).filter (fun q => !(q.1 == i) && !(q.1 + 1 == i && q.2.category == 2)) = (((i, v) :: ls.filter (fun q => !(q.1 == i))).map fun q => (q.1, ev a q.2)) := by
  rw [List.map_cons]
  congr 1
  induction ls with
  | nil => rfl
  | cons x r ih =>
    have hx := h2 x List.mem_cons_self
    have hr := ih (fun q hq => h2 q (List.mem_cons_of_mem _ hq))
    rw [List.map_cons, List.filter_cons, List.filter_cons]
    have e : ((ev a x.2).category == 2) = false := by rw [hx]; rfl
    simp only [e, Bool.and_false, Bool.not_false, Bool.and_true]
    by_cases hc : (x.1 == i) = true
    · simp only [hc, Bool.not_true, Bool.false_eq_true, if_false]
      exact hr
    · simp only [hc, Bool.not_eq_true, if_true, List.map_cons]
      simp only [Bool.not_eq_true] at hc
      simp only [hc, Bool.not_false, if_true, List.map_cons]
      rw [hr]
theorem ev_get {ls : List (Nat × GV)} {a : Nat → Nat} {k i : Nat} {v : GV} (h : ls[k]? = some (i, v)) : (ls.map fun q => (q.1, ev a q.2))[k]? = some (i, ev a v) := by
  rw [List.getElem?_map, h]; rfl
/-- all locals are of one slot -/
def c1 (v : GV) : Prop := ∀ a, (ev a v).category = 1
theorem c1_i (z : Int) : c1 (gi z) := fun _ => rfl
theorem c1_r (n : Nat) : c1 (gr n) := fun _ => rfl
section GR
variable {M : MD} {P : Pst} {kc ks pc : Nat} {ls : List (Nat × GV)} {st : List GV} {L : Nat → Nat} {A : Mem}

theorem g_iconst {n : Int} (hd : decode M.cc pc = .ok (.iconst n, 1)) (k : GW M P kc ks (pc + 1) ls (gi n :: st) L A) : GW M P kc ks pc ls st L A := by
  intro p l e R s m args below meth c D a0 L0 a H locs lsr Q F E1 E3 S hl
  have kk := k p l e R s m args below meth c D a0 L0 a H locs lsr Q F E1 E3 S hl
  exact lv_iconst F.1 F.2.1 hd rfl kk

theorem g_bipush {n : Int} (hd : decode M.cc pc = .ok (.bipush n, 2)) (hn : (Int8.ofInt n).toInt32 = Int32.ofInt n) (k : GW M P kc ks (pc + 2) ls (gi n :: st) L A) : GW M P kc ks pc ls st L A := by
  intro p l e R s m args below meth c D a0 L0 a H locs lsr Q F E1 E3 S hl
  have kk := k p l e R s m args below meth c D a0 L0 a H locs lsr Q F E1 E3 S hl
  exact lv_bipush F.1 F.2.1 hd hn kk

theorem g_sipush {n : Int} (hd : decode M.cc pc = .ok (.sipush n, 3)) (hn : (Int16.ofInt n).toInt32 = Int32.ofInt n) (k : GW M P kc ks (pc + 3) ls (gi n :: st) L A) : GW M P kc ks pc ls st L A := by
  intro p l e R s m args below meth c D a0 L0 a H locs lsr Q F E1 E3 S hl
  have kk := k p l e R s m args below meth c D a0 L0 a H locs lsr Q F E1 E3 S hl
  exact lv_sipush F.1 F.2.1 hd hn kk

theorem g_ldci {n : Int} {ix : Nat} (hd : decode M.cc pc = .ok (.ldc ix, 2)) (hw : Cond.constant M.y.cls ix (Int32.ofInt n) ∈ WS) (k : GW M P kc ks (pc + 2) ls (gi n :: st) L A) : GW M P kc ks pc ls st L A := by
  intro p l e R s m args below meth c D a0 L0 a H locs lsr Q F E1 E3 S hl
  have kk := k p l e R s m args below meth c D a0 L0 a H locs lsr Q F E1 E3 S hl
  exact lv_ldc F.1 F.2.1 F.2.2.2.1 (F.2.2.2.2.1 _ hw) hd kk

theorem g_iload_n {q : Fin 4} {i : Nat} {z : Int} (j : Nat) (hd : decode M.cc pc = .ok (.iload_n q, 1)) (hi : (q : Nat) = i) (hj : ls[j]? = some (i, gi z)) (k : GW M P kc ks (pc + 1) ls (gi z :: st) L A) : GW M P kc ks pc ls st L A := by
  intro p l e R s m args below meth c D a0 L0 a H locs lsr Q F E1 E3 S hl
  have kk := k p l e R s m args below meth c D a0 L0 a H locs lsr Q F E1 E3 S hl
  exact lv_iload_n F.1 F.2.1 hd hi (lv_at hl j (ev_get hj)) kk

theorem g_iload {i : Nat} {z : Int} (j : Nat) (hd : decode M.cc pc = .ok (.iload i, 2)) (hj : ls[j]? = some (i, gi z)) (k : GW M P kc ks (pc + 2) ls (gi z :: st) L A) : GW M P kc ks pc ls st L A := by
  intro p l e R s m args below meth c D a0 L0 a H locs lsr Q F E1 E3 S hl
  have kk := k p l e R s m args below meth c D a0 L0 a H locs lsr Q F E1 E3 S hl
  exact lv_iload F.1 F.2.1 hd (lv_at hl j (ev_get hj)) kk

theorem g_aload_n {q : Fin 4} {i : Nat} {z : Nat} (j : Nat) (hd : decode M.cc pc = .ok (.aload_n q, 1)) (hi : (q : Nat) = i) (hj : ls[j]? = some (i, gr z)) (k : GW M P kc ks (pc + 1) ls (gr z :: st) L A) : GW M P kc ks pc ls st L A := by
  intro p l e R s m args below meth c D a0 L0 a H locs lsr Q F E1 E3 S hl
  have kk := k p l e R s m args below meth c D a0 L0 a H locs lsr Q F E1 E3 S hl
  exact lv_aload_n F.1 F.2.1 hd hi (lv_at hl j (ev_get hj)) kk

theorem g_aload {i : Nat} {z : Nat} (j : Nat) (hd : decode M.cc pc = .ok (.aload i, 2)) (hj : ls[j]? = some (i, gr z)) (k : GW M P kc ks (pc + 2) ls (gr z :: st) L A) : GW M P kc ks pc ls st L A := by
  intro p l e R s m args below meth c D a0 L0 a H locs lsr Q F E1 E3 S hl
  have kk := k p l e R s m args below meth c D a0 L0 a H locs lsr Q F E1 E3 S hl
  exact lv_aload F.1 F.2.1 hd (lv_at hl j (ev_get hj)) kk

theorem g_istore_n {q : Fin 4} {i : Nat} {z : Int} (hd : decode M.cc pc = .ok (.istore_n q, 1)) (hi : (q : Nat) = i) (hn : i < M.nL) (hc : ∀ q ∈ ls, c1 q.2) (k : GW M P kc ks (pc + 1) ((i, gi z) :: ls.filter (fun q => !(q.1 == i))) st L A) : GW M P kc ks pc ls (gi z :: st) L A := by
  intro p l e R s m args below meth c D a0 L0 a H locs lsr Q F E1 E3 S hl
  exact lv_istore_n F.1 F.2.1 hd hi hl hn (lf_cons ls a i (gi z) rfl (fun q hq => hc q hq a)) (fun lsr hl => k p l e R s m args below meth c D a0 L0 a H locs lsr Q F E1 E3 S hl)

theorem g_istore {i : Nat} {z : Int} (hd : decode M.cc pc = .ok (.istore i, 2)) (hn : i < M.nL) (hc : ∀ q ∈ ls, c1 q.2) (k : GW M P kc ks (pc + 2) ((i, gi z) :: ls.filter (fun q => !(q.1 == i))) st L A) : GW M P kc ks pc ls (gi z :: st) L A := by
  intro p l e R s m args below meth c D a0 L0 a H locs lsr Q F E1 E3 S hl
  exact lv_istore F.1 F.2.1 hd hl hn (lf_cons ls a i (gi z) rfl (fun q hq => hc q hq a)) (fun lsr hl => k p l e R s m args below meth c D a0 L0 a H locs lsr Q F E1 E3 S hl)

theorem g_astore_n {q : Fin 4} {i : Nat} {z : Nat} (hd : decode M.cc pc = .ok (.astore_n q, 1)) (hi : (q : Nat) = i) (hn : i < M.nL) (hc : ∀ q ∈ ls, c1 q.2) (k : GW M P kc ks (pc + 1) ((i, gr z) :: ls.filter (fun q => !(q.1 == i))) st L A) : GW M P kc ks pc ls (gr z :: st) L A := by
  intro p l e R s m args below meth c D a0 L0 a H locs lsr Q F E1 E3 S hl
  exact lv_astore_n F.1 F.2.1 hd hi hl hn (lf_cons ls a i (gr z) rfl (fun q hq => hc q hq a)) (fun lsr hl => k p l e R s m args below meth c D a0 L0 a H locs lsr Q F E1 E3 S hl)

theorem g_astore {i : Nat} {z : Nat} (hd : decode M.cc pc = .ok (.astore i, 2)) (hn : i < M.nL) (hc : ∀ q ∈ ls, c1 q.2) (k : GW M P kc ks (pc + 2) ((i, gr z) :: ls.filter (fun q => !(q.1 == i))) st L A) : GW M P kc ks pc ls (gr z :: st) L A := by
  intro p l e R s m args below meth c D a0 L0 a H locs lsr Q F E1 E3 S hl
  exact lv_astore F.1 F.2.1 hd hl hn (lf_cons ls a i (gr z) rfl (fun q hq => hc q hq a)) (fun lsr hl => k p l e R s m args below meth c D a0 L0 a H locs lsr Q F E1 E3 S hl)

theorem g_iinc {i : Nat} {n z : Int} (j : Nat) (hd : decode M.cc pc = .ok (.iinc i n, 3)) (hj : ls[j]? = some (i, gi z)) (hn : i < M.nL) (hc : ∀ q ∈ ls, c1 q.2) (k : GW M P kc ks (pc + 3) ((i, gi (z + n)) :: ls.filter (fun q => !(q.1 == i))) st L A) : GW M P kc ks pc ls st L A := by
  intro p l e R s m args below meth c D a0 L0 a H locs lsr Q F E1 E3 S hl
  exact lv_iinc (v := Int32.ofInt (z + n)) F.1 F.2.1 hd hl (k := j) (ev_get hj) (ii_add z n) hn (lf_cons ls a i (gi (z + n)) rfl (fun q hq => hc q hq a)) (fun lsr hl => k p l e R s m args below meth c D a0 L0 a H locs lsr Q F E1 E3 S hl)

theorem g_iadd {x y : Int} (hd : decode M.cc pc = .ok (.iadd, 1)) (k : GW M P kc ks (pc + 1) ls (gi (x + y) :: st) L A) : GW M P kc ks pc ls (gi y :: gi x :: st) L A := by
  intro p l e R s m args below meth c D a0 L0 a H locs lsr Q F E1 E3 S hl
  have kk := k p l e R s m args below meth c D a0 L0 a H locs lsr Q F E1 E3 S hl
  refine lv_iadd F.1 F.2.1 hd ?_
  rw [ii_add]
  exact kk

theorem g_isub {x y : Int} (hd : decode M.cc pc = .ok (.isub, 1)) (k : GW M P kc ks (pc + 1) ls (gi (x - y) :: st) L A) : GW M P kc ks pc ls (gi y :: gi x :: st) L A := by
  intro p l e R s m args below meth c D a0 L0 a H locs lsr Q F E1 E3 S hl
  have kk := k p l e R s m args below meth c D a0 L0 a H locs lsr Q F E1 E3 S hl
  refine lv_isub F.1 F.2.1 hd ?_
  rw [ii_sub]
  exact kk

theorem g_imul {x y : Int} (hd : decode M.cc pc = .ok (.imul, 1)) (k : GW M P kc ks (pc + 1) ls (gi (x * y) :: st) L A) : GW M P kc ks pc ls (gi y :: gi x :: st) L A := by
  intro p l e R s m args below meth c D a0 L0 a H locs lsr Q F E1 E3 S hl
  have kk := k p l e R s m args below meth c D a0 L0 a H locs lsr Q F E1 E3 S hl
  refine lv_imul F.1 F.2.1 hd ?_
  rw [ii_mul]
  exact kk

theorem g_idiv {x y : Int} (hx : 0 ≤ x ∧ x < 2147483648) (hy : 0 < y ∧ y < 2147483648) (hd : decode M.cc pc = .ok (.idiv, 1)) (k : GW M P kc ks (pc + 1) ls (gi (x / y) :: st) L A) : GW M P kc ks pc ls (gi y :: gi x :: st) L A := by
  intro p l e R s m args below meth c D a0 L0 a H locs lsr Q F E1 E3 S hl
  have kk := k p l e R s m args below meth c D a0 L0 a H locs lsr Q F E1 E3 S hl
  refine lv_idiv F.1 F.2.1 hd (ii_ne0 hy) ?_
  rw [ii_div hx hy]
  exact kk

theorem g_irem {x y : Int} (hx : 0 ≤ x ∧ x < 2147483648) (hy : 0 < y ∧ y < 2147483648) (hd : decode M.cc pc = .ok (.irem, 1)) (k : GW M P kc ks (pc + 1) ls (gi (x % y) :: st) L A) : GW M P kc ks pc ls (gi y :: gi x :: st) L A := by
  intro p l e R s m args below meth c D a0 L0 a H locs lsr Q F E1 E3 S hl
  have kk := k p l e R s m args below meth c D a0 L0 a H locs lsr Q F E1 E3 S hl
  refine lv_irem F.1 F.2.1 hd (ii_ne0 hy) ?_
  rw [ii_rem hx hy]
  exact kk

theorem g_dup {v : GV} (hd : decode M.cc pc = .ok (.dup, 1)) (hv : c1 v) (k : GW M P kc ks (pc + 1) ls (v :: v :: st) L A) : GW M P kc ks pc ls (v :: st) L A := by
  intro p l e R s m args below meth c D a0 L0 a H locs lsr Q F E1 E3 S hl
  have kk := k p l e R s m args below meth c D a0 L0 a H locs lsr Q F E1 E3 S hl
  exact lv_dup F.1 F.2.1 hd (hv a) kk

theorem g_pop {v : GV} (hd : decode M.cc pc = .ok (.pop, 1)) (hv : c1 v) (k : GW M P kc ks (pc + 1) ls st L A) : GW M P kc ks pc ls (v :: st) L A := by
  intro p l e R s m args below meth c D a0 L0 a H locs lsr Q F E1 E3 S hl
  have kk := k p l e R s m args below meth c D a0 L0 a H locs lsr Q F E1 E3 S hl
  exact lv_pop F.1 F.2.1 hd (hv a) kk

theorem g_dup2 {v w : GV} (hd : decode M.cc pc = .ok (.dup2, 1)) (hv : c1 v) (hw : c1 w) (k : GW M P kc ks (pc + 1) ls (v :: w :: v :: w :: st) L A) : GW M P kc ks pc ls (v :: w :: st) L A := by
  intro p l e R s m args below meth c D a0 L0 a H locs lsr Q F E1 E3 S hl
  have kk := k p l e R s m args below meth c D a0 L0 a H locs lsr Q F E1 E3 S hl
  exact lv_dup2_11 F.1 F.2.1 hd (hv a) (hw a) kk

theorem g_icmp_eq {x y : Int} {off : Int} {tgt : Nat} (hx : -2147483648 ≤ x ∧ x < 2147483648) (hy : -2147483648 ≤ y ∧ y < 2147483648) (hd : decode M.cc pc = .ok (.if_icmp .eq off, 3)) (ht : (pc : Int) + off = (tgt : Int)) (kt : x = y → GW M P kc ks tgt ls st L A) (kf : ¬ x = y → GW M P kc ks (pc + 3) ls st L A) : GW M P kc ks pc ls (gi y :: gi x :: st) L A := by
  intro p l e R s m args below meth c D a0 L0 a H locs lsr Q F E1 E3 S hl
  have k1 := fun h => kt h p l e R s m args below meth c D a0 L0 a H locs lsr Q F E1 E3 S hl
  have k2 := fun h => kf h p l e R s m args below meth c D a0 L0 a H locs lsr Q F E1 E3 S hl
  exact lv_icmp_eq F.1 F.2.1 hd ht (fun h => k1 ((fun h => ((ii_eq hx hy).mp h)) h)) (fun h => k2 ((fun h => (fun z => h ((ii_eq hx hy).mpr z))) h))

theorem g_if_eq {x : Int} {off : Int} {tgt : Nat} (hx : -2147483648 ≤ x ∧ x < 2147483648) (hd : decode M.cc pc = .ok (.ifCond .eq off, 3)) (ht : (pc : Int) + off = (tgt : Int)) (kt : x = 0 → GW M P kc ks tgt ls st L A) (kf : ¬ x = 0 → GW M P kc ks (pc + 3) ls st L A) : GW M P kc ks pc ls (gi x :: st) L A := by
  intro p l e R s m args below meth c D a0 L0 a H locs lsr Q F E1 E3 S hl
  have k1 := fun h => kt h p l e R s m args below meth c D a0 L0 a H locs lsr Q F E1 E3 S hl
  have k2 := fun h => kf h p l e R s m args below meth c D a0 L0 a H locs lsr Q F E1 E3 S hl
  have hy : -2147483648 ≤ (0 : Int) ∧ (0 : Int) < 2147483648 := by omega
  exact lv_if_eq F.1 F.2.1 hd ht (fun h => k1 ((fun h => ((ii_eq hx hy).mp h)) h)) (fun h => k2 ((fun h => (fun z => h ((ii_eq hx hy).mpr z))) h))

theorem g_icmp_ne {x y : Int} {off : Int} {tgt : Nat} (hx : -2147483648 ≤ x ∧ x < 2147483648) (hy : -2147483648 ≤ y ∧ y < 2147483648) (hd : decode M.cc pc = .ok (.if_icmp .ne off, 3)) (ht : (pc : Int) + off = (tgt : Int)) (kt : ¬ x = y → GW M P kc ks tgt ls st L A) (kf : x = y → GW M P kc ks (pc + 3) ls st L A) : GW M P kc ks pc ls (gi y :: gi x :: st) L A := by
  intro p l e R s m args below meth c D a0 L0 a H locs lsr Q F E1 E3 S hl
  have k1 := fun h => kt h p l e R s m args below meth c D a0 L0 a H locs lsr Q F E1 E3 S hl
  have k2 := fun h => kf h p l e R s m args below meth c D a0 L0 a H locs lsr Q F E1 E3 S hl
  exact lv_icmp_ne F.1 F.2.1 hd ht (fun h => k1 ((fun h => (fun z => h ((ii_eq hx hy).mpr z))) h)) (fun h => k2 ((fun h => ((ii_eq hx hy).mp h)) h))

theorem g_if_ne {x : Int} {off : Int} {tgt : Nat} (hx : -2147483648 ≤ x ∧ x < 2147483648) (hd : decode M.cc pc = .ok (.ifCond .ne off, 3)) (ht : (pc : Int) + off = (tgt : Int)) (kt : ¬ x = 0 → GW M P kc ks tgt ls st L A) (kf : x = 0 → GW M P kc ks (pc + 3) ls st L A) : GW M P kc ks pc ls (gi x :: st) L A := by
  intro p l e R s m args below meth c D a0 L0 a H locs lsr Q F E1 E3 S hl
  have k1 := fun h => kt h p l e R s m args below meth c D a0 L0 a H locs lsr Q F E1 E3 S hl
  have k2 := fun h => kf h p l e R s m args below meth c D a0 L0 a H locs lsr Q F E1 E3 S hl
  have hy : -2147483648 ≤ (0 : Int) ∧ (0 : Int) < 2147483648 := by omega
  exact lv_if_ne F.1 F.2.1 hd ht (fun h => k1 ((fun h => (fun z => h ((ii_eq hx hy).mpr z))) h)) (fun h => k2 ((fun h => ((ii_eq hx hy).mp h)) h))

theorem g_icmp_lt {x y : Int} {off : Int} {tgt : Nat} (hx : -2147483648 ≤ x ∧ x < 2147483648) (hy : -2147483648 ≤ y ∧ y < 2147483648) (hd : decode M.cc pc = .ok (.if_icmp .lt off, 3)) (ht : (pc : Int) + off = (tgt : Int)) (kt : x < y → GW M P kc ks tgt ls st L A) (kf : ¬ x < y → GW M P kc ks (pc + 3) ls st L A) : GW M P kc ks pc ls (gi y :: gi x :: st) L A := by
  intro p l e R s m args below meth c D a0 L0 a H locs lsr Q F E1 E3 S hl
  have k1 := fun h => kt h p l e R s m args below meth c D a0 L0 a H locs lsr Q F E1 E3 S hl
  have k2 := fun h => kf h p l e R s m args below meth c D a0 L0 a H locs lsr Q F E1 E3 S hl
  exact lv_icmp_lt F.1 F.2.1 hd ht (fun h => k1 ((fun h => ((ii_lt hx hy).mp h)) h)) (fun h => k2 ((fun h => (fun z => h ((ii_lt hx hy).mpr z))) h))

theorem g_if_lt {x : Int} {off : Int} {tgt : Nat} (hx : -2147483648 ≤ x ∧ x < 2147483648) (hd : decode M.cc pc = .ok (.ifCond .lt off, 3)) (ht : (pc : Int) + off = (tgt : Int)) (kt : x < 0 → GW M P kc ks tgt ls st L A) (kf : ¬ x < 0 → GW M P kc ks (pc + 3) ls st L A) : GW M P kc ks pc ls (gi x :: st) L A := by
  intro p l e R s m args below meth c D a0 L0 a H locs lsr Q F E1 E3 S hl
  have k1 := fun h => kt h p l e R s m args below meth c D a0 L0 a H locs lsr Q F E1 E3 S hl
  have k2 := fun h => kf h p l e R s m args below meth c D a0 L0 a H locs lsr Q F E1 E3 S hl
  have hy : -2147483648 ≤ (0 : Int) ∧ (0 : Int) < 2147483648 := by omega
  exact lv_if_lt F.1 F.2.1 hd ht (fun h => k1 ((fun h => ((ii_lt hx hy).mp h)) h)) (fun h => k2 ((fun h => (fun z => h ((ii_lt hx hy).mpr z))) h))

theorem g_icmp_ge {x y : Int} {off : Int} {tgt : Nat} (hx : -2147483648 ≤ x ∧ x < 2147483648) (hy : -2147483648 ≤ y ∧ y < 2147483648) (hd : decode M.cc pc = .ok (.if_icmp .ge off, 3)) (ht : (pc : Int) + off = (tgt : Int)) (kt : y ≤ x → GW M P kc ks tgt ls st L A) (kf : ¬ y ≤ x → GW M P kc ks (pc + 3) ls st L A) : GW M P kc ks pc ls (gi y :: gi x :: st) L A := by
  intro p l e R s m args below meth c D a0 L0 a H locs lsr Q F E1 E3 S hl
  have k1 := fun h => kt h p l e R s m args below meth c D a0 L0 a H locs lsr Q F E1 E3 S hl
  have k2 := fun h => kf h p l e R s m args below meth c D a0 L0 a H locs lsr Q F E1 E3 S hl
  exact lv_icmp_ge F.1 F.2.1 hd ht (fun h => k1 ((fun h => ((ii_le hy hx).mp h)) h)) (fun h => k2 ((fun h => (fun z => h ((ii_le hy hx).mpr z))) h))

theorem g_if_ge {x : Int} {off : Int} {tgt : Nat} (hx : -2147483648 ≤ x ∧ x < 2147483648) (hd : decode M.cc pc = .ok (.ifCond .ge off, 3)) (ht : (pc : Int) + off = (tgt : Int)) (kt : 0 ≤ x → GW M P kc ks tgt ls st L A) (kf : ¬ 0 ≤ x → GW M P kc ks (pc + 3) ls st L A) : GW M P kc ks pc ls (gi x :: st) L A := by
  intro p l e R s m args below meth c D a0 L0 a H locs lsr Q F E1 E3 S hl
  have k1 := fun h => kt h p l e R s m args below meth c D a0 L0 a H locs lsr Q F E1 E3 S hl
  have k2 := fun h => kf h p l e R s m args below meth c D a0 L0 a H locs lsr Q F E1 E3 S hl
  have hy : -2147483648 ≤ (0 : Int) ∧ (0 : Int) < 2147483648 := by omega
  exact lv_if_ge F.1 F.2.1 hd ht (fun h => k1 ((fun h => ((ii_le hy hx).mp h)) h)) (fun h => k2 ((fun h => (fun z => h ((ii_le hy hx).mpr z))) h))

theorem g_icmp_gt {x y : Int} {off : Int} {tgt : Nat} (hx : -2147483648 ≤ x ∧ x < 2147483648) (hy : -2147483648 ≤ y ∧ y < 2147483648) (hd : decode M.cc pc = .ok (.if_icmp .gt off, 3)) (ht : (pc : Int) + off = (tgt : Int)) (kt : y < x → GW M P kc ks tgt ls st L A) (kf : ¬ y < x → GW M P kc ks (pc + 3) ls st L A) : GW M P kc ks pc ls (gi y :: gi x :: st) L A := by
  intro p l e R s m args below meth c D a0 L0 a H locs lsr Q F E1 E3 S hl
  have k1 := fun h => kt h p l e R s m args below meth c D a0 L0 a H locs lsr Q F E1 E3 S hl
  have k2 := fun h => kf h p l e R s m args below meth c D a0 L0 a H locs lsr Q F E1 E3 S hl
  exact lv_icmp_gt F.1 F.2.1 hd ht (fun h => k1 ((fun h => ((ii_lt hy hx).mp h)) h)) (fun h => k2 ((fun h => (fun z => h ((ii_lt hy hx).mpr z))) h))

theorem g_if_gt {x : Int} {off : Int} {tgt : Nat} (hx : -2147483648 ≤ x ∧ x < 2147483648) (hd : decode M.cc pc = .ok (.ifCond .gt off, 3)) (ht : (pc : Int) + off = (tgt : Int)) (kt : 0 < x → GW M P kc ks tgt ls st L A) (kf : ¬ 0 < x → GW M P kc ks (pc + 3) ls st L A) : GW M P kc ks pc ls (gi x :: st) L A := by
  intro p l e R s m args below meth c D a0 L0 a H locs lsr Q F E1 E3 S hl
  have k1 := fun h => kt h p l e R s m args below meth c D a0 L0 a H locs lsr Q F E1 E3 S hl
  have k2 := fun h => kf h p l e R s m args below meth c D a0 L0 a H locs lsr Q F E1 E3 S hl
  have hy : -2147483648 ≤ (0 : Int) ∧ (0 : Int) < 2147483648 := by omega
  exact lv_if_gt F.1 F.2.1 hd ht (fun h => k1 ((fun h => ((ii_lt hy hx).mp h)) h)) (fun h => k2 ((fun h => (fun z => h ((ii_lt hy hx).mpr z))) h))

theorem g_icmp_le {x y : Int} {off : Int} {tgt : Nat} (hx : -2147483648 ≤ x ∧ x < 2147483648) (hy : -2147483648 ≤ y ∧ y < 2147483648) (hd : decode M.cc pc = .ok (.if_icmp .le off, 3)) (ht : (pc : Int) + off = (tgt : Int)) (kt : x ≤ y → GW M P kc ks tgt ls st L A) (kf : ¬ x ≤ y → GW M P kc ks (pc + 3) ls st L A) : GW M P kc ks pc ls (gi y :: gi x :: st) L A := by
  intro p l e R s m args below meth c D a0 L0 a H locs lsr Q F E1 E3 S hl
  have k1 := fun h => kt h p l e R s m args below meth c D a0 L0 a H locs lsr Q F E1 E3 S hl
  have k2 := fun h => kf h p l e R s m args below meth c D a0 L0 a H locs lsr Q F E1 E3 S hl
  exact lv_icmp_le F.1 F.2.1 hd ht (fun h => k1 ((fun h => ((ii_le hx hy).mp h)) h)) (fun h => k2 ((fun h => (fun z => h ((ii_le hx hy).mpr z))) h))

theorem g_if_le {x : Int} {off : Int} {tgt : Nat} (hx : -2147483648 ≤ x ∧ x < 2147483648) (hd : decode M.cc pc = .ok (.ifCond .le off, 3)) (ht : (pc : Int) + off = (tgt : Int)) (kt : x ≤ 0 → GW M P kc ks tgt ls st L A) (kf : ¬ x ≤ 0 → GW M P kc ks (pc + 3) ls st L A) : GW M P kc ks pc ls (gi x :: st) L A := by
  intro p l e R s m args below meth c D a0 L0 a H locs lsr Q F E1 E3 S hl
  have k1 := fun h => kt h p l e R s m args below meth c D a0 L0 a H locs lsr Q F E1 E3 S hl
  have k2 := fun h => kf h p l e R s m args below meth c D a0 L0 a H locs lsr Q F E1 E3 S hl
  have hy : -2147483648 ≤ (0 : Int) ∧ (0 : Int) < 2147483648 := by omega
  exact lv_if_le F.1 F.2.1 hd ht (fun h => k1 ((fun h => ((ii_le hx hy).mp h)) h)) (fun h => k2 ((fun h => (fun z => h ((ii_le hx hy).mpr z))) h))

theorem g_goto {off : Int} {tgt : Nat} (hd : decode M.cc pc = .ok (.goto off, 3)) (ht : (pc : Int) + off = (tgt : Int)) (k : GW M P kc ks tgt ls st L A) : GW M P kc ks pc ls st L A := by
  intro p l e R s m args below meth c D a0 L0 a H locs lsr Q F E1 E3 S hl
  have kk := k p l e R s m args below meth c D a0 L0 a H locs lsr Q F E1 E3 S hl
  exact lv_goto F.1 F.2.1 hd ht kk

/-- the same place by another number -/
theorem g_at {pc2 : Nat} (h : pc = pc2) (k : GW M P kc ks pc2 ls st L A) : GW M P kc ks pc ls st L A := h ▸ k
theorem g_wide {kc2 ks2 : Nat} (h1 : kc ≤ kc2) (h2 : ks ≤ ks2) (k : GW M P kc2 ks2 pc ls st L A) : GW M P kc ks pc ls st L A := by
  intro p l e R s m args below meth c D a0 L0 a H locs lsr Q F E1 E3 S hl
  have kk := k p l e R s m args below meth c D a0 L0 a H locs lsr Q F E1 E3 S hl
  exact W.widen h1 h2 kk

theorem g_ret {v : Option GV} {i : Instr} (hd : decode M.cc pc = .ok (i, 1)) (hr : rtok M i v) (h1 : kc ≤ M.mc) (h2 : ks ≤ M.ms) (hP : P (.inr v) L A) : GW M P kc ks pc ls v.toList L A := by
  intro p l e R s m args below meth c D a0 L0 a H locs lsr Q F E1 E3 S hl
  have e : v.toList.map (ev a) = (v.map (ev a)).toList := by cases v <;> rfl
  exact E1.1 a L A H locs kc ks pc lsr v i hP S h1 h2 hd hr

theorem g_iret {z : Int} (hd : decode M.cc pc = .ok (.ireturn, 1)) (hr : M.rt = some .int) (h1 : kc ≤ M.mc) (h2 : ks ≤ M.ms) (hP : P (.inr (some (gi z))) L A) : GW M P kc ks pc ls [gi z] L A := g_ret (v := some (gi z)) hd (Or.inr (Or.inl ⟨rfl, z, rfl, Or.inl hr⟩)) h1 h2 hP
theorem g_zret {z : Int} (hd : decode M.cc pc = .ok (.ireturn, 1)) (hr : M.rt = some .boolean) (hz : z = 0 ∨ z = 1) (h1 : kc ≤ M.mc) (h2 : ks ≤ M.ms) (hP : P (.inr (some (gi z))) L A) : GW M P kc ks pc ls [gi z] L A := g_ret (v := some (gi z)) hd (Or.inr (Or.inl ⟨rfl, z, rfl, Or.inr ⟨hr, hz⟩⟩)) h1 h2 hP
theorem g_vret (hd : decode M.cc pc = .ok (.return_, 1)) (hr : M.rt = none) (h1 : kc ≤ M.mc) (h2 : ks ≤ M.ms) (hP : P (.inr none) L A) : GW M P kc ks pc ls [] L A := g_ret (v := none) hd (Or.inl ⟨rfl, hr, rfl⟩) h1 h2 hP
theorem g_aret {n : Nat} {t : String} (hd : decode M.cc pc = .ok (.areturn, 1)) (hr : M.rt = some (.object t)) (h1 : kc ≤ M.mc) (h2 : ks ≤ M.ms) (hP : P (.inr (some (gr n))) L A) : GW M P kc ks pc ls [gr n] L A := g_ret (v := some (gr n)) hd (Or.inr (Or.inr ⟨rfl, n, rfl, Or.inl ⟨t, hr⟩⟩)) h1 h2 hP
theorem g_throw {E : String} {names : List String} {ik is ic : Nat} {text : String} (hT : TH M E pc names ik is ic text) (h1 : kc + 1 ≤ M.mc) (h2 : ks + 6 ≤ M.ms) (hst : st.length ≤ 10) (hP : P (.inl E) L A) : GW M P kc ks pc ls st L A := by
  intro p l e R s m args below meth c D a0 L0 a H locs lsr Q F E1 E3 S hl
  refine E3 a L A H locs kc ks pc lsr (st.map (ev a)) E names ik is ic text hP S h1 h2 hT (hl.1.trans F.2.2.1.symm) ?_
  have h9 : ∀ (st : List GV), ((st.map (ev a)).map fun v => v.category).sum ≤ 2 * st.length := by
    intro st
    induction st with
    | nil => simp
    | cons x r ih =>
      have hx : (ev a x).category ≤ 2 := by rcases lv_cat (ev a x) with h | h <;> omega
      simp only [List.map_cons, List.sum_cons, List.length_cons]
      omega
  have := h9 st
  omega

end GR
end
section
def gup (A : Mem) (n k : Nat) (v : Int) : Mem := fun m j => if m = n ∧ j = k then v else A m j
def gz (A : Mem) (n : Nat) : Mem := fun m j => if m = n then 0 else A m j
def gset (f : Nat → Nat) (n v : Nat) : Nat → Nat := fun m => if m = n then v else f m
theorem gup_ne {A : Mem} {n k m : Nat} {v : Int} (h : m ≠ n) : gup A n k v m = A m := by funext j; simp [gup, h]
theorem gz_ne {A : Mem} {n m : Nat} (h : m ≠ n) : gz A n m = A m := by funext j; simp [gz, h]
theorem gset_ne {f : Nat → Nat} {n v m : Nat} (h : m ≠ n) : gset f n v m = f m := by simp [gset, h]
theorem gset_eq {f : Nat → Nat} {n v : Nat} : gset f n v n = v := by simp [gset]
/-- a class of the table: its words, its fields' types, its fields' names apart -/
def CFx (c : Nat) (C : String) (T : u_T) (N : Nat) (ty : Nat → FieldType) : Prop := vwCl[c]? = some (C, T, N) ∧ (∀ w ∈ u_ws C T N, w ∈ WS) ∧ (∀ k, k < N → parseFieldDescriptor (T k).2.2.1 = some (ty k)) ∧ ∀ a, a < N → ∀ b, b < N → a ≠ b → (T a).2.1 ≠ (T b).2.1
theorem cf_in {C : String} {T : u_T} {N : Nat} (h : ∀ w ∈ u_ws C T N, w ∈ lw_tbl) (g : (u_ws C T N).all goodWord = true) : ∀ w ∈ u_ws C T N, w ∈ WS := fun w hw => WS_in (h w hw) (List.all_eq_true.mp g w hw)
set_option maxRecDepth 100000 in
theorem cf_0 : CFx 0 RJx4a65c TJx4a65c 3 tyJx4a65c := ⟨rfl, cf_in (by decide +kernel) (by decide +kernel), tyJx4a65c_ok, nmJx4a65c⟩
set_option maxRecDepth 100000 in
theorem cf_1 : CFx 1 RX0 TX0 10 tyX0 := ⟨rfl, cf_in (by decide +kernel) (by decide +kernel), tyX0_ok, nmX0⟩
set_option maxRecDepth 100000 in
theorem cf_2 : CFx 2 RX1 TX1 6 tyX1 := ⟨rfl, cf_in (by decide +kernel) (by decide +kernel), tyX1_ok, nmX1⟩
set_option maxRecDepth 100000 in
theorem cf_3 : CFx 3 RX2 TX2 11 tyX2 := ⟨rfl, cf_in (by decide +kernel) (by decide +kernel), tyX2_ok, nmX2⟩
set_option maxRecDepth 100000 in
theorem cf_4 : CFx 4 RX3 TX3 10 tyX3 := ⟨rfl, cf_in (by decide +kernel) (by decide +kernel), tyX3_ok, nmX3⟩
set_option maxRecDepth 100000 in
theorem cf_5 : CFx 5 RX4 TX4 37 tyX4 := ⟨rfl, cf_in (by decide +kernel) (by decide +kernel), tyX4_ok, nmX4⟩
theorem gcell_o {D : GD} {a : Nat → Nat} {A : Mem} {n c N : Nat} (hy : ly n = (c, N)) (hc : c < 6) : gcell D a A n = .inr (c, (List.range N).map (gfd D.2.2 a A c n)) := by
  unfold gcell
  rw [hy]
  rcases (show c = 0 ∨ c = 1 ∨ c = 2 ∨ c = 3 ∨ c = 4 ∨ c = 5 by omega) with rfl | rfl | rfl | rfl | rfl | rfl <;> rfl
theorem gcell_i {D : GD} {a : Nat → Nat} {A : Mem} {n N : Nat} (hy : ly n = (6, N)) : gcell D a A n = .inl (D.2.1.1, N, .inl (fun j => Int32.ofInt (A n j))) := by
  unfold gcell; rw [hy]; rfl
theorem gcell_z {D : GD} {a : Nat → Nat} {A : Mem} {n N : Nat} (hy : ly n = (7, N)) : gcell D a A n = .inl (D.2.1.2.1, N, .inl (fun j => Int32.ofInt (A n j))) := by
  unfold gcell; rw [hy]; rfl
theorem gcell_l {D : GD} {a : Nat → Nat} {A : Mem} {n N : Nat} (hy : ly n = (8, N)) : gcell D a A n = .inl (D.2.1.2.2.1, N, .inr (.inl (fun j => Int64.ofInt (A n j)))) := by
  unfold gcell; rw [hy]; rfl
theorem gcell_q {D : GD} {a : Nat → Nat} {A : Mem} {n N : Nat} (hy : ly n = (9, N)) : gcell D a A n = .inl (D.2.1.2.2.2, (A n 0).toNat, .inr (.inr (.inr (.inr (grow_ a A n))))) := by
  unfold gcell; rw [hy]; rfl
theorem grow_c {a a' : Nat → Nat} {A A' : Mem} {n : Nat} (h : A' n = A n) (ha : ∀ j : Nat, (j : Int) < A n 1 → a' (eln n j) = a (eln n j)) : grow_ a' A' n = grow_ a A n := by
  funext j
  unfold grow_
  rw [h]
  by_cases hj : (j : Int) < A n 1
  · rw [if_pos hj, if_pos hj, ha j hj]
  · rw [if_neg hj, if_neg hj]
theorem gcell_c {D : GD} {a : Nat → Nat} {A A' : Mem} {n : Nat} (h : A' n = A n) : gcell D a A' n = gcell D a A n := by
  have e : ∀ c, gfd D.2.2 a A' c n = gfd D.2.2 a A c n := by
    intro c
    funext k
    unfold gfd
    rw [h]
  unfold gcell
  simp only [h, e, grow_c (a := a) (a' := a) h (fun _ _ => rfl)]
theorem Wd_one {D : GD} {a L : Nat → Nat} {A : Mem} {H : Heap} (hW : Wd D a L A H) {n : Nat} (hn : L n ≠ 0) {x : va_E} (hx : gcell D a A n = x) : va_P D.1 vwCl [(a n, x)] H := by
  intro k q hq
  have hk : k < 1 := (List.getElem?_eq_some_iff.mp hq).1
  rw [show k = 0 by omega] at hq
  cases hq
  rw [← hx]
  exact hW.1 n hn
/-- one place of one cell is written -/
theorem SH_put {M : MD} {D : GD} {a0 L0 : Nat → Nat} {s : State} {a L : Nat → Nat} {A A' : Mem} {H H1 : Heap} {locs : List Loc} {n i : Nat} (S : SH M D a0 L0 s a L A H locs) (hn : L n ≠ 0) (hA : ∀ m, m ≠ n → A' m = A m)
    (hc : va_at D.1 vwCl (a n, gcell D a A' n) H1) (z : H1.size = H.size) (oq : ∀ q : Nat, q ≠ a n → H1[q]? = H[q]?) (h3 : ∀ k, L n = 2 → k < (ly n).2 → rfk (ly n).1 k = true → A' n k ≠ 0) (h4 : ∀ k, -2147483648 ≤ A' n k ∧ A' n k < 2147483648) :
    SH M D a0 L0 s a L A' H1 (locs ++ [⟨a n, i⟩]) := by
  obtain ⟨⟨w1, w2, w3, w4⟩, hf, hag, hmo, hfl, hva⟩ := S
  refine ⟨⟨fun m hm => ?_, w2, fun m k h1 h2 h5 => ?_, fun m k => ?_⟩, hf, hag, hmo, hfl, hva.put z oq (hf n hn)⟩
  · by_cases e : m = n
    · rw [e]; exact hc
    · rw [gcell_c (hA m e)]
      exact va_at.kept (w1 m hm) (oq _ (fun q => e (w2 m n hm hn q)))
  · by_cases e : m = n
    · subst e; exact h3 k h1 h2 h5
    · rw [hA m e]; exact w3 m k h1 h2 h5
  · by_cases e : m = n
    · subst e; exact h4 k
    · rw [hA m e]; exact w4 m k
section GM
variable {M : MD} {P : Pst} {kc ks pc : Nat} {ls : List (Nat × GV)} {st : List GV} {L : Nat → Nat} {A : Mem}

theorem g_getfi {ci N n ix : Nat} {C : String} {T : u_T} {ty : Nat → FieldType} (hF : CFx ci C T N ty) (k : Nat) (hy : ly n = (ci, N)) (hc : ci < 6) (hk : k < N) (hr : rfk ci k = false) (h0 : ¬ (ci = 0 ∧ k = 1)) (hw : Cond.fieldLink M.y.cls ix (T k).1 (T k).2.1 (T k).2.2.1 ∈ WS) (hd : decode M.cc pc = .ok (.getfield ix, 3)) (hn : L n ≠ 0)
    (kk : -2147483648 ≤ A n k ∧ A n k < 2147483648 → GW M P kc ks (pc + 3) ls (gi (A n k) :: st) L A) : GW M P kc ks pc ls (gr n :: st) L A := by
  intro p l e R s m args below meth c D a0 L0 a H locs lsr Q F E1 E3 S hl
  have k2 := kk (S.1.2.2.2 n k) p l e R s m args below meth c D a0 L0 a H locs lsr Q F E1 E3 S hl
  refine va_get (q0 := 0) F.1 F.2.1 F.2.2.2.2.1 hF.2.1 F.2.2.2.1 F.2.2.2.2.2.2.2.2.2.2.1.1 (Wd_one S.1 hn (gcell_o hy hc)) rfl hF.1 k hk (F.2.2.2.2.1 _ hw) (fun _ h => h) (v := .int (Int32.ofInt (A n k))) ?_ hd k2
  rw [List.getElem?_map, List.getElem?_range hk]
  simp only [Option.map_some, gfd, if_neg h0, hr, Bool.false_eq_true, if_false]

theorem g_getfr {ci N n ix : Nat} {C : String} {T : u_T} {ty : Nat → FieldType} (hF : CFx ci C T N ty) (k : Nat) (hy : ly n = (ci, N)) (hc : ci < 6) (hk : k < N) (hr : rfk ci k = true) (h0 : ¬ (ci = 0 ∧ k = 1)) (hw : Cond.fieldLink M.y.cls ix (T k).1 (T k).2.1 (T k).2.2.1 ∈ WS) (hd : decode M.cc pc = .ok (.getfield ix, 3)) (hn : L n = 2)
    (kk : GW M P kc ks (pc + 3) ls (gr (rfn ci n k) :: st) L A) : GW M P kc ks pc ls (gr n :: st) L A := by
  intro p l e R s m args below meth c D a0 L0 a H locs lsr Q F E1 E3 S hl
  have k2 := kk p l e R s m args below meth c D a0 L0 a H locs lsr Q F E1 E3 S hl
  have hz : A n k ≠ 0 := S.1.2.2.1 n k hn (by rw [hy]; exact hk) (by rw [hy]; exact hr)
  refine va_get (q0 := 0) F.1 F.2.1 F.2.2.2.2.1 hF.2.1 F.2.2.2.1 F.2.2.2.2.2.2.2.2.2.2.1.1 (Wd_one S.1 (by rw [hn]; decide) (gcell_o hy hc)) rfl hF.1 k hk (F.2.2.2.2.1 _ hw) (fun _ h => h) (v := .ref (a (rfn ci n k))) ?_ hd k2
  rw [List.getElem?_map, List.getElem?_range hk]
  simp only [Option.map_some, gfd, if_neg h0, hr, if_true, if_neg hz]

/-- a field is written (v the new value, by z in the memory) -/
theorem g_putf {ci N n ix : Nat} {C : String} {T : u_T} {ty : Nat → FieldType} (hF : CFx ci C T N ty) (k : Nat) {z : Int} {v : GV} (hy : ly n = (ci, N)) (hc : ci < 6) (hk : k < N) (h0 : ¬ (ci = 0 ∧ k = 1)) (hw : Cond.fieldLink M.y.cls ix (T k).1 (T k).2.1 (T k).2.2.1 ∈ WS)
    (hfin : (T k).2.2.2 = false ∨ ((T k).2.2.2 = true ∧ M.y.name = "<init>" ∧ (T k).1 = M.y.cls)) (hv : (rfk ci k = false ∧ v = gi z ∧ ty k = .int) ∨ (rfk ci k = true ∧ v = gr (rfn ci n k) ∧ z = 1 ∧ ((∃ t, ty k = .object t) ∨ ∃ t, ty k = .array t)))
    (hz : -2147483648 ≤ z ∧ z < 2147483648) (hd : decode M.cc pc = .ok (.putfield ix, 3)) (hn : L n ≠ 0) (kk : GW M P kc ks (pc + 3) ls st L (gup A n k z)) : GW M P kc ks pc ls (v :: gr n :: st) L A := by
  intro p l e R s m args below meth c D a0 L0 a H locs lsr Q F E1 E3 S hl
  obtain ⟨hx, hb, hml, hown, hws, hlocks, hrt, hnm, hlt, htab, hE, hR⟩ := id F
  have hK := hE.1
  have hat := S.1.1 n hn
  rw [gcell_o hy hc] at hat
  obtain ⟨r, h1, cell, q1, q2, q3, q4⟩ := hat
  have hr : r = (C, T, N) := Option.some.inj (h1.symm.trans hF.1)
  subst hr
  have hap := va_apart (own := M.y.cls) hws hF.2.1 ty hF.2.2.1 hF.2.2.2 hK hF.1
  obtain ⟨hS, hfc, kC, hkC, hkind⟩ := hK.1 ci _ hF.1
  obtain ⟨cf, kf, fi, f, hi, hsl⟩ := hS k hk
  have hlay := hws _ (hF.2.1 _ (u_in_lay hk))
  have hst := (u_facts hfc hkC (u_lays hws hF.2.1 hk) hi).1
  have hnf : narrow (ty k) (ev a v) = ev a v ∧ fits (ty k) (ev a v) = true := by
    rcases hv with ⟨-, rfl, h⟩ | ⟨-, rfl, -, ⟨t, h⟩ | ⟨t, h⟩⟩ <;> rw [h] <;> exact ⟨rfl, rfl⟩
  have hgf : ∀ j, j < N → updV (vp_V ((List.range N).map (gfd D.2.2 a A ci n))) k (ev a v) j = vp_V ((List.range N).map (gfd D.2.2 a (gup A n k z) ci n)) j := by
    intro j hj
    have e1 : ∀ A' : Mem, vp_V ((List.range N).map (gfd D.2.2 a A' ci n)) j = gfd D.2.2 a A' ci n j := by
      intro A'
      simp [vp_V, List.getD, hj]
    rw [updV, e1, e1]
    by_cases hjk : j = k
    · subst hjk
      rw [if_pos rfl]
      rcases hv with ⟨h9, rfl, -⟩ | ⟨h9, rfl, rfl, -⟩
      · simp [gfd, h0, h9, gup, ev, gi]
      · simp [gfd, h0, h9, gup, ev, gr]
    · rw [if_neg hjk]
      by_cases h01 : ci = 0 ∧ j = 1
      · simp [gfd, h01, gup, show ¬ 1 = k by rw [← h01.2]; exact hjk]
      · simp [gfd, gup, hjk, h01]
  have fin : ∀ H' : Heap, H'[a n]? = some (cell.setSlot f.slot (ev a v)) → H'.size = H.size → (∀ q, q ≠ a n → H'[q]? = H[q]?) → W p l e R s m args below meth c H' (locs ++ [⟨a n, f.slot⟩]) kc ks Q (F0 m (pc + 3) lsr (st.map (ev a))) := by
    intro H' e1 e2 e3
    rw [hsl] at e1
    refine kk p l e R s m args below meth c D a0 L0 a H' _ lsr Q F E1 E3 (SH_put S hn (fun m hm => gup_ne hm) ?_ e2 e3 ?_ ?_) hl
    · rw [gcell_o hy hc]
      exact ⟨_, hF.1, t_OB.to (V := updV (vp_V ((List.range N).map (gfd D.2.2 a A ci n))) k (ev a v)) ⟨_, e1, q2, q3, t_set q4 hap hk (ev a v)⟩ hgf⟩
    · intro j h2 h3 h4
      by_cases e : j = k
      · subst e
        rw [hy] at h4
        rcases hv with ⟨h9, -⟩ | ⟨-, -, rfl, -⟩
        · exact absurd (h9.symm.trans h4) (by decide)
        · simp [gup]
      · have := S.1.2.2.1 n j h2 h3 h4
        simpa [gup, e] using this
    · intro j
      by_cases e : j = k
      · simp only [gup, e, and_self, if_true]; exact hz
      · simp only [gup, e, and_false, if_false]; exact S.1.2.2.2 n j
  unfold u_lay at hlay
  rcases hfin with hfin | ⟨hfin, hin2, hdecl⟩
  · rw [if_neg (by rw [hfin]; decide)] at hlay
    have h6 := u_store hfc hkC hkind hlay hi (hF.2.2.1 k hk) hnf.1 hnf.2
    exact W.putK hx hb (f := f) ⟨hown, hws _ hw, ⟨_, _, _, hi⟩, hst⟩ (by rw [q2]; exact h6) q1 q3 (by rw [hsl]; exact k2_hasslot (q4 k hk)) rfl rfl hd fin
  · rw [if_pos hfin] at hlay
    have hcf : m.cls = cf := by
      obtain ⟨_, _, c', _, _, _, -, -, hf', -, -, -, hown2, -⟩ := Cond.laysFinal_spec hlay
      have e1 : c' = cf := by have := hi.symm.trans hf'; simp at this; exact this.1.symm
      rw [hdecl] at hown2
      rw [← e1]; exact Option.some.inj (hown.symm.trans hown2)
    have h6 := u_fits hfc hkC hkind (Or.inr hlay) hi (hF.2.2.1 k hk) hnf.1 hnf.2
    exact W.putFinK hx hb hown (hws _ hw) hi hst hcf (hnm.trans hin2) (by rw [q2]; exact h6) q1 q3 (by rw [hsl]; exact k2_hasslot (q4 k hk)) rfl rfl hd fin

theorem g_putfi {ci N n ix : Nat} {C : String} {T : u_T} {ty : Nat → FieldType} (hF : CFx ci C T N ty) (k : Nat) {z : Int} (hy : ly n = (ci, N)) (hc : ci < 6) (hk : k < N) (hr : rfk ci k = false) (h0 : ¬ (ci = 0 ∧ k = 1)) (hw : Cond.fieldLink M.y.cls ix (T k).1 (T k).2.1 (T k).2.2.1 ∈ WS)
    (hfin : (T k).2.2.2 = false ∨ ((T k).2.2.2 = true ∧ M.y.name = "<init>" ∧ (T k).1 = M.y.cls)) (ht : ty k = .int) (hd : decode M.cc pc = .ok (.putfield ix, 3)) (hn : L n ≠ 0) (hz : -2147483648 ≤ z ∧ z < 2147483648) (kk : GW M P kc ks (pc + 3) ls st L (gup A n k z)) : GW M P kc ks pc ls (gi z :: gr n :: st) L A :=
  g_putf hF k hy hc hk h0 hw hfin (Or.inl ⟨hr, rfl, ht⟩) hz hd hn kk
theorem g_putfr {ci N n ix : Nat} {C : String} {T : u_T} {ty : Nat → FieldType} (hF : CFx ci C T N ty) (k : Nat) {r : Nat} (hy : ly n = (ci, N)) (hc : ci < 6) (hk : k < N) (hr : rfk ci k = true) (hrn : r = rfn ci n k) (h0 : ¬ (ci = 0 ∧ k = 1)) (hw : Cond.fieldLink M.y.cls ix (T k).1 (T k).2.1 (T k).2.2.1 ∈ WS)
    (hfin : (T k).2.2.2 = false ∨ ((T k).2.2.2 = true ∧ M.y.name = "<init>" ∧ (T k).1 = M.y.cls)) (ht : (∃ t, ty k = .object t) ∨ ∃ t, ty k = .array t) (hd : decode M.cc pc = .ok (.putfield ix, 3)) (hn : L n ≠ 0) (kk : GW M P kc ks (pc + 3) ls st L (gup A n k 1)) : GW M P kc ks pc ls (gr r :: gr n :: st) L A :=
  g_putf hF k hy hc hk h0 hw hfin (Or.inr ⟨hr, by rw [hrn], rfl, ht⟩) (by omega) hd hn kk

theorem g_iald {N n : Nat} {z : Int} (i : Nat) (hz : z = (i : Int)) (hi : i < N) (hy : ly n = (6, N)) (hN : N ≤ 2147483648) (hd : decode M.cc pc = .ok (.iaload, 1)) (hn : L n ≠ 0) (kk : -2147483648 ≤ A n i ∧ A n i < 2147483648 → GW M P kc ks (pc + 1) ls (gi (A n i) :: st) L A) : GW M P kc ks pc ls (gi z :: gr n :: st) L A := by
  subst hz
  intro p l e R s m args below meth c D a0 L0 a H locs lsr Q F E1 E3 S hl
  have k2 := kk (S.1.2.2.2 n i) p l e R s m args below meth c D a0 L0 a H locs lsr Q F E1 E3 S hl
  refine va_iald (q0 := 0) (t0 := 0) F.1 F.2.1 F.2.2.2.2.2.2.2.2.2.2.1.1 (Wd_one S.1 hn (gcell_i hy)) rfl rfl (ii_in hi hN) hd ?_
  rw [ii_nat (by omega)]
  exact k2

theorem g_zald {N n : Nat} {z : Int} (i : Nat) (hz : z = (i : Int)) (hi : i < N) (hy : ly n = (7, N)) (hN : N ≤ 2147483648) (hd : decode M.cc pc = .ok (.baload, 1)) (hn : L n ≠ 0) (kk : -2147483648 ≤ A n i ∧ A n i < 2147483648 → GW M P kc ks (pc + 1) ls (gi (A n i) :: st) L A) : GW M P kc ks pc ls (gi z :: gr n :: st) L A := by
  subst hz
  intro p l e R s m args below meth c D a0 L0 a H locs lsr Q F E1 E3 S hl
  have k2 := kk (S.1.2.2.2 n i) p l e R s m args below meth c D a0 L0 a H locs lsr Q F E1 E3 S hl
  refine va_zald (q0 := 0) (t0 := 1) F.1 F.2.1 F.2.2.2.2.2.2.2.2.2.2.1.1 (Wd_one S.1 hn (gcell_z hy)) rfl rfl (ii_in hi hN) hd ?_
  rw [ii_nat (by omega)]
  exact k2

theorem g_lald {N n : Nat} {z : Int} (i : Nat) (hz : z = (i : Int)) (hi : i < N) (hy : ly n = (8, N)) (hN : N ≤ 2147483648) (hd : decode M.cc pc = .ok (.laload, 1)) (hn : L n ≠ 0) (kk : -2147483648 ≤ A n i ∧ A n i < 2147483648 → GW M P kc ks (pc + 1) ls (gl (A n i) :: st) L A) : GW M P kc ks pc ls (gi z :: gr n :: st) L A := by
  subst hz
  intro p l e R s m args below meth c D a0 L0 a H locs lsr Q F E1 E3 S hl
  have k2 := kk (S.1.2.2.2 n i) p l e R s m args below meth c D a0 L0 a H locs lsr Q F E1 E3 S hl
  refine va_lald (q0 := 0) (t0 := 2) F.1 F.2.1 F.2.2.2.2.2.2.2.2.2.2.1.1 (Wd_one S.1 hn (gcell_l hy)) rfl rfl (ii_in hi hN) hd ?_
  rw [ii_nat (by omega)]
  exact k2

theorem g_iast {N n : Nat} {z x : Int} (i : Nat) (hz : z = (i : Int)) (hi : i < N) (hx : -2147483648 ≤ x ∧ x < 2147483648) (hy : ly n = (6, N)) (hN : N ≤ 2147483648) (hd : decode M.cc pc = .ok (.iastore, 1)) (hn : L n ≠ 0) (kk : GW M P kc ks (pc + 1) ls st L (gup A n i x)) : GW M P kc ks pc ls (gi x :: gi z :: gr n :: st) L A := by
  subst hz
  intro p l e R s m args below meth c D a0 L0 a H locs lsr Q F E1 E3 S hl
  have hat := S.1.1 n hn
  rw [gcell_i hy] at hat
  have hK := F.2.2.2.2.2.2.2.2.2.2.1.1
  refine W.iast F.1 F.2.1 hat ((hK.2 0 _ rfl).1 N _) (fun q => by cases q) (by show ¬ (Int32.ofInt (i : Int) < 0 ∨ (arrV _ _ _).slots.size ≤ _); rw [arrV_size]; exact ii_in hi hN) rfl rfl hd fun H1 eH z oq => ?_
  refine kk p l e R s m args below meth c D a0 L0 a H1 _ lsr Q F E1 E3 (SH_put S hn (fun m hm => gup_ne hm) ?_ z oq (fun k _ _ h4 => absurd h4 (by rw [hy]; simp [rfk])) (fun k => ?_)) hl
  · rw [gcell_i hy]
    show H1[a n]? = some (vp_cell _ _)
    rw [eH]
    rw [vp_cell_i, vp_cell_i, arrV_store]
    congr 2
    funext q
    rw [ii_nat (by omega)]
    by_cases hq : q = i
    · subst hq
      simp [updV, gup]
    · simp [updV, gup, hq]
  · by_cases hq : k = i
    · simp only [gup, hq, and_self, if_true]
      exact hx
    · simp only [gup, hq, and_false, if_false]
      exact S.1.2.2.2 n k

theorem g_last {N n : Nat} {z x : Int} (i : Nat) (hz : z = (i : Int)) (hi : i < N) (hx : -2147483648 ≤ x ∧ x < 2147483648) (hy : ly n = (8, N)) (hN : N ≤ 2147483648) (hd : decode M.cc pc = .ok (.lastore, 1)) (hn : L n ≠ 0) (kk : GW M P kc ks (pc + 1) ls st L (gup A n i x)) : GW M P kc ks pc ls (gl x :: gi z :: gr n :: st) L A := by
  subst hz
  intro p l e R s m args below meth c D a0 L0 a H locs lsr Q F E1 E3 S hl
  have hat := S.1.1 n hn
  rw [gcell_l hy] at hat
  have hK := F.2.2.2.2.2.2.2.2.2.2.1.1
  refine W.last F.1 F.2.1 hat ((hK.2 2 _ rfl).1 N _) (fun q => by cases q) (by show ¬ (Int32.ofInt (i : Int) < 0 ∨ (arrV _ _ _).slots.size ≤ _); rw [arrV_size]; exact ii_in hi hN) rfl rfl hd fun H1 eH z oq => ?_
  refine kk p l e R s m args below meth c D a0 L0 a H1 _ lsr Q F E1 E3 (SH_put S hn (fun m hm => gup_ne hm) ?_ z oq (fun k _ _ h4 => absurd h4 (by rw [hy]; simp [rfk])) (fun k => ?_)) hl
  · rw [gcell_l hy]
    show H1[a n]? = some (vp_cell _ _)
    rw [eH]
    rw [vp_cell_l, vp_cell_l, arrV_store]
    congr 2
    funext q
    rw [ii_nat (by omega)]
    by_cases hq : q = i
    · subst hq
      simp [updV, gup]
    · simp [updV, gup, hq]
  · by_cases hq : k = i
    · simp only [gup, hq, and_self, if_true]
      exact hx
    · simp only [gup, hq, and_false, if_false]
      exact S.1.2.2.2 n k

theorem g_zast {N n : Nat} {z x : Int} (i : Nat) (hz : z = (i : Int)) (hi : i < N) (hx : x = 0 ∨ x = 1) (hy : ly n = (7, N)) (hN : N ≤ 2147483648) (hd : decode M.cc pc = .ok (.bastore, 1)) (hn : L n ≠ 0) (kk : GW M P kc ks (pc + 1) ls st L (gup A n i x)) : GW M P kc ks pc ls (gi x :: gi z :: gr n :: st) L A := by
  subst hz
  intro p l e R s m args below meth c D a0 L0 a H locs lsr Q F E1 E3 S hl
  have hat := S.1.1 n hn
  rw [gcell_z hy] at hat
  have hK := F.2.2.2.2.2.2.2.2.2.2.1.1
  refine W.zast F.1 F.2.1 hat ((hK.2 1 _ rfl).1 N _) (fun q => by cases q) (by show ¬ (Int32.ofInt (i : Int) < 0 ∨ (arrV _ _ _).slots.size ≤ _); rw [arrV_size]; exact ii_in hi hN) rfl rfl hd fun H1 eH z oq => ?_
  rw [show narrow .boolean (.int (Int32.ofInt x)) = .int (Int32.ofInt x) by rcases hx with rfl | rfl <;> rfl] at eH
  refine kk p l e R s m args below meth c D a0 L0 a H1 _ lsr Q F E1 E3 (SH_put S hn (fun m hm => gup_ne hm) ?_ z oq (fun k _ _ h4 => absurd h4 (by rw [hy]; simp [rfk])) (fun k => ?_)) hl
  · rw [gcell_z hy]
    show H1[a n]? = some (vp_cell _ _)
    rw [eH]
    rw [vp_cell_i, vp_cell_i, arrV_store]
    congr 2
    funext q
    rw [ii_nat (by omega)]
    by_cases hq : q = i
    · subst hq
      simp [updV, gup]
    · simp [updV, gup, hq]
  · by_cases hq : k = i
    · simp only [gup, hq, and_self, if_true]
      rcases hx with rfl | rfl <;> decide
    · simp only [gup, hq, and_false, if_false]
      exact S.1.2.2.2 n k

theorem g_alen {N n cd : Nat} (hy : ly n = (cd, N)) (hcd : cd = 6 ∨ cd = 7 ∨ cd = 8) (hd : decode M.cc pc = .ok (.arraylength, 1)) (hn : L n ≠ 0) (kk : GW M P kc ks (pc + 1) ls (gi N :: st) L A) : GW M P kc ks pc ls (gr n :: st) L A := by
  intro p l e R s m args below meth c D a0 L0 a H locs lsr Q F E1 E3 S hl
  have k2 := kk p l e R s m args below meth c D a0 L0 a H locs lsr Q F E1 E3 S hl
  have hv : Int32.ofNat N = Int32.ofInt (N : Int) := rfl
  rcases hcd with rfl | rfl | rfl
  · exact va_alen (q0 := 0) (t0 := 0) F.1 F.2.1 F.2.2.2.2.2.2.2.2.2.2.1.1 (Wd_one S.1 hn (gcell_i hy)) rfl rfl hv hd k2
  · exact va_alen (q0 := 0) (t0 := 1) F.1 F.2.1 F.2.2.2.2.2.2.2.2.2.2.1.1 (Wd_one S.1 hn (gcell_z hy)) rfl rfl hv hd k2
  · exact va_alen (q0 := 0) (t0 := 2) F.1 F.2.1 F.2.2.2.2.2.2.2.2.2.2.1.1 (Wd_one S.1 hn (gcell_l hy)) rfl rfl hv hd k2
theorem g_cast {ci N n ix : Nat} {C : String} {T : u_T} {ty : Nat → FieldType} (hF : CFx ci C T N ty) (hy : ly n = (ci, N)) (hc : ci < 6) (hw : Cond.classLink M.y.cls ix C ∈ WS) (hd : decode M.cc pc = .ok (.checkcast ix, 3)) (hn : L n ≠ 0) (kk : GW M P kc ks (pc + 3) ls (gr n :: st) L A) : GW M P kc ks pc ls (gr n :: st) L A := by
  intro p l e R s m args below meth c D a0 L0 a H locs lsr Q F E1 E3 S hl
  have k2 := kk p l e R s m args below meth c D a0 L0 a H locs lsr Q F E1 E3 S hl
  have hK := F.2.2.2.2.2.2.2.2.2.2.1.1
  exact va_castS F.1 F.2.1 F.2.2.2.1 (F.2.2.2.2.1 _ hw) (hK.1 ci _ hF.1).2 (va_recv hK (Wd_one S.1 hn (gcell_o hy hc)) hF.1 (q0 := 0) rfl) hd k2
theorem il_conv {x : Int} (h : -2147483648 ≤ x ∧ x < 2147483648) : (Int32.ofInt x).toInt64 = Int64.ofInt x := by
  rw [← Int64.toInt_inj, Int32.toInt_toInt64, ii_lo h.1 h.2, Int64.toInt_ofInt_of_le (by omega) (by omega)]
theorem g_i2l {x : Int} (hx : -2147483648 ≤ x ∧ x < 2147483648) (hd : decode M.cc pc = .ok (.i2l, 1)) (kk : GW M P kc ks (pc + 1) ls (gl x :: st) L A) : GW M P kc ks pc ls (gi x :: st) L A := by
  intro p l e R s m args below meth c D a0 L0 a H locs lsr Q F E1 E3 S hl
  have k2 := kk p l e R s m args below meth c D a0 L0 a H locs lsr Q F E1 E3 S hl
  exact lv_i2l F.1 F.2.1 hd (il_conv hx) k2
def icmp (x y : Int) : Int := if y < x then 1 else if x = y then 0 else -1
theorem lg_icmp {x y : Int} (hx : -2147483648 ≤ x ∧ x < 2147483648) (hy : -2147483648 ≤ y ∧ y < 2147483648) : lg_cmp (Int64.ofInt x) (Int64.ofInt y) = Int32.ofInt (icmp x y) := by
  have e1 : (Int64.ofInt x).toInt = x := Int64.toInt_ofInt_of_le (by omega) (by omega)
  have e2 : (Int64.ofInt y).toInt = y := Int64.toInt_ofInt_of_le (by omega) (by omega)
  have h1 : Int64.ofInt y < Int64.ofInt x ↔ y < x := by rw [Int64.lt_iff_toInt_lt, e1, e2]
  have h2 : Int64.ofInt x = Int64.ofInt y ↔ x = y := by rw [← Int64.toInt_inj, e1, e2]
  unfold lg_cmp icmp
  by_cases c1 : y < x
  · simp [c1, h1.mpr c1]
  · by_cases c2 : x = y
    · subst c2; simp [c1]
    · have h3 : ¬ Int64.ofInt y < Int64.ofInt x := fun z => c1 (h1.mp z)
      have h4 : ¬ Int64.ofInt x = Int64.ofInt y := fun z => c2 (h2.mp z)
      simp [c1, c2, h3, h4]
theorem g_lcmp {x y : Int} (hx : -2147483648 ≤ x ∧ x < 2147483648) (hy : -2147483648 ≤ y ∧ y < 2147483648) (hd : decode M.cc pc = .ok (.lcmp, 1)) (kk : GW M P kc ks (pc + 1) ls (gi (icmp x y) :: st) L A) : GW M P kc ks pc ls (gl y :: gl x :: st) L A := by
  intro p l e R s m args below meth c D a0 L0 a H locs lsr Q F E1 E3 S hl
  have k2 := kk p l e R s m args below meth c D a0 L0 a H locs lsr Q F E1 E3 S hl
  refine W.lcmp F.1 F.2.1 hd ?_
  rw [lg_icmp hx hy]
  exact k2
theorem g_tsw {x dflt lo hi : Int} {offs : Array Int} {len dt : Nat} (hx : -2147483648 ≤ x ∧ x < 2147483648) (hd : decode M.cc pc = .ok (.tableswitch dflt lo hi offs, len)) (hdt : (pc : Int) + dflt = (dt : Int))
    (ko : x < lo ∨ hi < x → GW M P kc ks dt ls st L A) (ki : ¬ x < lo → ¬ hi < x → ∃ (off : Int) (tgt : Nat), offs[(x - lo).toNat]? = some off ∧ (pc : Int) + off = (tgt : Int) ∧ GW M P kc ks tgt ls st L A) : GW M P kc ks pc ls (gi x :: st) L A := by
  intro p l e R s m args below meth c D a0 L0 a H locs lsr Q F E1 E3 S hl
  have eX : (Int32.ofInt x).toInt = x := ii_lo hx.1 hx.2
  by_cases h : x < lo ∨ hi < x
  · exact lv_tableOut F.1 F.2.1 hd (by rw [eX]; exact h) hdt (ko h p l e R s m args below meth c D a0 L0 a H locs lsr Q F E1 E3 S hl)
  · have h1 : ¬ x < lo := fun z => h (Or.inl z)
    have h2 : ¬ hi < x := fun z => h (Or.inr z)
    obtain ⟨off, tgt, ho, ht, k⟩ := ki h1 h2
    exact lv_tableIn F.1 F.2.1 hd (by rw [eX]; exact h1) (by rw [eX]; exact h2) (by rw [eX]; exact ho) ht (k p l e R s m args below meth c D a0 L0 a H locs lsr Q F E1 E3 S hl)

end GM
end
section
def okv (L : Nat → Nat) (v : GV) : Prop := match v with
  | Sum.inl _ => True
  | Sum.inr n => L n ≠ 0 ∧ (ly n).1 ≠ 9
theorem okv_i {L : Nat → Nat} (z : Int) : okv L (gi z) := trivial
theorem okv_r {L : Nat → Nat} {n : Nat} (h : L n ≠ 0) (h2 : (ly n).1 ≠ 9) : okv L (gr n) := ⟨h, h2⟩
theorem okv_n {L : Nat → Nat} {ls : List (Nat × GV)} (h : ∀ q ∈ ls, okv L q.2) (i : Nat) (v : GV) (hv : okv L v) : ∀ q ∈ (i, v) :: ls, okv L q.2 := fun q hq => by
  rcases List.mem_cons.mp hq with rfl | hq
  · exact hv
  · exact h q hq
/-- a method's words: n parameters -/
def MF (M : MD) (n : Nat) : Prop := Cond.code M.y M.cc M.nL M.rt ∈ WS ∧ (M.y.cls ≠ "java/lang/invoke/MethodHandle" ∧ M.y.cls ≠ "java/lang/invoke/VarHandle") ∧ (parseMethodDescriptor M.y.desc).map (fun d => d.parameters.length) = some n ∧ Cond.initialized M.y.cls ∈ WS ∧ M.hh = [] ∧ M.nL ≤ 40
theorem wsd_0 {M : MD} (h : M.hh = []) : wsd M = Cond.code M.y M.cc M.nL M.rt :: WS := by unfold wsd; rw [if_pos h]
theorem gd_cons {w : Cond} {ws : List Cond} (h : w ∈ WS) (h2 : GoodIn WS ws) : GoodIn WS (w :: ws) := fun x hx => by
  rcases List.mem_cons.mp hx with rfl | hx
  · exact ⟨h, WS_good h⟩
  · exact h2 x hx
theorem gd_WS : GoodIn WS WS := fun _ h => ⟨h, WS_good h⟩
theorem gd_wsd {M : MD} {n : Nat} (h : MF M n) : GoodIn WS (wsd M) := by
  rw [wsd_0 h.2.2.2.2.1]
  exact gd_cons h.1 gd_WS
section GC
variable {M My : MD} {P P1 : Pst} {p : Program} {l : Launch} {e : Env} {R : Room} {s : State} {m : MethodId} {args : Array Value} {below : List Frame} {meth : Method} {c : Code} {D : GD} {a0 L0 a L : Nat → Nat} {A : Mem} {H : Heap} {locs : List Loc}
theorem Ev_at (F : FX M p l R s m args meth c D a0 L0) (S : SH M D a0 L0 s a L A H locs) {U : State} (hU : U.heap = H) (hW : s.WarmedH U.vm) : Ev D (fpt a L H.size) U U.heap := by
  have hE := F.2.2.2.2.2.2.2.2.2.2.1
  have hva := S.2.2.2.2.2
  rw [hU]
  refine Ev.narrow (Ev.kept (Ev.warm hW hE) hva.2.1) (fun q hq => ?_)
  rcases hq with ⟨n, hn, rfl⟩ | hq
  · exact S.2.1 n hn
  · exact Or.inr (Nat.le_trans hva.1 hq)
theorem CtP_blind {a0 L0 : Nat → Nat} {A : Mem} {sz : Nat} {gs : List GV} : FrameBlind (CtP D a0 L0 A sz gs) := fun v U g mk h => by
  obtain ⟨h1, h2, h3, h4⟩ := h
  have h5 : Ev D (fpt a0 L0 sz) (U.calling g mk v) U.heap := Ev.same (s := U) (U := U.calling g mk v) (by rfl) h4
  exact ⟨h1, h2, h3, h5⟩
theorem CtP_at (F : FX M p l R s m args meth c D a0 L0) (S : SH M D a0 L0 s a L A H locs) (gs : List GV) : ∀ U : State, U.heap = H → s.WarmedH U.vm → CtP D a L A H.size gs (gs.map (ev a)).toArray U :=
  fun U hU hW => ⟨rfl, by rw [hU], by rw [hU]; exact S.1, Ev_at F S hU hW⟩
theorem SH_back (S : SH M D a0 L0 s a L A H locs) (hfl : My.fl = true → M.fl = true) {a' L' : Nat → Nat} {A' : Mem} {H1 : Heap} {locs1 : List Loc} (hC : CE My D a L H.size a' L' A' H1) (hva : va_S (fpt a0 L0 s.heap.size) s.heap H1 locs1) : SH M D a0 L0 s a' L' A' H1 locs1 := by
  obtain ⟨c1, c2, c3, c4, c5⟩ := hC
  obtain ⟨hW, hf, hag, hmo, hfl0, hva0⟩ := S
  refine ⟨c1, fun n hn => ?_, fun n hn h9 => ?_, fun n hn => c4 n (hmo n hn), fun h => ?_, hva⟩
  · rcases c2 n hn with ⟨k, hk, h⟩ | h
    · rw [h]; exact hf k hk
    · exact Or.inr (Nat.le_trans hva0.1 h)
  · rw [c3 n (hmo n hn) h9, hag n hn h9]
  · have h1 : My.fl = false := by
      cases hb : My.fl with
      | false => rfl
      | true => rw [hfl hb] at h; cases h
    obtain ⟨q1, q2⟩ := c5 h1
    obtain ⟨q3, q4⟩ := hfl0 h
    exact ⟨q1.trans q3, q2.trans q4⟩
theorem ev_back {a' L' : Nat → Nat} {A' : Mem} {H1 : Heap} {sz : Nat} (hC : CE My D a L sz a' L' A' H1) {v : GV} (h : My.fl = false ∨ okv L v) : ev a' v = ev a v := by
  rcases h with h | h
  · rw [(hC.2.2.2.2 h).1]
  · cases v with
    | inl x => rfl
    | inr n => show Value.ref (a' n) = Value.ref (a n); rw [hC.2.2.1 n h.1 h.2]
set_option maxHeartbeats 1000000 in
theorem g_core {Q : State → Prop} {kc ks pc : Nat} {ls : List (Nat × GV)} {st : List GV} {lsr : Array Slot} {st0 : List Value} {rest : List Value} {av : Array Value} (F : FX M p l R s m args meth c D a0 L0) (E1 : EN M P p l e R s m args below meth c D a0 L0 Q) (E3 : EN3 M P p l e R s m args below meth c D a0 L0 Q)
    (S : SH M D a0 L0 s a L A H locs) (hl : lv_has lsr M.nL (ls.map fun q => (q.1, ev a q.2))) (hrest : rest = st.map (ev a))
    (hr : vx_Run p l e R s m args below meth c H locs kc ks My.mc My.ms (F0 m pc lsr st0) rest (CtQ My D a L P1 H.size av) (CtX My D a L P1 H.size) (fpt a L H.size))
    (hfl : My.fl = true → M.fl = true) (hok : My.fl = false ∨ ((∀ q ∈ ls, okv L q.2) ∧ ∀ v ∈ st, okv L v))
    (kk : ∀ (v : Option GV) (L' : Nat → Nat) (A' : Mem), P1 (.inr v) L' A' → (My.fl = false → L' = L) → GW M P (kc + My.mc) (ks + My.ms) (pc + 3) ls (v.toList ++ st) L' A')
    (kx : ∀ (E : String) (L' : Nat → Nat) (A' : Mem), P1 (.inl E) L' A' → P (.inl E) L' A' ∧ kc + My.mc ≤ M.mc ∧ ks + My.ms ≤ M.ms ∧ M.hh = []) : W p l e R s m args below meth c H locs kc ks Q (F0 m pc lsr st0) := by
  have hA : ∀ q, fpt a L H.size q → fpt a0 L0 s.heap.size q := fun q hq => by
    rcases hq with ⟨n, hn, rfl⟩ | hq
    · exact S.2.1 n hn
    · exact Or.inr (Nat.le_trans S.2.2.2.2.2.1 hq)
  subst hrest
  intro T hT X
  rcases hr T hT X with ⟨v, st₀, t, T', Lx, h0, X', hL, e1, e2, ⟨v', a', L', A', hv, hP, hC, hF⟩, st2⟩ | ⟨q, st₀, t, T', Lx, E, ce, h0, X', hL, e1, e2, ⟨a', L', A', hP, hC, hF⟩, hce, hcv, hcl, st2⟩
  · cases hv
    obtain ⟨k1, k2, k3⟩ := vx_keep h0 e1 S.2.2.2.2.2 (fun q _ h => hA q h) hA hL hF
    rw [← e1] at hC
    have S' := SH_back S hfl hC k3
    have ee : ∀ v ∈ st, ev a' v = ev a v := fun v hv => ev_back hC (hok.imp id fun h => h.2 v hv)
    have el : (ls.map fun q => (q.1, ev a q.2)) = ls.map fun q => (q.1, ev a' q.2) := List.map_congr_left fun q hq => by rw [ev_back hC (hok.imp id fun h => h.1 q hq)]
    rw [el] at hl
    have kz := kk v' L' A' hP (fun h => (hC.2.2.2.2 h).2) p l e R s m args below meth c D a0 L0 a' T'.heap (locs ++ Lx) lsr Q F E1 E3 S' hl
    obtain ⟨t2, a1, b1⟩ := kz T' rfl X'
    refine ⟨t2, st2 t2 ?_, b1⟩
    have es : (v'.map (ev a')).toList ++ st.map (ev a) = (v'.toList ++ st).map (ev a') := by
      rw [List.map_append, List.map_congr_left ee]
      cases v' <;> rfl
    show Steps p.tables e below (T'.setTop (F0 m (pc + 3) lsr ((v'.map (ev a')).toList ++ st.map (ev a)))) t2
    rw [es]
    exact a1
  · obtain ⟨k1, k2, k3⟩ := vx_keep h0 e1 S.2.2.2.2.2 (fun q _ h => hA q h) hA hL hF
    rw [← e1] at hC
    have S' := SH_back S hfl hC k3
    obtain ⟨hP2, hm1, hm2, hh⟩ := kx E L' A' hP
    have hw := E1.2 a' L' A' T'.heap (locs ++ Lx) (kc + My.mc) (ks + My.ms) pc lsr (st.map (ev a)) E q ce hP2 S' hm1 hm2 (fun z hz => by rw [F.2.2.2.2.2.2.2.2.2.1, hh] at hz; simp [tableOf] at hz) (by rw [e1]; exact hce) hcv hcl
    obtain ⟨t2, a1, b1⟩ := hw T' rfl X'
    exact ⟨t2, st2.trans a1, b1⟩
end GC
section GK
variable {M My : MD} {P P1 : Pst} {kc ks pc ix np : Nat} {ls : List (Nat × GV)} {st : List GV} {L : Nat → Nat} {A : Mem} {gs : List GV}
/-- a call of an object's method -/
theorem g_callV {n ci N : Nat} {T : u_T} {ty : Nat → FieldType} (hC : Ct My (gr n :: gs) L A P1) (hM : MF My np) (hF : CFx ci My.y.cls T N ty) (hi : Cond.instanceMethod My.y ∈ WS) (hs : Cond.selects My.y.cls My.y My.y ∈ WS) (hlk : Cond.methodLink M.y.cls ix My.y ∈ WS) (hd : decode M.cc pc = .ok (.invokevirtual ix, 3)) (hdp : My.dp < M.dp)
    (hy : ly n = (ci, N)) (hc : ci < 6) (hn : L n ≠ 0) (hnp : gs.length = np) (hst : ∀ a, ((st.map (ev a)).map fun v => v.category).sum ≤ 8) (hk1 : kc + My.mc ≤ M.mc) (hk2 : ks + My.ms ≤ M.ms) (hfl : My.fl = true → M.fl = true) (hok : My.fl = false ∨ ((∀ q ∈ ls, okv L q.2) ∧ ∀ v ∈ st, okv L v))
    {stk : List GV} (hstk : stk = gs.reverse ++ gr n :: st)
    (kk : ∀ (v : Option GV) (L' : Nat → Nat) (A' : Mem), P1 (.inr v) L' A' → (My.fl = false → L' = L) → GW M P (kc + My.mc) (ks + My.ms) (pc + 3) ls (v.toList ++ st) L' A')
    (kx : ∀ (E : String) (L' : Nat → Nat) (A' : Mem), P1 (.inl E) L' A' → P (.inl E) L' A' ∧ M.hh = []) : GW M P kc ks pc ls stk L A := by
  intro p l e R s m args below meth c D a0 L0 a H locs lsr Q F E1 E3 S hl
  subst hstk
  obtain ⟨hx, hb, hml, hown, hws, hlocks, hrt, hnm, hlt, htab, hE, hR1, hR2, hR3, hR4⟩ := id F
  have hm := hC l hlt D a H.size
  have h5 := hM.2.2.2.2.2
  refine g_core F E1 E3 S hl rfl (vx_runV (As := gs.map (ev a)) (b := a n) ⟨hx, hb, hml, hown, hws⟩ hm (cwV np hws (gd_cons hlk (gd_cons hi (gd_cons hs (gd_cons hM.2.2.2.1 (gd_wsd hM))))) (wsd_0 hM.2.2.2.2.1) rfl rfl ⟨rfl, hM.2.1.1, hM.2.1.2, hM.2.2.1⟩ ⟨by show 12 + My.dp + 1 ≤ R.frames; omega, by show 8 + (My.nL + 11) + (300 + 60 * My.dp) ≤ R.locals; omega⟩)
    ⟨CtP_blind, va_recv hE.1 (Wd_one S.1 hn (gcell_o hy hc)) hF.1 (q0 := 0) rfl, CtP_at F S (gr n :: gs)⟩ rfl (by rw [List.length_map]; exact hnp) hl.1 ?_ (lv_room (hst a)) hd ⟨by omega, by omega⟩) hfl hok kk (fun E L' A' h => ⟨(kx E L' A' h).1, hk1, hk2, (kx E L' A' h).2⟩)
  show (gs.reverse ++ gr n :: st).map (ev a) = _
  rw [List.map_append, List.map_reverse]
  rfl
/-- a call of a static method of the own class -/
theorem g_callS (hC : Ct My gs L A P1) (hM : MF My np) (hsc : My.y.cls = M.y.cls) (hs : Cond.static My.y ∈ WS) (hlk : Cond.methodLink M.y.cls ix My.y ∈ WS) (hd : decode M.cc pc = .ok (.invokestatic ix, 3)) (hdp : My.dp < M.dp)
    (hnp : gs.length = np) (hst : ∀ a, ((st.map (ev a)).map fun v => v.category).sum ≤ 8) (hk1 : kc + My.mc ≤ M.mc) (hk2 : ks + My.ms ≤ M.ms) (hfl : My.fl = true → M.fl = true) (hok : My.fl = false ∨ ((∀ q ∈ ls, okv L q.2) ∧ ∀ v ∈ st, okv L v))
    {stk : List GV} (hstk : stk = gs.reverse ++ st)
    (kk : ∀ (v : Option GV) (L' : Nat → Nat) (A' : Mem), P1 (.inr v) L' A' → (My.fl = false → L' = L) → GW M P (kc + My.mc) (ks + My.ms) (pc + 3) ls (v.toList ++ st) L' A')
    (kx : ∀ (E : String) (L' : Nat → Nat) (A' : Mem), P1 (.inl E) L' A' → P (.inl E) L' A' ∧ M.hh = []) : GW M P kc ks pc ls stk L A := by
  intro p l e R s m args below meth c D a0 L0 a H locs lsr Q F E1 E3 S hl
  subst hstk
  obtain ⟨hx, hb, hml, hown, hws, hlocks, hrt, hnm, hlt, htab, hE, hR1, hR2, hR3, hR4⟩ := id F
  have hm := hC l hlt D a H.size
  have h5 := hM.2.2.2.2.2
  refine g_core F E1 E3 S hl rfl (vx_runS (As := gs.map (ev a)) ⟨hx, hb, hml, hown, hws⟩ hm (cwS np hws (gd_cons hlk (gd_cons hs (gd_cons (by rw [← hsc]; exact hM.2.2.2.1) (gd_wsd hM)))) (wsd_0 hM.2.2.2.2.1) rfl rfl ⟨hsc, hM.2.1.1, hM.2.1.2, hM.2.2.1⟩ ⟨by show 12 + My.dp + 1 ≤ R.frames; omega, by show 8 + (My.nL + 11) + (300 + 60 * My.dp) ≤ R.locals; omega⟩)
    ⟨CtP_blind, CtP_at F S gs⟩ rfl (by rw [List.length_map]; exact hnp) hl.1 ?_ (lv_room (hst a)) hd ⟨by omega, by omega⟩) hfl hok kk (fun E L' A' h => ⟨(kx E L' A' h).1, hk1, hk2, (kx E L' A' h).2⟩)
  show (gs.reverse ++ st).map (ev a) = _
  rw [List.map_append, List.map_reverse]
/-- a call of a static method of another class (va_wsS) -/
theorem g_callT (hC : Ct My gs L A P1) (hM : MF My np) (hs : Cond.static My.y ∈ WS) (hlk : Cond.methodLink M.y.cls ix My.y ∈ WS) (hd : decode M.cc pc = .ok (.invokestatic ix, 3)) (hdp : My.dp < M.dp)
    (hnp : gs.length = np) (hst : ∀ a, ((st.map (ev a)).map fun v => v.category).sum ≤ 8) (hk1 : kc + My.mc ≤ M.mc) (hk2 : ks + My.ms ≤ M.ms) (hfl : My.fl = true → M.fl = true) (hok : My.fl = false ∨ ((∀ q ∈ ls, okv L q.2) ∧ ∀ v ∈ st, okv L v))
    {stk : List GV} (hstk : stk = gs.reverse ++ st)
    (kk : ∀ (v : Option GV) (L' : Nat → Nat) (A' : Mem), P1 (.inr v) L' A' → (My.fl = false → L' = L) → GW M P (kc + My.mc) (ks + My.ms) (pc + 3) ls (v.toList ++ st) L' A')
    (kx : ∀ (E : String) (L' : Nat → Nat) (A' : Mem), P1 (.inl E) L' A' → P (.inl E) L' A' ∧ M.hh = []) : GW M P kc ks pc ls stk L A := by
  intro p l e R s m args below meth c D a0 L0 a H locs lsr Q F E1 E3 S hl
  subst hstk
  obtain ⟨hx, hb, hml, hown, hws, hlocks, hrt, hnm, hlt, htab, hE, hR1, hR2, hR3, hR4⟩ := id F
  have hm := hC l hlt D a H.size
  have h5 := hM.2.2.2.2.2
  refine g_core F E1 E3 S hl rfl (vx_runS (As := gs.map (ev a)) ⟨hx, hb, hml, hown, hws⟩ hm (va_cwS np hws (gd_cons hlk (gd_cons hs (gd_cons hM.2.2.2.1 (gd_wsd hM)))) (wsd_0 hM.2.2.2.2.1) rfl rfl ⟨hM.2.1.1, hM.2.1.2, hM.2.2.1⟩ ⟨by show 12 + My.dp + 1 ≤ R.frames; omega, by show 8 + (My.nL + 11) + (300 + 60 * My.dp) ≤ R.locals; omega⟩)
    ⟨CtP_blind, CtP_at F S gs⟩ rfl (by rw [List.length_map]; exact hnp) hl.1 ?_ (lv_room (hst a)) hd ⟨by omega, by omega⟩) hfl hok kk (fun E L' A' h => ⟨(kx E L' A' h).1, hk1, hk2, (kx E L' A' h).2⟩)
  show (gs.reverse ++ st).map (ev a) = _
  rw [List.map_append, List.map_reverse]
/-- a call of a private static method of the nest's host -/
theorem g_callN (hC : Ct My gs L A P1) (hM : MF My np) (hs : Cond.static My.y ∈ WS) {host : String} (hlk : Cond.methodLinkNest M.y.cls ix My.y host ∈ EVW) (hd : decode M.cc pc = .ok (.invokestatic ix, 3)) (hdp : My.dp < M.dp)
    (hnp : gs.length = np) (hst : ∀ a, ((st.map (ev a)).map fun v => v.category).sum ≤ 8) (hk1 : kc + My.mc ≤ M.mc) (hk2 : ks + My.ms ≤ M.ms) (hfl : My.fl = true → M.fl = true) (hok : My.fl = false ∨ ((∀ q ∈ ls, okv L q.2) ∧ ∀ v ∈ st, okv L v))
    {stk : List GV} (hstk : stk = gs.reverse ++ st)
    (kk : ∀ (v : Option GV) (L' : Nat → Nat) (A' : Mem), P1 (.inr v) L' A' → (My.fl = false → L' = L) → GW M P (kc + My.mc) (ks + My.ms) (pc + 3) ls (v.toList ++ st) L' A')
    (kx : ∀ (E : String) (L' : Nat → Nat) (A' : Mem), P1 (.inl E) L' A' → P (.inl E) L' A' ∧ M.hh = []) : GW M P kc ks pc ls stk L A := by
  intro p l e R s m args below meth c D a0 L0 a H locs lsr Q F E1 E3 S hl
  subst hstk
  obtain ⟨hx, hb, hml, hown, hws, hlocks, hrt, hnm, hlt, htab, hE, hR1, hR2, hR3, hR4⟩ := id F
  have hm := hC l hlt D a H.size
  have h5 := hM.2.2.2.2.2
  refine g_core F E1 E3 S hl rfl (vx_runSN (As := gs.map (ev a)) ⟨hx, hb, hml, hown, hws⟩ hm ⟨va_cnB np hws (gd_wsd hM) (wsd_0 hM.2.2.2.2.1) rfl rfl (hE.2.2.2.2.2.1 _ hlk) (hws _ hM.2.2.2.1) ⟨hM.2.1.1, hM.2.1.2, hM.2.2.1⟩ ⟨by show 12 + My.dp + 1 ≤ R.frames; omega, by show 8 + (My.nL + 11) + (300 + 60 * My.dp) ≤ R.locals; omega⟩, hws _ hs, trivial⟩
    ⟨CtP_blind, CtP_at F S gs⟩ rfl (by rw [List.length_map]; exact hnp) hl.1 ?_ (lv_room (hst a)) hd ⟨by omega, by omega⟩) hfl hok kk (fun E L' A' h => ⟨(kx E L' A' h).1, hk1, hk2, (kx E L' A' h).2⟩)
  show (gs.reverse ++ st).map (ev a) = _
  rw [List.map_append, List.map_reverse]
/-- a call of a constructor -/
theorem g_callI {n : Nat} (hC : Ct My (gr n :: gs) L A P1) (hM : MF My np) (hrt : My.rt = none) (hnm : My.y.name = "<init>") (hi : Cond.instanceMethod My.y ∈ WS) (hlk : Cond.methodLink M.y.cls ix My.y ∈ WS) (hd : decode M.cc pc = .ok (.invokespecial ix, 3)) (hdp : My.dp < M.dp)
    (hnp : gs.length = np) (hst : ∀ a, ((st.map (ev a)).map fun v => v.category).sum ≤ 8) (hk1 : kc + My.mc ≤ M.mc) (hk2 : ks + My.ms ≤ M.ms) (hfl : My.fl = true → M.fl = true) (hok : My.fl = false ∨ ((∀ q ∈ ls, okv L q.2) ∧ ∀ v ∈ st, okv L v))
    {stk : List GV} (hstk : stk = gs.reverse ++ gr n :: st)
    (kk : ∀ (v : Option GV) (L' : Nat → Nat) (A' : Mem), P1 (.inr v) L' A' → (My.fl = false → L' = L) → GW M P (kc + My.mc) (ks + My.ms) (pc + 3) ls (v.toList ++ st) L' A')
    (kx : ∀ (E : String) (L' : Nat → Nat) (A' : Mem), P1 (.inl E) L' A' → P (.inl E) L' A' ∧ M.hh = []) : GW M P kc ks pc ls stk L A := by
  intro p l e R s m args below meth c D a0 L0 a H locs lsr Q F E1 E3 S hl
  subst hstk
  obtain ⟨hx, hb, hml, hown, hws, hlocks, hrt0, hnm0, hlt, htab, hE, hR1, hR2, hR3, hR4⟩ := id F
  have hm := hC l hlt D a H.size
  have h5 := hM.2.2.2.2.2
  have hcw := wsd_0 hM.2.2.2.2.1
  have hcd := hM.1
  rw [hrt] at hcw hcd
  refine g_core F E1 E3 S hl rfl (vx_runI (As := gs.map (ev a)) (b := a n) ⟨hx, hb, hml, hown, hws⟩ hm (cwI np hws (gd_wsd hM) hcw rfl rfl (hws _ hM.2.2.2.1) (hws _ hlk) (hws _ hi) hnm ⟨hM.2.1.1, hM.2.1.2, hM.2.2.1⟩ ⟨by show 12 + My.dp + 1 ≤ R.frames; omega, by show 8 + (My.nL + 11) + (300 + 60 * My.dp) ≤ R.locals; omega⟩)
    ⟨CtP_blind, CtP_at F S (gr n :: gs)⟩ rfl (by rw [List.length_map]; exact hnp) hl.1 ?_ (lv_room (hst a)) hd ⟨by omega, by omega⟩) hfl hok kk (fun E L' A' h => ⟨(kx E L' A' h).1, hk1, hk2, (kx E L' A' h).2⟩)
  show (gs.reverse ++ gr n :: st).map (ev a) = _
  rw [List.map_append, List.map_reverse]
  rfl
end GK
end
