section
-- ===== PART A: goes FIRST, ahead of the names: the tables' words, and 'selects' of the private methods out of them =====
/-- a private method of a class that the tables say can be made, by its rows of tables_1 -/
def lw_okq (q : MethodName × Nat) : Prop := (q.1.cls ≠ "java/lang/invoke/MethodHandle" ∧ q.1.cls ≠ "java/lang/invoke/VarHandle") ∧ Cond.instantiable q.1.cls q.2 ∈ tables_1 ∧ Cond.privateMethod q.1 ∈ tables_1 ∧ Cond.instanceMethod q.1 ∈ tables_1
theorem lw_p0 : lw_okq (⟨"RegistryDesk", "domainsThere", "()I"⟩, 5) := ⟨⟨by decide +kernel, by decide +kernel⟩, List.mem_of_getElem? (i := 16) (by decide +kernel), List.mem_of_getElem? (i := 184) (by decide +kernel), List.mem_of_getElem? (i := 185) (by decide +kernel)⟩
theorem lw_p1 : lw_okq (⟨"RegistryDesk", "messagesOfAll", "()I"⟩, 5) := ⟨⟨by decide +kernel, by decide +kernel⟩, List.mem_of_getElem? (i := 16) (by decide +kernel), List.mem_of_getElem? (i := 192) (by decide +kernel), List.mem_of_getElem? (i := 193) (by decide +kernel)⟩
theorem lw_p2 : lw_okq (⟨"RegistryDesk", "zoneRows", "()I"⟩, 5) := ⟨⟨by decide +kernel, by decide +kernel⟩, List.mem_of_getElem? (i := 16) (by decide +kernel), List.mem_of_getElem? (i := 196) (by decide +kernel), List.mem_of_getElem? (i := 197) (by decide +kernel)⟩
theorem lw_p3 : lw_okq (⟨"RegistryDesk", "zoneRowsOf", "(I)I"⟩, 5) := ⟨⟨by decide +kernel, by decide +kernel⟩, List.mem_of_getElem? (i := 16) (by decide +kernel), List.mem_of_getElem? (i := 200) (by decide +kernel), List.mem_of_getElem? (i := 201) (by decide +kernel)⟩
theorem lw_p4 : lw_okq (⟨"RegistryDesk", "showsAddress", "(II)Z"⟩, 5) := ⟨⟨by decide +kernel, by decide +kernel⟩, List.mem_of_getElem? (i := 16) (by decide +kernel), List.mem_of_getElem? (i := 208) (by decide +kernel), List.mem_of_getElem? (i := 209) (by decide +kernel)⟩
theorem lw_p5 : lw_okq (⟨"RegistryDesk", "usesOf", "(II)I"⟩, 5) := ⟨⟨by decide +kernel, by decide +kernel⟩, List.mem_of_getElem? (i := 16) (by decide +kernel), List.mem_of_getElem? (i := 220) (by decide +kernel), List.mem_of_getElem? (i := 221) (by decide +kernel)⟩
theorem lw_p6 : lw_okq (⟨"java/lang/Throwable", "fillInStackTrace", "(I)Ljava/lang/Throwable;"⟩, 6) := ⟨⟨by decide +kernel, by decide +kernel⟩, List.mem_of_getElem? (i := 285) (by decide +kernel), List.mem_of_getElem? (i := 283) (by decide +kernel), List.mem_of_getElem? (i := 284) (by decide +kernel)⟩
theorem lw_p7 : lw_okq (⟨"RegistryDesk", "domainThere", "(I)LRegistryDesk$Domain;"⟩, 5) := ⟨⟨by decide +kernel, by decide +kernel⟩, List.mem_of_getElem? (i := 16) (by decide +kernel), List.mem_of_getElem? (i := 371) (by decide +kernel), List.mem_of_getElem? (i := 372) (by decide +kernel)⟩
theorem lw_p8 : lw_okq (⟨"RegistryDesk", "thingThere", "(II)LRegistryDesk$Thing;"⟩, 5) := ⟨⟨by decide +kernel, by decide +kernel⟩, List.mem_of_getElem? (i := 16) (by decide +kernel), List.mem_of_getElem? (i := 417) (by decide +kernel), List.mem_of_getElem? (i := 418) (by decide +kernel)⟩
theorem lw_p9 : lw_okq (⟨"RegistryDesk", "payFor", "(III)D"⟩, 5) := ⟨⟨by decide +kernel, by decide +kernel⟩, List.mem_of_getElem? (i := 16) (by decide +kernel), List.mem_of_getElem? (i := 435) (by decide +kernel), List.mem_of_getElem? (i := 436) (by decide +kernel)⟩
theorem lw_p10 : lw_okq (⟨"RegistryDesk", "costOf", "(III)D"⟩, 5) := ⟨⟨by decide +kernel, by decide +kernel⟩, List.mem_of_getElem? (i := 16) (by decide +kernel), List.mem_of_getElem? (i := 439) (by decide +kernel), List.mem_of_getElem? (i := 440) (by decide +kernel)⟩
theorem lw_p11 : lw_okq (⟨"RegistryDesk", "requireMeans", "(ID)V"⟩, 5) := ⟨⟨by decide +kernel, by decide +kernel⟩, List.mem_of_getElem? (i := 16) (by decide +kernel), List.mem_of_getElem? (i := 445) (by decide +kernel), List.mem_of_getElem? (i := 446) (by decide +kernel)⟩
theorem lw_p12 : lw_okq (⟨"RegistryDesk", "othersUseHostsUnder", "(I)Z"⟩, 5) := ⟨⟨by decide +kernel, by decide +kernel⟩, List.mem_of_getElem? (i := 16) (by decide +kernel), List.mem_of_getElem? (i := 531) (by decide +kernel), List.mem_of_getElem? (i := 532) (by decide +kernel)⟩
theorem lw_p13 : lw_okq (⟨"RegistryDesk", "dropDomain", "(I)V"⟩, 5) := ⟨⟨by decide +kernel, by decide +kernel⟩, List.mem_of_getElem? (i := 16) (by decide +kernel), List.mem_of_getElem? (i := 545) (by decide +kernel), List.mem_of_getElem? (i := 546) (by decide +kernel)⟩
theorem lw_p14 : lw_okq (⟨"RegistryDesk", "dropHost", "(I)V"⟩, 5) := ⟨⟨by decide +kernel, by decide +kernel⟩, List.mem_of_getElem? (i := 16) (by decide +kernel), List.mem_of_getElem? (i := 549) (by decide +kernel), List.mem_of_getElem? (i := 550) (by decide +kernel)⟩
theorem lw_p15 : lw_okq (⟨"RegistryDesk", "endTransfer", "(I)V"⟩, 5) := ⟨⟨by decide +kernel, by decide +kernel⟩, List.mem_of_getElem? (i := 16) (by decide +kernel), List.mem_of_getElem? (i := 587) (by decide +kernel), List.mem_of_getElem? (i := 588) (by decide +kernel)⟩
def lw_privs_1 : List (MethodName × Nat) := [(⟨"RegistryDesk", "domainsThere", "()I"⟩, 5), (⟨"RegistryDesk", "messagesOfAll", "()I"⟩, 5), (⟨"RegistryDesk", "zoneRows", "()I"⟩, 5), (⟨"RegistryDesk", "zoneRowsOf", "(I)I"⟩, 5), (⟨"RegistryDesk", "showsAddress", "(II)Z"⟩, 5), (⟨"RegistryDesk", "usesOf", "(II)I"⟩, 5), (⟨"java/lang/Throwable", "fillInStackTrace", "(I)Ljava/lang/Throwable;"⟩, 6), (⟨"RegistryDesk", "domainThere", "(I)LRegistryDesk$Domain;"⟩, 5), (⟨"RegistryDesk", "thingThere", "(II)LRegistryDesk$Thing;"⟩, 5), (⟨"RegistryDesk", "payFor", "(III)D"⟩, 5), (⟨"RegistryDesk", "costOf", "(III)D"⟩, 5), (⟨"RegistryDesk", "requireMeans", "(ID)V"⟩, 5), (⟨"RegistryDesk", "othersUseHostsUnder", "(I)Z"⟩, 5), (⟨"RegistryDesk", "dropDomain", "(I)V"⟩, 5), (⟨"RegistryDesk", "dropHost", "(I)V"⟩, 5), (⟨"RegistryDesk", "endTransfer", "(I)V"⟩, 5)]
theorem lw_r1 : ∀ q ∈ lw_privs_1, lw_okq q := List.forall_mem_cons.mpr ⟨lw_p0, List.forall_mem_cons.mpr ⟨lw_p1, List.forall_mem_cons.mpr ⟨lw_p2, List.forall_mem_cons.mpr ⟨lw_p3, List.forall_mem_cons.mpr ⟨lw_p4, List.forall_mem_cons.mpr ⟨lw_p5, List.forall_mem_cons.mpr ⟨lw_p6, List.forall_mem_cons.mpr ⟨lw_p7, List.forall_mem_cons.mpr ⟨lw_p8, List.forall_mem_cons.mpr ⟨lw_p9, List.forall_mem_cons.mpr ⟨lw_p10, List.forall_mem_cons.mpr ⟨lw_p11, List.forall_mem_cons.mpr ⟨lw_p12, List.forall_mem_cons.mpr ⟨lw_p13, List.forall_mem_cons.mpr ⟨lw_p14, List.forall_mem_cons.mpr ⟨lw_p15, fun _ h => absurd h List.not_mem_nil⟩⟩⟩⟩⟩⟩⟩⟩⟩⟩⟩⟩⟩⟩⟩⟩
theorem lw_p16 : lw_okq (⟨"RegistryDesk", "finishTransfer", "(I)V"⟩, 5) := ⟨⟨by decide +kernel, by decide +kernel⟩, List.mem_of_getElem? (i := 16) (by decide +kernel), List.mem_of_getElem? (i := 591) (by decide +kernel), List.mem_of_getElem? (i := 592) (by decide +kernel)⟩
theorem lw_p17 : lw_okq (⟨"RegistryDesk", "passDay", "()V"⟩, 5) := ⟨⟨by decide +kernel, by decide +kernel⟩, List.mem_of_getElem? (i := 16) (by decide +kernel), List.mem_of_getElem? (i := 607) (by decide +kernel), List.mem_of_getElem? (i := 608) (by decide +kernel)⟩
theorem lw_p18 : lw_okq (⟨"RegistryDesk", "settleTransfer", "(I)V"⟩, 5) := ⟨⟨by decide +kernel, by decide +kernel⟩, List.mem_of_getElem? (i := 16) (by decide +kernel), List.mem_of_getElem? (i := 611) (by decide +kernel), List.mem_of_getElem? (i := 612) (by decide +kernel)⟩
theorem lw_p19 : lw_okq (⟨"RegistryDesk", "moveOn", "(I)V"⟩, 5) := ⟨⟨by decide +kernel, by decide +kernel⟩, List.mem_of_getElem? (i := 16) (by decide +kernel), List.mem_of_getElem? (i := 615) (by decide +kernel), List.mem_of_getElem? (i := 616) (by decide +kernel)⟩
theorem lw_p20 : lw_okq (⟨"RegistryDesk", "renewByItself", "(LRegistryDesk$Domain;)V"⟩, 5) := ⟨⟨by decide +kernel, by decide +kernel⟩, List.mem_of_getElem? (i := 16) (by decide +kernel), List.mem_of_getElem? (i := 619) (by decide +kernel), List.mem_of_getElem? (i := 620) (by decide +kernel)⟩
theorem lw_p21 : lw_okq (⟨"RegistryDesk", "zoneRow", "(I)I"⟩, 5) := ⟨⟨by decide +kernel, by decide +kernel⟩, List.mem_of_getElem? (i := 16) (by decide +kernel), List.mem_of_getElem? (i := 685) (by decide +kernel), List.mem_of_getElem? (i := 686) (by decide +kernel)⟩
theorem lw_p22 : lw_okq (⟨"RegistryDesk", "zoneRowOf", "(II)I"⟩, 5) := ⟨⟨by decide +kernel, by decide +kernel⟩, List.mem_of_getElem? (i := 16) (by decide +kernel), List.mem_of_getElem? (i := 689) (by decide +kernel), List.mem_of_getElem? (i := 690) (by decide +kernel)⟩
theorem lw_p23 : lw_okq (⟨"RegistryDeskModel", "fail", "(I)I"⟩, 25) := ⟨⟨by decide +kernel, by decide +kernel⟩, List.mem_of_getElem? (i := 694) (by decide +kernel), List.mem_of_getElem? (i := 790) (by decide +kernel), List.mem_of_getElem? (i := 791) (by decide +kernel)⟩
theorem lw_p24 : lw_okq (⟨"RegistryDeskModel", "give", "(I)I"⟩, 25) := ⟨⟨by decide +kernel, by decide +kernel⟩, List.mem_of_getElem? (i := 694) (by decide +kernel), List.mem_of_getElem? (i := 795) (by decide +kernel), List.mem_of_getElem? (i := 796) (by decide +kernel)⟩
theorem lw_p25 : lw_okq (⟨"RegistryDeskModel", "shown", "(J)D"⟩, 25) := ⟨⟨by decide +kernel, by decide +kernel⟩, List.mem_of_getElem? (i := 694) (by decide +kernel), List.mem_of_getElem? (i := 803) (by decide +kernel), List.mem_of_getElem? (i := 804) (by decide +kernel)⟩
theorem lw_p26 : lw_okq (⟨"RegistryDeskModel", "noDomain", "(I)Z"⟩, 25) := ⟨⟨by decide +kernel, by decide +kernel⟩, List.mem_of_getElem? (i := 694) (by decide +kernel), List.mem_of_getElem? (i := 815) (by decide +kernel), List.mem_of_getElem? (i := 816) (by decide +kernel)⟩
theorem lw_p27 : lw_okq (⟨"RegistryDeskModel", "noThing", "(II)Z"⟩, 25) := ⟨⟨by decide +kernel, by decide +kernel⟩, List.mem_of_getElem? (i := 694) (by decide +kernel), List.mem_of_getElem? (i := 823) (by decide +kernel), List.mem_of_getElem? (i := 824) (by decide +kernel)⟩
theorem lw_p28 : lw_okq (⟨"RegistryDeskModel", "users", "(II)I"⟩, 25) := ⟨⟨by decide +kernel, by decide +kernel⟩, List.mem_of_getElem? (i := 694) (by decide +kernel), List.mem_of_getElem? (i := 827) (by decide +kernel), List.mem_of_getElem? (i := 828) (by decide +kernel)⟩
theorem lw_p29 : lw_okq (⟨"RegistryDeskModel", "placeOf", "(III)I"⟩, 25) := ⟨⟨by decide +kernel, by decide +kernel⟩, List.mem_of_getElem? (i := 694) (by decide +kernel), List.mem_of_getElem? (i := 831) (by decide +kernel), List.mem_of_getElem? (i := 832) (by decide +kernel)⟩
theorem lw_p30 : lw_okq (⟨"RegistryDeskModel", "left", "(I)I"⟩, 25) := ⟨⟨by decide +kernel, by decide +kernel⟩, List.mem_of_getElem? (i := 694) (by decide +kernel), List.mem_of_getElem? (i := 835) (by decide +kernel), List.mem_of_getElem? (i := 836) (by decide +kernel)⟩
theorem lw_p31 : lw_okq (⟨"RegistryDeskModel", "canPay", "(III)Z"⟩, 25) := ⟨⟨by decide +kernel, by decide +kernel⟩, List.mem_of_getElem? (i := 694) (by decide +kernel), List.mem_of_getElem? (i := 843) (by decide +kernel), List.mem_of_getElem? (i := 844) (by decide +kernel)⟩
def lw_privs_2 : List (MethodName × Nat) := [(⟨"RegistryDesk", "finishTransfer", "(I)V"⟩, 5), (⟨"RegistryDesk", "passDay", "()V"⟩, 5), (⟨"RegistryDesk", "settleTransfer", "(I)V"⟩, 5), (⟨"RegistryDesk", "moveOn", "(I)V"⟩, 5), (⟨"RegistryDesk", "renewByItself", "(LRegistryDesk$Domain;)V"⟩, 5), (⟨"RegistryDesk", "zoneRow", "(I)I"⟩, 5), (⟨"RegistryDesk", "zoneRowOf", "(II)I"⟩, 5), (⟨"RegistryDeskModel", "fail", "(I)I"⟩, 25), (⟨"RegistryDeskModel", "give", "(I)I"⟩, 25), (⟨"RegistryDeskModel", "shown", "(J)D"⟩, 25), (⟨"RegistryDeskModel", "noDomain", "(I)Z"⟩, 25), (⟨"RegistryDeskModel", "noThing", "(II)Z"⟩, 25), (⟨"RegistryDeskModel", "users", "(II)I"⟩, 25), (⟨"RegistryDeskModel", "placeOf", "(III)I"⟩, 25), (⟨"RegistryDeskModel", "left", "(I)I"⟩, 25), (⟨"RegistryDeskModel", "canPay", "(III)Z"⟩, 25)]
theorem lw_r2 : ∀ q ∈ lw_privs_2, lw_okq q := List.forall_mem_cons.mpr ⟨lw_p16, List.forall_mem_cons.mpr ⟨lw_p17, List.forall_mem_cons.mpr ⟨lw_p18, List.forall_mem_cons.mpr ⟨lw_p19, List.forall_mem_cons.mpr ⟨lw_p20, List.forall_mem_cons.mpr ⟨lw_p21, List.forall_mem_cons.mpr ⟨lw_p22, List.forall_mem_cons.mpr ⟨lw_p23, List.forall_mem_cons.mpr ⟨lw_p24, List.forall_mem_cons.mpr ⟨lw_p25, List.forall_mem_cons.mpr ⟨lw_p26, List.forall_mem_cons.mpr ⟨lw_p27, List.forall_mem_cons.mpr ⟨lw_p28, List.forall_mem_cons.mpr ⟨lw_p29, List.forall_mem_cons.mpr ⟨lw_p30, List.forall_mem_cons.mpr ⟨lw_p31, fun _ h => absurd h List.not_mem_nil⟩⟩⟩⟩⟩⟩⟩⟩⟩⟩⟩⟩⟩⟩⟩⟩
theorem lw_p32 : lw_okq (⟨"RegistryDeskModel", "cost", "(III)J"⟩, 25) := ⟨⟨by decide +kernel, by decide +kernel⟩, List.mem_of_getElem? (i := 694) (by decide +kernel), List.mem_of_getElem? (i := 847) (by decide +kernel), List.mem_of_getElem? (i := 848) (by decide +kernel)⟩
theorem lw_p33 : lw_okq (⟨"RegistryDeskModel", "noGrace", "(I)V"⟩, 25) := ⟨⟨by decide +kernel, by decide +kernel⟩, List.mem_of_getElem? (i := 694) (by decide +kernel), List.mem_of_getElem? (i := 854) (by decide +kernel), List.mem_of_getElem? (i := 855) (by decide +kernel)⟩
theorem lw_p34 : lw_okq (⟨"RegistryDeskModel", "pay", "(IIIII)V"⟩, 25) := ⟨⟨by decide +kernel, by decide +kernel⟩, List.mem_of_getElem? (i := 694) (by decide +kernel), List.mem_of_getElem? (i := 858) (by decide +kernel), List.mem_of_getElem? (i := 859) (by decide +kernel)⟩
theorem lw_p35 : lw_okq (⟨"RegistryDeskModel", "barred", "(IIII)I"⟩, 25) := ⟨⟨by decide +kernel, by decide +kernel⟩, List.mem_of_getElem? (i := 694) (by decide +kernel), List.mem_of_getElem? (i := 866) (by decide +kernel), List.mem_of_getElem? (i := 867) (by decide +kernel)⟩
theorem lw_p36 : lw_okq (⟨"RegistryDeskModel", "takeOff", "(III)V"⟩, 25) := ⟨⟨by decide +kernel, by decide +kernel⟩, List.mem_of_getElem? (i := 694) (by decide +kernel), List.mem_of_getElem? (i := 870) (by decide +kernel), List.mem_of_getElem? (i := 871) (by decide +kernel)⟩
theorem lw_p37 : lw_okq (⟨"RegistryDeskModel", "neededElsewhere", "(I)Z"⟩, 25) := ⟨⟨by decide +kernel, by decide +kernel⟩, List.mem_of_getElem? (i := 694) (by decide +kernel), List.mem_of_getElem? (i := 886) (by decide +kernel), List.mem_of_getElem? (i := 887) (by decide +kernel)⟩
theorem lw_p38 : lw_okq (⟨"RegistryDeskModel", "graceOn", "(II)Z"⟩, 25) := ⟨⟨by decide +kernel, by decide +kernel⟩, List.mem_of_getElem? (i := 694) (by decide +kernel), List.mem_of_getElem? (i := 890) (by decide +kernel), List.mem_of_getElem? (i := 891) (by decide +kernel)⟩
theorem lw_p39 : lw_okq (⟨"RegistryDeskModel", "removeDomain", "(I)V"⟩, 25) := ⟨⟨by decide +kernel, by decide +kernel⟩, List.mem_of_getElem? (i := 694) (by decide +kernel), List.mem_of_getElem? (i := 894) (by decide +kernel), List.mem_of_getElem? (i := 895) (by decide +kernel)⟩
theorem lw_p40 : lw_okq (⟨"RegistryDeskModel", "removeHost", "(I)V"⟩, 25) := ⟨⟨by decide +kernel, by decide +kernel⟩, List.mem_of_getElem? (i := 694) (by decide +kernel), List.mem_of_getElem? (i := 898) (by decide +kernel), List.mem_of_getElem? (i := 899) (by decide +kernel)⟩
theorem lw_p41 : lw_okq (⟨"RegistryDeskModel", "tell", "(III)V"⟩, 25) := ⟨⟨by decide +kernel, by decide +kernel⟩, List.mem_of_getElem? (i := 694) (by decide +kernel), List.mem_of_getElem? (i := 910) (by decide +kernel), List.mem_of_getElem? (i := 911) (by decide +kernel)⟩
theorem lw_p42 : lw_okq (⟨"RegistryDeskModel", "drop", "(I)V"⟩, 25) := ⟨⟨by decide +kernel, by decide +kernel⟩, List.mem_of_getElem? (i := 694) (by decide +kernel), List.mem_of_getElem? (i := 914) (by decide +kernel), List.mem_of_getElem? (i := 915) (by decide +kernel)⟩
theorem lw_p43 : lw_okq (⟨"RegistryDeskModel", "handOver", "(I)V"⟩, 25) := ⟨⟨by decide +kernel, by decide +kernel⟩, List.mem_of_getElem? (i := 694) (by decide +kernel), List.mem_of_getElem? (i := 922) (by decide +kernel), List.mem_of_getElem? (i := 923) (by decide +kernel)⟩
theorem lw_p44 : lw_okq (⟨"RegistryDeskModel", "endTransfer", "(I)V"⟩, 25) := ⟨⟨by decide +kernel, by decide +kernel⟩, List.mem_of_getElem? (i := 694) (by decide +kernel), List.mem_of_getElem? (i := 926) (by decide +kernel), List.mem_of_getElem? (i := 927) (by decide +kernel)⟩
theorem lw_p45 : lw_okq (⟨"RegistryDeskModel", "newDay", "(I)V"⟩, 25) := ⟨⟨by decide +kernel, by decide +kernel⟩, List.mem_of_getElem? (i := 694) (by decide +kernel), List.mem_of_getElem? (i := 934) (by decide +kernel), List.mem_of_getElem? (i := 935) (by decide +kernel)⟩
theorem lw_p46 : lw_okq (⟨"RegistryDeskModel", "row", "(I)I"⟩, 25) := ⟨⟨by decide +kernel, by decide +kernel⟩, List.mem_of_getElem? (i := 694) (by decide +kernel), List.mem_of_getElem? (i := 966) (by decide +kernel), List.mem_of_getElem? (i := 967) (by decide +kernel)⟩
theorem lw_p47 : lw_okq (⟨"RegistryDeskModel", "domains", "()I"⟩, 25) := ⟨⟨by decide +kernel, by decide +kernel⟩, List.mem_of_getElem? (i := 694) (by decide +kernel), List.mem_of_getElem? (i := 974) (by decide +kernel), List.mem_of_getElem? (i := 975) (by decide +kernel)⟩
def lw_privs_3 : List (MethodName × Nat) := [(⟨"RegistryDeskModel", "cost", "(III)J"⟩, 25), (⟨"RegistryDeskModel", "noGrace", "(I)V"⟩, 25), (⟨"RegistryDeskModel", "pay", "(IIIII)V"⟩, 25), (⟨"RegistryDeskModel", "barred", "(IIII)I"⟩, 25), (⟨"RegistryDeskModel", "takeOff", "(III)V"⟩, 25), (⟨"RegistryDeskModel", "neededElsewhere", "(I)Z"⟩, 25), (⟨"RegistryDeskModel", "graceOn", "(II)Z"⟩, 25), (⟨"RegistryDeskModel", "removeDomain", "(I)V"⟩, 25), (⟨"RegistryDeskModel", "removeHost", "(I)V"⟩, 25), (⟨"RegistryDeskModel", "tell", "(III)V"⟩, 25), (⟨"RegistryDeskModel", "drop", "(I)V"⟩, 25), (⟨"RegistryDeskModel", "handOver", "(I)V"⟩, 25), (⟨"RegistryDeskModel", "endTransfer", "(I)V"⟩, 25), (⟨"RegistryDeskModel", "newDay", "(I)V"⟩, 25), (⟨"RegistryDeskModel", "row", "(I)I"⟩, 25), (⟨"RegistryDeskModel", "domains", "()I"⟩, 25)]
theorem lw_r3 : ∀ q ∈ lw_privs_3, lw_okq q := List.forall_mem_cons.mpr ⟨lw_p32, List.forall_mem_cons.mpr ⟨lw_p33, List.forall_mem_cons.mpr ⟨lw_p34, List.forall_mem_cons.mpr ⟨lw_p35, List.forall_mem_cons.mpr ⟨lw_p36, List.forall_mem_cons.mpr ⟨lw_p37, List.forall_mem_cons.mpr ⟨lw_p38, List.forall_mem_cons.mpr ⟨lw_p39, List.forall_mem_cons.mpr ⟨lw_p40, List.forall_mem_cons.mpr ⟨lw_p41, List.forall_mem_cons.mpr ⟨lw_p42, List.forall_mem_cons.mpr ⟨lw_p43, List.forall_mem_cons.mpr ⟨lw_p44, List.forall_mem_cons.mpr ⟨lw_p45, List.forall_mem_cons.mpr ⟨lw_p46, List.forall_mem_cons.mpr ⟨lw_p47, fun _ h => absurd h List.not_mem_nil⟩⟩⟩⟩⟩⟩⟩⟩⟩⟩⟩⟩⟩⟩⟩⟩
def lw_privs : List (MethodName × Nat) := lw_privs_1 ++ (lw_privs_2 ++ (lw_privs_3))
def lw_tbl : List Cond := k2_sels lw_privs ++ tables_1
theorem lw_privs_ok : ∀ q ∈ lw_privs, lw_okq q := by
  show ∀ q ∈ lw_privs_1 ++ (lw_privs_2 ++ (lw_privs_3)), lw_okq q
  exact List.forall_mem_append.mpr ⟨lw_r1, List.forall_mem_append.mpr ⟨lw_r2, lw_r3⟩⟩
end
section
/-! doubles that are whole 64ths: what the operations give, exactly -/
/-- 2^k times a datum -/
def fq_sh (k : Int) : FP.Core.Datum → FP.Core.Datum
  | .fin s c q => .fin s c (q + k)
  | d => d
/-- the double a is i / 64 -/
def fq_D (i : Int) (a : UInt64) : Prop := FP.Core.Whole i (fq_sh 6 (FP.Core.val64 a))
theorem fq_down {i : Int} {s : Bool} {c : Nat} {q : Int} (n : Nat) (h : FP.Core.Whole (i * ((2 ^ n : Nat) : Int)) (.fin s c (q + n))) : FP.Core.Whole i (.fin s c q) := by
  have h1 : FP.Core.signed s (c * 2 ^ (q + n).toNat) = i * ((2 ^ n : Nat) : Int) * ((2 ^ (-(q + n)).toNat : Nat) : Int) := h
  show FP.Core.signed s (c * 2 ^ q.toNat) = i * ((2 ^ (-q).toNat : Nat) : Int)
  rw [FP.Core.signed_mul] at h1 ⊢
  have hp : ((2 ^ (q + n).toNat : Nat) : Int) ≠ 0 := by
    have := Nat.two_pow_pos (q + n).toNat; omega
  have hp2 : ((2 ^ (-(q + n)).toNat : Nat) : Int) ≠ 0 := by
    have := Nat.two_pow_pos (-(q + n)).toNat; omega
  refine Int.eq_of_mul_eq_mul_right hp (Int.eq_of_mul_eq_mul_right hp2 ?_)
  have hx : (q + n).toNat + (-q).toNat = q.toNat + (-(q + n)).toNat + n := by omega
  have e : ((2 ^ (q + n).toNat : Nat) : Int) * ((2 ^ (-q).toNat : Nat) : Int) = ((2 ^ q.toNat : Nat) : Int) * ((2 ^ (-(q + n)).toNat : Nat) : Int) * ((2 ^ n : Nat) : Int) := by
    rw [← Int.natCast_mul, ← Int.natCast_mul, ← Int.natCast_mul, ← Nat.pow_add, ← Nat.pow_add, ← Nat.pow_add, hx]
  generalize ((2 ^ (q + n).toNat : Nat) : Int) = a1 at *
  generalize ((2 ^ (-(q + n)).toNat : Nat) : Int) = a2 at *
  generalize ((2 ^ q.toNat : Nat) : Int) = a3 at *
  generalize ((2 ^ (-q).toNat : Nat) : Int) = a4 at *
  generalize ((2 ^ n : Nat) : Int) = a5 at *
  generalize FP.Core.signed s c = a6 at *
  calc a6 * a3 * a1 * a2 = (a6 * a1) * (a3 * a2) := by ac_rfl
    _ = (i * a5 * a2) * (a3 * a2) := by rw [h1]
    _ = i * (a3 * a2 * a5) * a2 := by ac_rfl
    _ = i * (a1 * a4) * a2 := by rw [e]
    _ = i * a4 * a1 * a2 := by ac_rfl
/-- the rounding of i / 64 is i / 64 -/
theorem fq_rr {i : Int} {s : Bool} (hi : i.natAbs ≤ 2 ^ 53) (hs : i ≠ 0 → s = decide (i < 0)) : FP.Core.Whole i (fq_sh 6 (FP.Core.roundRatio FP.Core.b64 s i.natAbs 1 (-6))) := by
  by_cases hi0 : i = 0
  · subst hi0
    show FP.Core.signed s (0 * _) = 0 * _
    rw [Nat.zero_mul, Int.zero_mul, FP.Core.signed_zero]
  · obtain ⟨c', q', hfit, hv⟩ := FP.Core.natFit FP.Core.good_b64 FP.Core.wide_b64 s (n := i.natAbs) hi
    have hm : FP.Core.b64.qmin = -1074 := by decide
    have hq6 : -60 ≤ q' := by
      rcases Int.lt_or_le q' (-60) with hlt | hge
      · exfalso
        have e1 : (q' - 0).toNat = 0 := by omega
        have e2 : 60 ≤ (0 - q').toNat := by omega
        have e3 : 2 ^ 60 ≤ 2 ^ (0 - q').toNat := Nat.pow_le_pow_right (by decide) e2
        have e4 : 1 ≤ i.natAbs := by omega
        have e5 : 2 ^ (0 - q').toNat ≤ i.natAbs * 2 ^ (0 - q').toNat := Nat.le_mul_of_pos_left _ e4
        rw [e1, Nat.pow_zero, Nat.mul_one, Nat.mul_one] at hv
        have e6 : c' < 2 ^ 53 := hfit.1
        rw [hv] at e5
        have e7 : (2 : Nat) ^ 53 < 2 ^ 60 := by decide
        exact absurd (Nat.lt_of_lt_of_le e7 (Nat.le_trans e3 e5)) (Nat.not_lt.mpr (Nat.le_of_lt e6))
      · exact hge
    have hfit2 : FP.Core.fits FP.Core.b64 (.fin s c' (q' - 6)) := ⟨hfit.1, by omega, by have := hfit.2.2.1; omega, Or.inr (by
      rcases hfit.2.2.2 with h | h
      · omega
      · exact h)⟩
    rw [FP.Core.roundRatio_exact FP.Core.good_b64 (by decide) hfit2 (by
      rw [show (-6 - (q' - 6)).toNat = (0 - q').toNat by omega, show (q' - 6 - -6).toNat = (q' - 0).toNat by omega]; exact hv)]
    show FP.Core.signed s (c' * 2 ^ (q' - 6 + 6).toNat) = i * ((2 ^ (-(q' - 6 + 6)).toNat : Nat) : Int)
    rw [show q' - 6 + 6 = q' by omega]
    rw [show (0 - q').toNat = (-q').toNat by omega, show (q' - 0).toNat = q'.toNat by omega, Nat.mul_one] at hv
    rw [← hv, FP.Core.signed_mul]
    congr 1
    rw [hs hi0]
    unfold FP.Core.signed
    by_cases h : i < 0 <;> simp [h] <;> omega
theorem fq_round {i : Int} {d : FP.Core.Datum} (hi : i.natAbs ≤ 2 ^ 53) (h : FP.Core.Whole i (fq_sh 6 d)) : FP.Core.Whole i (fq_sh 6 (FP.Core.round FP.Core.b64 d)) := by
  cases d with
  | nan => exact h.elim
  | inf => exact h.elim
  | fin s c q =>
    have h0 : FP.Core.Whole i (.fin s c (q + 6)) := h
    have hn := FP.Core.whole_natAbs h0
    have hr : FP.Core.round FP.Core.b64 (.fin s c q) = FP.Core.roundRatio FP.Core.b64 s i.natAbs 1 (-6) := by
      refine FP.Core.roundRatio_congr (by decide) (by decide) ?_
      rw [show (q - -6).toNat = (q + 6).toNat by omega, show (-6 - q).toNat = (-(q + 6)).toNat by omega]
      simpa using hn
    rw [hr]
    exact fq_rr hi (fun z => FP.Core.whole_sign h0 z)
theorem fq_units (c : Nat) (q r : Int) : FP.Core.inUnits c (q + 6) (r + 6) = FP.Core.inUnits c q r := by
  unfold FP.Core.inUnits
  rw [show q + 6 - (r + 6) = q - r by omega]
theorem fq_sum {i j : Int} {x y : FP.Core.Datum} (hx : FP.Core.Whole i (fq_sh 6 x)) (hy : FP.Core.Whole j (fq_sh 6 y)) : FP.Core.Whole (i + j) (fq_sh 6 (FP.Core.exactSum x y)) := by
  have h := FP.Core.whole_sum hx hy
  cases x with
  | nan => exact hx.elim
  | inf => exact hx.elim
  | fin s c q =>
  cases y with
  | nan => exact hy.elim
  | inf => exact hy.elim
  | fin t d r =>
    have hm : min (q + 6) (r + 6) = min q r + 6 := by omega
    have e : fq_sh 6 (FP.Core.exactSum (.fin s c q) (.fin t d r)) = FP.Core.exactSum (fq_sh 6 (.fin s c q)) (fq_sh 6 (.fin t d r)) := by
      simp only [fq_sh, FP.Core.exactSum, hm, FP.Core.sumUnits, fq_units]
    rw [e]
    exact h
theorem fq_neg {i : Int} {x : FP.Core.Datum} (hx : FP.Core.Whole i (fq_sh 6 x)) : FP.Core.Whole (-i) (fq_sh 6 (FP.Core.negate x)) := by
  have h := FP.Core.whole_negate hx
  cases x <;> exact h
theorem fq_prod {i j : Int} {x y : FP.Core.Datum} (hx : FP.Core.Whole i (fq_sh 6 x)) (hy : FP.Core.Whole j y) : FP.Core.Whole (i * j) (fq_sh 6 (FP.Core.exactProduct x y)) := by
  have h := FP.Core.whole_product hx hy
  cases x with
  | nan => exact hx.elim
  | inf => exact hx.elim
  | fin s c q =>
  cases y with
  | nan => exact hy.elim
  | inf => exact hy.elim
  | fin t d r =>
    have e : fq_sh 6 (FP.Core.exactProduct (.fin s c q) (.fin t d r)) = FP.Core.exactProduct (fq_sh 6 (.fin s c q)) (.fin t d r) := by
      simp only [fq_sh, FP.Core.exactProduct]
      rw [show q + r + 6 = q + 6 + r by omega]
    rw [e]
    exact h
/-- .. and not a NaN -/
theorem fq_nn {i : Int} {a : UInt64} (h : fq_D i a) : vf_n64 a := by
  have h9 : FP.Core.val64 a ≠ .nan := fun z => by
    unfold fq_D at h
    rw [z] at h
    exact h
  unfold vf_n64
  rw [UInt64.le_iff_toNat_le, UInt64.toNat_and]
  have h1 : (0x7fffffffffffffff : UInt64).toNat = 2 ^ 63 - 1 := by decide
  have h2 : (0x7ff0000000000000 : UInt64).toNat = 9218868437227405312 := by decide
  rw [h1, h2, Nat.and_two_pow_sub_one_eq_mod]
  refine Nat.le_of_not_lt fun hlt => h9 ?_
  have e1 : FP.Core.fieldE FP.Core.b64 a.toNat = FP.Core.b64.exps - 1 := by
    show a.toNat / 4503599627370496 % 2048 = 2047
    omega
  have e2 : ¬ FP.Core.fieldT FP.Core.b64 a.toNat = 0 := by
    show ¬ a.toNat % 4503599627370496 = 0
    omega
  unfold FP.Core.val64 FP.Core.decode
  rw [if_pos e1, if_neg e2]
theorem fq_add {i j : Int} {a b : UInt64} (ha : fq_D i a) (hb : fq_D j b) (h : (i + j).natAbs ≤ 2 ^ 53) : fq_D (i + j) (FP.dadd a b) := by
  unfold fq_D
  rw [show FP.Core.val64 (FP.dadd a b) = _ from FP.Core.val64_dadd a b]
  exact fq_round h (fq_sum ha hb)
theorem fq_sub {i j : Int} {a b : UInt64} (ha : fq_D i a) (hb : fq_D j b) (h : (i - j).natAbs ≤ 2 ^ 53) : fq_D (i - j) (FP.dsub a b) := by
  unfold fq_D
  rw [show FP.Core.val64 (FP.dsub a b) = _ from FP.Core.val64_dsub a b]
  exact fq_round h (fq_sum ha (fq_neg hb))
theorem fq_mul {i j : Int} {a b : UInt64} (ha : fq_D i a) (hb : FP.Core.DInt j b) (h : (i * j).natAbs ≤ 2 ^ 53) : fq_D (i * j) (FP.dmul a b) := by
  unfold fq_D
  rw [show FP.Core.val64 (FP.dmul a b) = _ from FP.Core.val64_dmul a b]
  exact fq_round h (fq_prod ha hb)
theorem fq_cmp {i j : Int} {a b : UInt64} (ha : fq_D i a) (hb : fq_D j b) : FP.dcmp a b = some (compare i j) := by
  have h := FP.Core.order_whole ha hb
  show FP.Core.order (FP.Core.val64 a) (FP.Core.val64 b) = _
  unfold fq_D at ha hb
  revert ha hb h
  generalize FP.Core.val64 a = x
  generalize FP.Core.val64 b = y
  intro ha hb h
  cases x with
  | nan => exact ha.elim
  | inf => exact ha.elim
  | fin s c q =>
  cases y with
  | nan => exact hb.elim
  | inf => exact hb.elim
  | fin t d r =>
    have hm : min (q + 6) (r + 6) = min q r + 6 := by omega
    simp only [fq_sh, FP.Core.order, hm, fq_units] at h
    exact h
/-- an amount: a script's int by 0.125 -/
theorem fq_eighth : fq_D 8 4593671619917905920 := by
  unfold fq_D
  rw [show FP.Core.val64 4593671619917905920 = .fin false (2 ^ 52) (-55) by decide +kernel]
  show FP.Core.signed false _ = _
  decide
theorem fq_amount (k : Int32) : fq_D (8 * k.toInt) (FP.dmul (FP.i2d k) 4593671619917905920) := by
  have h1 := k.toInt_lt
  have h2 := k.le_toInt
  have h : (8 * k.toInt).natAbs ≤ 2 ^ 53 := by omega
  unfold fq_D
  rw [show FP.Core.val64 (FP.dmul (FP.i2d k) 4593671619917905920) = _ from FP.Core.val64_dmul _ _, FP.Core.exactProduct_comm]
  exact fq_round h (fq_prod fq_eighth (FP.Core.i2d_int k))
theorem fq_lit {n : UInt64} {c : Nat} {q : Int} {i : Int} (h : FP.Core.val64 n = .fin false c q) (h2 : FP.Core.Whole i (.fin false c (q + 6))) : fq_D i n := by
  unfold fq_D
  rw [h]
  exact h2
theorem fq_zero : fq_D 0 FP.dconst0 := fq_lit (c := 0) (q := -1074) (by decide +kernel) (by show FP.Core.signed false (0 * _) = 0 * _; rw [Nat.zero_mul, Int.zero_mul, FP.Core.signed_zero])
theorem fq_one : fq_D 64 FP.dconst1 := fq_lit (c := 2 ^ 52) (q := -52) (by decide +kernel) (by show FP.Core.signed false _ = _; decide)
/-- 100.0, 1000.0 -/
theorem fq_100 : fq_D 6400 4636737291354636288 := fq_lit (c := 7036874417766400) (q := -46) (by decide +kernel) (by show FP.Core.signed false _ = _; decide)
theorem fq_1000 : fq_D 64000 4652007308841189376 := fq_lit (c := 8796093022208000) (q := -43) (by decide +kernel) (by show FP.Core.signed false _ = _; decide)
/-- by 0.875 -/
theorem fq_mul7 {i : Int} {a : UInt64} (ha : fq_D (i * 8) a) (h : (i * 7).natAbs ≤ 2 ^ 53) : fq_D (i * 7) (FP.dmul a 4606056518893174784) := by
  unfold fq_D at ha ⊢
  rw [show FP.Core.val64 (FP.dmul a 4606056518893174784) = _ from FP.Core.val64_dmul _ _]
  refine fq_round h ?_
  rw [show FP.Core.val64 4606056518893174784 = .fin false 7881299347898368 (-53) by decide +kernel]
  revert ha
  generalize FP.Core.val64 a = x
  intro ha
  cases x with
  | nan => exact ha.elim
  | inf => exact ha.elim
  | fin s c q =>
    have h1 : FP.Core.Whole (i * ((2 ^ 3 : Nat) : Int)) (.fin s c ((q + 3) + (3 : Nat))) := by
      have h0 : FP.Core.Whole (i * 8) (.fin s c (q + 6)) := ha
      rw [show (q + 3) + ((3 : Nat) : Int) = q + 6 by omega]
      exact h0
    have h2 := FP.Core.whole_product (fq_down 3 h1) (show FP.Core.Whole 7 (.fin false 7881299347898368 (-50)) by show FP.Core.signed false _ = _; decide)
    have e : fq_sh 6 (FP.Core.exactProduct (.fin s c q) (.fin false 7881299347898368 (-53))) = FP.Core.exactProduct (.fin s c (q + 3)) (.fin false 7881299347898368 (-50)) := by
      simp only [fq_sh, FP.Core.exactProduct]
      rw [show q + -53 + 6 = q + 3 + -50 by omega]
    rw [e]
    exact h2
theorem fq_d64 : FP.Core.DInt 64 4634204016564240384 := by
  unfold FP.Core.DInt
  rw [show FP.Core.val64 4634204016564240384 = .fin false (2 ^ 52) (-46) by decide +kernel]
  show FP.Core.signed false _ = _
  decide
/-- (long) (a * 64.0) -/
theorem fq_long {v : Int64} {a : UInt64} (ha : fq_D v.toInt a) (h : (v.toInt * 64).natAbs ≤ 2 ^ 53) : fq_D (v.toInt * 64) (FP.dmul a 4634204016564240384) ∧ FP.d2l (FP.dmul a 4634204016564240384) = v := by
  have h1 := fq_mul ha fq_d64 h
  refine ⟨h1, FP.Core.d2l_int ?_⟩
  unfold fq_D at h1
  unfold FP.Core.DInt
  revert h1
  generalize FP.Core.val64 (FP.dmul a 4634204016564240384) = x
  intro h1
  cases x with
  | nan => exact h1.elim
  | inf => exact h1.elim
  | fin s c q => exact fq_down 6 h1
/-- v / 64.0 -/
theorem fq_shown {v : Int64} (h : v.toInt.natAbs ≤ 2 ^ 53) : fq_D v.toInt (FP.ddiv (FP.l2d v) 4634204016564240384) := by
  have h1 := FP.Core.l2d_int h
  unfold FP.Core.DInt at h1
  unfold fq_D
  rw [show FP.Core.val64 (FP.ddiv (FP.l2d v) 4634204016564240384) = _ from FP.Core.val64_ddiv _ _, show FP.Core.val64 4634204016564240384 = .fin false (2 ^ 52) (-46) by decide +kernel]
  revert h1
  generalize FP.Core.val64 (FP.Core.l2d v) = x
  intro h1
  cases x with
  | nan => exact h1.elim
  | inf => exact h1.elim
  | fin s c q =>
    have hn := FP.Core.whole_natAbs h1
    have e : FP.Core.quotient FP.Core.b64 (.fin s c q) (.fin false (2 ^ 52) (-46)) = FP.Core.roundRatio FP.Core.b64 s v.toInt.natAbs 1 (-6) := by
      unfold FP.Core.quotient
      dsimp only
      rw [if_neg (by decide), Bool.bne_false]
      refine FP.Core.roundRatio_congr (by decide) (by decide) ?_
      refine Nat.eq_of_mul_eq_mul_right (Nat.two_pow_pos q.toNat) ?_
      have hx : (q - -46 - -6).toNat + (-q).toNat = 52 + (-6 - (q - -46)).toNat + q.toNat := by omega
      calc c * 1 * 2 ^ (q - -46 - -6).toNat * 2 ^ q.toNat = (c * 2 ^ q.toNat) * 2 ^ (q - -46 - -6).toNat := by ac_rfl
        _ = v.toInt.natAbs * (2 ^ ((q - -46 - -6).toNat + (-q).toNat)) := by rw [hn, Nat.pow_add]; ac_rfl
        _ = v.toInt.natAbs * 2 ^ 52 * 2 ^ (-6 - (q - -46)).toNat * 2 ^ q.toNat := by rw [hx]; simp only [Nat.pow_add]; ac_rfl
    rw [e]
    exact fq_rr h (fun z => FP.Core.whole_sign h1 z)
end
section
/-! a group of cells as one memory; contracts over it; one row an instruction, one row a call -/
abbrev rd_Ce : Type := (Nat → Int32) × (Nat → Int64) × (Nat → UInt64)
abbrev rd_M : Type := Nat → rd_Ce
/-- how many cells, and what a cell is, by its number and its memory -/
abbrev rd_L : Type := Nat × ((Nat → Nat) → Nat → rd_Ce → va_E)
def rd_ws (L : rd_L) (ad : Nat → Nat) (M : rd_M) : va_W := (List.range L.1).map (fun k => (ad k, L.2 ad k (M k)))
theorem rd_at {L : rd_L} {ad : Nat → Nat} {M : rd_M} {k : Nat} (hk : k < L.1) : (rd_ws L ad M)[k]? = some (ad k, L.2 ad k (M k)) := by
  simp [rd_ws, hk]
theorem rd_ge {L : rd_L} {ad : Nat → Nat} {M : rd_M} {k : Nat} (hk : ¬ k < L.1) : (rd_ws L ad M)[k]? = none := by
  simp [rd_ws]; omega
theorem rd_set {L : rd_L} {ad : Nat → Nat} {M : rd_M} {k : Nat} {x : rd_Ce} {e : va_E} (he : e = L.2 ad k x) : (rd_ws L ad M).set k (ad k, e) = rd_ws L ad (va_up M k x) := by
  subst he
  apply List.ext_getElem?
  intro i
  by_cases hi : i < L.1
  · by_cases hk : i = k
    · subst hk
      rw [List.getElem?_set_self (by simpa [rd_ws] using hi), rd_at hi, va_up_self]
    · rw [List.getElem?_set_ne (Ne.symm hk), rd_at hi, rd_at hi, va_up_ne _ _ hk]
  · rw [rd_ge hi]
    have : ¬ i < ((rd_ws L ad M).set k (ad k, L.2 ad k x)).length := by simpa [rd_ws] using hi
    exact List.getElem?_eq_none (Nat.not_lt.mp this)
/-- the addresses are apart -/
def rd_J (L : rd_L) (ad : Nat → Nat) : Prop := ∀ i j, i < L.1 → j < L.1 → ad i = ad j → i = j
/-- the cells themselves, and all that come from sz on -/
def rd_A (L : rd_L) (ad : Nat → Nat) (sz : Nat) : Nat → Prop := fun q => (∃ k, k < L.1 ∧ ad k = q) ∨ sz ≤ q
theorem rd_D {L : rd_L} {ad : Nat → Nat} (hJ : rd_J L ad) {A : Nat → Prop} (hA : ∀ k, k < L.1 → A (ad k)) (M : rd_M) : va_D A (rd_ws L ad M) := by
  have key : ∀ (k : Nat) (q : Nat × va_E), (rd_ws L ad M)[k]? = some q → k < L.1 ∧ q.1 = ad k := by
    intro k q h
    by_cases hk : k < L.1
    · rw [rd_at hk] at h
      cases h
      exact ⟨hk, rfl⟩
    · rw [rd_ge hk] at h
      cases h
  refine ⟨fun i j x y hi hj hxy => ?_, fun k q hk => ?_⟩
  · obtain ⟨h1, h2⟩ := key i x hi
    obtain ⟨h3, h4⟩ := key j y hj
    exact hJ i j h1 h3 (by rw [← h2, ← h4]; exact hxy)
  · obtain ⟨h1, h2⟩ := key k q hk
    rw [h2]
    exact hA k h1
/-- the world in a body: the cells, and what has been written since H0 -/
def rd_W (D : va_G) (cl : List vw_C) (L : rd_L) (ad : Nat → Nat) (A : Nat → Prop) (H0 : Heap) (M : rd_M) (H : Heap) (locs : List Loc) : Prop := va_P D cl (rd_ws L ad M) H ∧ va_S A H0 H locs
/-- what stays through a body -/
def rd_C (p : Program) (c : Code) (cc : ByteArray) (nL : Nat) (s : State) (m : MethodId) (args : Array Value) (own : String) (TT : List Cond) (D : va_G) (cl : List vw_C) (ty : List (ClassId × FieldType)) (L : rd_L) (ad : Nat → Nat) (A : Nat → Prop) : Prop :=
  CallFix p m c cc nL s args TT own ∧ va_K D cl ty s ∧ rd_J L ad ∧ (∀ k, k < L.1 → A (ad k)) ∧ ∀ q, s.heap.size ≤ q → A q
def rd_iU (M : rd_M) (c j : Nat) (v : Int32) : rd_M := va_up M c (va_up (M c).1 j v, (M c).2)
def rd_lU (M : rd_M) (c j : Nat) (v : Int64) : rd_M := va_up M c ((M c).1, va_up (M c).2.1 j v, (M c).2.2)
def rd_dU (M : rd_M) (c j : Nat) (v : UInt64) : rd_M := va_up M c ((M c).1, (M c).2.1, va_up (M c).2.2 j v)
abbrev rd_in (x : Int32) (n : Nat) : Prop := ¬ (x < 0 ∨ n ≤ x.toNatClampNeg)
abbrev rd_nn (r : UInt64) : Prop := r &&& 0x7fffffffffffffff ≤ 0x7ff0000000000000
theorem rd_lt {x : Int32} {n : Nat} (h : rd_in x n) : x.toNatClampNeg < n := Nat.not_le.mp fun q => h (Or.inr q)
/-! the words of the functions that the code is turned into -/
def rd_k {α β : Type} (x : α) (f : α → β) : β := f x
def rd_b {α β : Type} (x : Option (String ⊕ α)) (f : α → Option (String ⊕ β)) : Option (String ⊕ β) := match x with
  | none => none
  | some (.inl E) => some (.inl E)
  | some (.inr v) => f v
def rd_it {α : Type} (z : α) (g : α → α) : Nat → α
  | 0 => z
  | n + 1 => g (rd_it z g n)
theorem rd_it_s {α : Type} (z : α) (g : α → α) (n : Nat) : rd_it z g (n + 1) = g (rd_it z g n) := rfl
theorem rd_nf {α : Type} {o : α} (h : (none : Option α) = some o) : False := by cases h
theorem rd_t {α : Type} {c : Prop} [Decidable c] {a b o : α} (h : (if c then a else b) = o) (hc : c) : a = o := by rw [if_pos hc] at h; exact h
theorem rd_f {α : Type} {c : Prop} [Decidable c] {a b o : α} (h : (if c then a else b) = o) (hc : ¬ c) : b = o := by rw [if_neg hc] at h; exact h
theorem rd_g {α : Type} {c : Prop} [Decidable c] {a : Option α} {o : α} (h : (if c then a else none) = some o) : c ∧ a = some o := by
  by_cases hc : c
  · rw [if_pos hc] at h; exact ⟨hc, h⟩
  · rw [if_neg hc] at h; cases h
theorem rd_k_el {α β : Type} {x : α} {f : α → β} {o : β} (h : rd_k x f = o) : ∃ y, y = x ∧ f y = o := ⟨x, rfl, h⟩
theorem rd_bind {α β : Type} {x : Option α} {f : α → Option β} {o : β} (h : x.bind f = some o) : ∃ r, x = some r ∧ f r = some o := by
  cases x with
  | none => cases h
  | some r => exact ⟨r, rfl, h⟩
theorem rd_b_run {α β : Type} {x : Option (String ⊕ α)} {f : α → Option (String ⊕ β)} {o : String ⊕ β} (h : rd_b x f = some o) : ∃ oc, x = some oc ∧ (∀ E, oc = .inl E → o = .inl E) ∧ ∀ v, oc = .inr v → f v = some o := by
  match x, h with
  | none, h => cases h
  | some (.inl E), h => exact ⟨_, rfl, fun E' e => (by cases e; cases h; rfl), fun v e => (by cases e)⟩
  | some (.inr v), h => exact ⟨_, rfl, fun E' e => (by cases e), fun v' e => (by cases e; exact h)⟩
section RD
variable {p : Program} {l : Launch} {e : Env} {R : Room} {s : State} {m : MethodId} {args : Array Value} {below : List Frame} {meth : Method} {c : Code} {H : Heap} {locs : List Loc} {cells slots : Nat} {Q : State → Prop}
variable {cc : ByteArray} {nL : Nat} {own : String} {TT : List Cond} {D : va_G} {cl : List vw_C} {ty : List (ClassId × FieldType)} {L : rd_L} {ad : Nat → Nat} {A : Nat → Prop} {M : rd_M} {pc : Nat} {ls : Array Slot} {rest : List Value}
theorem rd_get (C9 : rd_C p c cc nL s m args own TT D cl ty L ad A) (hW : rd_W D cl L ad A s.heap M H locs) {k : Nat} (hk : k < L.1) {ci : Nat} {fs : List Value} (he : L.2 ad k (M k) = .inr (ci, fs)) {C : String} {T : u_T} {N : Nat} (hc : cl[ci]? = some (C, T, N)) (hin : ∀ w ∈ u_ws C T N, w ∈ TT) (j : Nat) (hj : j < N) {v : Value} (hv : fs[j]? = some v) {index : Nat} (hl : Cond.fieldLink own index (T j).1 (T j).2.1 (T j).2.2.1 ∈ TT) (hdg : decode cc pc = .ok (.getfield index, 3))
    (kk : W p l e R s m args below meth c H locs cells slots Q (F0 m (pc + 3) ls (v :: rest))) : W p l e R s m args below meth c H locs cells slots Q (F0 m pc ls (.ref (ad k) :: rest)) := by
  obtain ⟨⟨hx, hb, hml, hown, hts⟩, hK, -, -, -⟩ := C9
  exact va_get hx hb hts hin hown hK hW.1 k (by rw [rd_at hk, he]) hc j hj (hts _ hl) (fun _ h => h) hv hdg kk
theorem rd_put (C9 : rd_C p c cc nL s m args own TT D cl ty L ad A) (hW : rd_W D cl L ad A s.heap M H locs) {k : Nat} (hk : k < L.1) {ci : Nat} {fs : List Value} (he : L.2 ad k (M k) = .inr (ci, fs)) {C : String} {T : u_T} {N : Nat} (hc : cl[ci]? = some (C, T, N)) (hin : ∀ w ∈ u_ws C T N, w ∈ TT) (t0 : Nat → FieldType) (ht0 : ∀ k, k < N → parseFieldDescriptor (T k).2.2.1 = some (t0 k)) (hnm : ∀ a, a < N → ∀ b, b < N → a ≠ b → (T a).2.1 ≠ (T b).2.1) (j : Nat) (hj : j < N) {index : Nat} (hl : Cond.fieldLink own index (T j).1 (T j).2.1 (T j).2.2.1 ∈ TT) (hfin : (T j).2.2.2 = false) {t : FieldType} {v : Value} (hd : parseFieldDescriptor (T j).2.2.1 = some t) (hn : narrow t v = v) (hfit : fits t v = true) (hlen : j < fs.length) {x : rd_Ce} (hx2 : (.inr (ci, fs.set j v) : va_E) = L.2 ad k x) (hdg : decode cc pc = .ok (.putfield index, 3))
    (kk : ∀ (H1 : Heap) (locs1 : List Loc), rd_W D cl L ad A s.heap (va_up M k x) H1 locs1 → W p l e R s m args below meth c H1 locs1 cells slots Q (F0 m (pc + 3) ls rest)) : W p l e R s m args below meth c H locs cells slots Q (F0 m pc ls (v :: .ref (ad k) :: rest)) := by
  obtain ⟨⟨hx, hb, hml, hown, hts⟩, hK, hJ, hA, -⟩ := C9
  refine va_put hx hb hts hin t0 ht0 hnm hown hK hW.1 (rd_D hJ hA M) hW.2 k (by rw [rd_at hk, he]) hc j hj (hts _ hl) (fun _ h => h) hfin hd hn hfit hlen hdg (fun H1 locs1 h1 h2 h3 => kk H1 locs1 ⟨?_, h3⟩)
  rw [rd_set hx2] at h1
  exact h1
theorem rd_iald (C9 : rd_C p c cc nL s m args own TT D cl ty L ad A) (hW : rd_W D cl L ad A s.heap M H locs) {k : Nat} (hk : k < L.1) {cA : ClassId} {n : Nat} {f : Nat → Int32} (he : L.2 ad k (M k) = .inl (cA, n, .inl f)) {t0 : Nat} (ht : ty[t0]? = some (cA, .int)) {j9 : Int32} {i : Nat} (hxi : j9.toNatClampNeg = i) (hi : vp_in j9 n) (hdg : decode cc pc = .ok (.iaload, 1))
    (kk : W p l e R s m args below meth c H locs cells slots Q (F0 m (pc + 1) ls (.int (f i) :: rest))) : W p l e R s m args below meth c H locs cells slots Q (F0 m pc ls (.int j9 :: .ref (ad k) :: rest)) := by
  obtain ⟨⟨hx, hb, hml, hown, hts⟩, hK, -, -, -⟩ := C9
  exact va_iald hx hb hK hW.1 k t0 (by rw [rd_at hk, he]) ht hi hdg (by rw [hxi]; exact kk)
theorem rd_lald (C9 : rd_C p c cc nL s m args own TT D cl ty L ad A) (hW : rd_W D cl L ad A s.heap M H locs) {k : Nat} (hk : k < L.1) {cA : ClassId} {n : Nat} {f : Nat → Int64} (he : L.2 ad k (M k) = .inl (cA, n, .inr (.inl f))) {t0 : Nat} (ht : ty[t0]? = some (cA, .long)) {j9 : Int32} {i : Nat} (hxi : j9.toNatClampNeg = i) (hi : vp_in j9 n) (hdg : decode cc pc = .ok (.laload, 1))
    (kk : W p l e R s m args below meth c H locs cells slots Q (F0 m (pc + 1) ls (.long (f i) :: rest))) : W p l e R s m args below meth c H locs cells slots Q (F0 m pc ls (.int j9 :: .ref (ad k) :: rest)) := by
  obtain ⟨⟨hx, hb, hml, hown, hts⟩, hK, -, -, -⟩ := C9
  exact va_lald hx hb hK hW.1 k t0 (by rw [rd_at hk, he]) ht hi hdg (by rw [hxi]; exact kk)
theorem rd_dald (C9 : rd_C p c cc nL s m args own TT D cl ty L ad A) (hW : rd_W D cl L ad A s.heap M H locs) {k : Nat} (hk : k < L.1) {cA : ClassId} {n : Nat} {f : Nat → UInt64} (he : L.2 ad k (M k) = .inl (cA, n, .inr (.inr (.inr (.inl f))))) {t0 : Nat} (ht : ty[t0]? = some (cA, .double)) {j9 : Int32} {i : Nat} (hxi : j9.toNatClampNeg = i) (hi : vp_in j9 n) (hdg : decode cc pc = .ok (.daload, 1))
    (kk : W p l e R s m args below meth c H locs cells slots Q (F0 m (pc + 1) ls (.double (f i) :: rest))) : W p l e R s m args below meth c H locs cells slots Q (F0 m pc ls (.int j9 :: .ref (ad k) :: rest)) := by
  obtain ⟨⟨hx, hb, hml, hown, hts⟩, hK, -, -, -⟩ := C9
  exact va_dald hx hb hK hW.1 k t0 (by rw [rd_at hk, he]) ht hi hdg (by rw [hxi]; exact kk)
theorem rd_aald (C9 : rd_C p c cc nL s m args own TT D cl ty L ad A) (hW : rd_W D cl L ad A s.heap M H locs) {k : Nat} (hk : k < L.1) {cA : ClassId} {C : String} {n : Nat} {f : Nat → Option Nat} (he : L.2 ad k (M k) = .inl (cA, n, .inr (.inr (.inr (.inr f))))) {t0 : Nat} (ht : ty[t0]? = some (cA, .object C)) {j9 : Int32} {i : Nat} (hxi : j9.toNatClampNeg = i) (hi : vp_in j9 n) {a : Nat} (ha : f i = some a) (hdg : decode cc pc = .ok (.aaload, 1))
    (kk : W p l e R s m args below meth c H locs cells slots Q (F0 m (pc + 1) ls (.ref a :: rest))) : W p l e R s m args below meth c H locs cells slots Q (F0 m pc ls (.int j9 :: .ref (ad k) :: rest)) := by
  obtain ⟨⟨hx, hb, hml, hown, hts⟩, hK, -, -, -⟩ := C9
  exact va_aldq hx hb hK hW.1 k t0 (by rw [rd_at hk, he]) ht hi hdg (by rw [hxi, ha]; exact kk)
theorem rd_iast (C9 : rd_C p c cc nL s m args own TT D cl ty L ad A) (hW : rd_W D cl L ad A s.heap M H locs) {k : Nat} (hk : k < L.1) {cA : ClassId} {n : Nat} {f : Nat → Int32} (he : L.2 ad k (M k) = .inl (cA, n, .inl f)) {t0 : Nat} (ht : ty[t0]? = some (cA, .int)) {j9 : Int32} {i : Nat} (hxi : j9.toNatClampNeg = i) (hi : vp_in j9 n) {v : Int32} {x : rd_Ce} (hx2 : (.inl (cA, n, .inl (upd f i v)) : va_E) = L.2 ad k x) (hdg : decode cc pc = .ok (.iastore, 1))
    (kk : ∀ (H1 : Heap) (locs1 : List Loc), rd_W D cl L ad A s.heap (va_up M k x) H1 locs1 → W p l e R s m args below meth c H1 locs1 cells slots Q (F0 m (pc + 1) ls rest)) : W p l e R s m args below meth c H locs cells slots Q (F0 m pc ls (.int v :: .int j9 :: .ref (ad k) :: rest)) := by
  obtain ⟨⟨hx, hb, hml, hown, hts⟩, hK, hJ, hA, -⟩ := C9
  refine va_iast hx hb hK hW.1 (rd_D hJ hA M) hW.2 k t0 (by rw [rd_at hk, he]) ht hi hdg (fun H1 locs1 h1 h2 h3 => kk H1 locs1 ⟨?_, h3⟩)
  rw [hxi, rd_set hx2] at h1
  exact h1
theorem rd_last (C9 : rd_C p c cc nL s m args own TT D cl ty L ad A) (hW : rd_W D cl L ad A s.heap M H locs) {k : Nat} (hk : k < L.1) {cA : ClassId} {n : Nat} {f : Nat → Int64} (he : L.2 ad k (M k) = .inl (cA, n, .inr (.inl f))) {t0 : Nat} (ht : ty[t0]? = some (cA, .long)) {j9 : Int32} {i : Nat} (hxi : j9.toNatClampNeg = i) (hi : vp_in j9 n) {v : Int64} {x : rd_Ce} (hx2 : (.inl (cA, n, .inr (.inl (vp_updL f i v))) : va_E) = L.2 ad k x) (hdg : decode cc pc = .ok (.lastore, 1))
    (kk : ∀ (H1 : Heap) (locs1 : List Loc), rd_W D cl L ad A s.heap (va_up M k x) H1 locs1 → W p l e R s m args below meth c H1 locs1 cells slots Q (F0 m (pc + 1) ls rest)) : W p l e R s m args below meth c H locs cells slots Q (F0 m pc ls (.long v :: .int j9 :: .ref (ad k) :: rest)) := by
  obtain ⟨⟨hx, hb, hml, hown, hts⟩, hK, hJ, hA, -⟩ := C9
  refine va_last hx hb hK hW.1 (rd_D hJ hA M) hW.2 k t0 (by rw [rd_at hk, he]) ht hi hdg (fun H1 locs1 h1 h2 h3 => kk H1 locs1 ⟨?_, h3⟩)
  rw [hxi, rd_set hx2] at h1
  exact h1
theorem rd_dast (C9 : rd_C p c cc nL s m args own TT D cl ty L ad A) (hW : rd_W D cl L ad A s.heap M H locs) {k : Nat} (hk : k < L.1) {cA : ClassId} {n : Nat} {f : Nat → UInt64} (he : L.2 ad k (M k) = .inl (cA, n, .inr (.inr (.inr (.inl f))))) {t0 : Nat} (ht : ty[t0]? = some (cA, .double)) {j9 : Int32} {i : Nat} (hxi : j9.toNatClampNeg = i) (hi : vp_in j9 n) {v : UInt64} {x : rd_Ce} (hx2 : (.inl (cA, n, .inr (.inr (.inr (.inl (vf_upd f i v))))) : va_E) = L.2 ad k x) (hdg : decode cc pc = .ok (.dastore, 1))
    (kk : ∀ (H1 : Heap) (locs1 : List Loc), rd_W D cl L ad A s.heap (va_up M k x) H1 locs1 → W p l e R s m args below meth c H1 locs1 cells slots Q (F0 m (pc + 1) ls rest)) : W p l e R s m args below meth c H locs cells slots Q (F0 m pc ls (.double v :: .int j9 :: .ref (ad k) :: rest)) := by
  obtain ⟨⟨hx, hb, hml, hown, hts⟩, hK, hJ, hA, -⟩ := C9
  refine va_dast hx hb hK hW.1 (rd_D hJ hA M) hW.2 k t0 (by rw [rd_at hk, he]) ht hi hdg (fun H1 locs1 h1 h2 h3 => kk H1 locs1 ⟨?_, h3⟩)
  rw [hxi, rd_set hx2] at h1
  exact h1
theorem rd_ldc (C9 : rd_C p c cc nL s m args own TT D cl ty L ad A) {index : Nat} {v : Int32} (hl : Cond.constant own index v ∈ TT) (hdg : decode cc pc = .ok (.ldc index, 2)) (kk : W p l e R s m args below meth c H locs cells slots Q (F0 m (pc + 2) ls (.int v :: rest))) : W p l e R s m args below meth c H locs cells slots Q (F0 m pc ls rest) := lv_ldc C9.1.1 C9.1.2.1 C9.1.2.2.2.1 (C9.1.2.2.2.2 _ hl) hdg kk
theorem rd_ldcJ (C9 : rd_C p c cc nL s m args own TT D cl ty L ad A) {index : Nat} {v : Int64} (hl : Cond.constantLong own index v ∈ TT) (hdg : decode cc pc = .ok (.ldc2_w index, 3)) (kk : W p l e R s m args below meth c H locs cells slots Q (F0 m (pc + 3) ls (.long v :: rest))) : W p l e R s m args below meth c H locs cells slots Q (F0 m pc ls rest) := lv_ldc2 C9.1.1 C9.1.2.1 C9.1.2.2.2.1 (C9.1.2.2.2.2 _ hl) hdg kk
theorem rd_ldcD (C9 : rd_C p c cc nL s m args own TT D cl ty L ad A) {index : Nat} {v : UInt64} (hl : Cond.constantDouble own index v ∈ TT) (hdg : decode cc pc = .ok (.ldc2_w index, 3)) (kk : W p l e R s m args below meth c H locs cells slots Q (F0 m (pc + 3) ls (.double v :: rest))) : W p l e R s m args below meth c H locs cells slots Q (F0 m pc ls rest) := lv_ldc2d C9.1.1 C9.1.2.1 C9.1.2.2.2.1 (C9.1.2.2.2.2 _ hl) hdg kk
/-- two arms that meet with a number on the stack -/
theorem rd_sel {g0 : JFrame} {x : Int32} (z : Int32) (g : Int32 → JFrame) (hz : z = x) (arms : W p l e R s m args below meth c H locs cells slots Q (g x) → W p l e R s m args below meth c H locs cells slots Q g0) (k : W p l e R s m args below meth c H locs cells slots Q (g z)) : W p l e R s m args below meth c H locs cells slots Q g0 := arms (hz ▸ k)
theorem rd_selt {g : Int32 → JFrame} {C : Prop} [Decidable C] {a b : Int32} (h : W p l e R s m args below meth c H locs cells slots Q (g (if C then a else b))) (hc : C) : W p l e R s m args below meth c H locs cells slots Q (g a) := by
  rw [if_pos hc] at h; exact h
theorem rd_self {g : Int32 → JFrame} {C : Prop} [Decidable C] {a b : Int32} (h : W p l e R s m args below meth c H locs cells slots Q (g (if C then a else b))) (hc : ¬ C) : W p l e R s m args below meth c H locs cells slots Q (g b) := by
  rw [if_neg hc] at h; exact h
end RD
end
section
/-! contracts over a memory: a method returns with a new memory, or throws and leaves the memory as it was -/
/-- texts, and words that hold of warmer tables too though no list keeps them -/
abbrev rd_SS : Type := List (String × Nat × String) × List Cond × List (String × String)
def rd_nk : Cond → Bool
  | .castable .. => true
  | .declares .. => true
  | _ => false
/-- what a throw needs of the heap: two statics of Throwable, where they lie and that they hold references; the texts that are constants -/
def rd_St (n d : String) (A : Nat → Prop) (U : State) (H : Heap) : Prop :=
  va_Zq Bundle.tN n d A U H ∧ ∃ (c : ClassId) (k : Class) (i : Nat) (f : Field) (a : Nat) (cell : Cell), U.vm.findClass Bundle.tN = some c ∧ U.fieldFound? Bundle.tN n d = some (c, k, i, f) ∧ f.isStatic = true ∧ k.statics = some a ∧ H[a]? = some cell ∧ cell.vm.isStatics = true ∧ cell.cls = c ∧ f.slot < cell.slots.size ∧ k.staticTypes[f.slot]? = some f.type ∧ ¬ A a
def rd_Th (ss : rd_SS) (A : Nat → Prop) (U : State) (H : Heap) : Prop :=
  rd_St "UNASSIGNED_STACK" Bundle.steD A U H ∧ rd_St "SUPPRESSED_SENTINEL" Bundle.listD A U H ∧ (∀ q ∈ ss.1, ∃ a, vk_R q.1 q.2.1 q.2.2 a U) ∧ (∀ w ∈ ss.2.1, rd_nk w = true ∧ va_Nw w U) ∧ ∀ q ∈ ss.2.2, va_Nc q.1 q.2 U
theorem rd_St.go {n d : String} {A B : Nat → Prop} {u U : State} {H H1 : Heap} (h : rd_St n d A u H) (hq : ∀ a : Nat, a < H.size → ¬ A a → H1[a]? = H[a]?) (hB : ∀ q, B q → A q) (hvm : u.vm.Alike U.vm) : rd_St n d B U H1 := by
  obtain ⟨h0, c, k, i, f, a, cell, h1, h2, h3, h4, h5, h6, h7, h8, h9, h10⟩ := h
  obtain ⟨k', hi', he⟩ := State.fieldFound?_setVm hvm h2
  refine ⟨((h0.kept hq).narrow hB).moved hvm, c, k', i, f, a, cell, by rw [hvm.findClass]; exact h1, hi', h3, by rw [he]; exact h4, ?_, h6, h7, h8, by rw [he]; exact h9, fun z => h10 (hB _ z)⟩
  rw [hq a (Array.getElem?_eq_some_iff.mp h5).1 h10]
  exact h5
def rd_Pre (D : va_G) (cl : List vw_C) (ty : List (ClassId × FieldType)) (L : rd_L) (ad : Nat → Nat) (M : rd_M) (ss : rd_SS) (sz : Nat) (U : State) : Prop :=
  U.heap.size = sz ∧ va_P D cl (rd_ws L ad M) U.heap ∧ va_K D cl ty U ∧ rd_Th ss (rd_A L ad sz) U U.heap
/-- how a method ends -/
def rd_O (D : va_G) (cl : List vw_C) (L : rd_L) (ad : Nat → Nat) (M : rd_M) (A : Nat → Prop) (mc ms : Nat) (post : Option Value → rd_M → Prop) (ex : String → Prop) (st : State) (o : Outcome) (t : State) : Prop :=
  va_F A st t ∧ st.WarmedH t.vm ∧ (∃ Lc, st.sameButNew ({ t with vm := st.vm } : State) Lc mc ms ∧ ∀ z ∈ Lc, A z.base) ∧
    ((∃ (r : Option Value) (M1 : rd_M), o = .returned r ∧ post r M1 ∧ va_P D cl (rd_ws L ad M1) t.heap) ∨
      ∃ (q : Addr) (E : String) (ce : Cell), o = .threw q ∧ ex E ∧ va_P D cl (rd_ws L ad M) t.heap ∧ t.heap[q]? = some ce ∧ ce.vm = .none ∧ st.vm.findClass E = some ce.cls)
/-- rm: frames, locals, cells, slots -/
def rd_Met (l : Launch) (y : MethodName) (cc : ByteArray) (maxL : Nat) (rt : Option FieldType) (rm : Nat × Nat × Nat × Nat) (TT : List Cond) (ss : rd_SS) (D : va_G) (cl : List vw_C) (ty : List (ClassId × FieldType)) (L : rd_L) (ad : Nat → Nat) (M : rd_M) (av : List Value) (post : Option Value → rd_M → Prop) (ex : String → Prop) : Prop :=
  rd_J L ad → ∀ sz, MetFree l y (headSpec (.code y cc maxL rt :: TT) { frames := rm.1, cells := rm.2.2.1, slots := rm.2.2.2, locals := rm.2.1 }) (va_Pc av (rd_Pre D cl ty L ad M ss sz)) (fun _ _ _ _ _ => True) (fun _ st o t => rd_O D cl L ad M (rd_A L ad sz) rm.2.2.1 rm.2.2.2 post ex st o t)
/-- a body's goal -/
def rd_Z (below : List Frame) (O : State → Outcome → State → Prop) (s : State) : State → Prop := fun t => ∃ o, t.status = .running ∧ Ended t below o ∧ O s o t
theorem rd_nw {w : Cond} (hk : rd_nk w = true) {s U : State} (hW : s.WarmedH U.vm) (h : va_Nw w s) : va_Nw w U := by
  cases w <;> first | (simp [rd_nk] at hk; done) | exact va_Nw.warmC hW h | exact va_Nw.warmD hW h
theorem rd_nt {w : Cond} (hk : rd_nk w = true) : w.onTables = true := by
  cases w <;> first | rfl | (simp [rd_nk] at hk; done)
theorem rd_Th.go {ss : rd_SS} {A B : Nat → Prop} {s U : State} {H0 H : Heap} {locs : List Loc} (h : rd_Th ss A s H0) (hS : va_S A H0 H locs) (hB : ∀ q, B q → A q) (hW : s.WarmedH U.vm) : rd_Th ss B U H :=
  ⟨h.1.go hS.2.1 hB hW.alike, h.2.1.go hS.2.1 hB hW.alike, fun q hq => by
    obtain ⟨a, ha⟩ := h.2.2.1 q hq
    exact ⟨a, ha.warm hW⟩, fun w hw => ⟨(h.2.2.2.1 w hw).1, rd_nw (h.2.2.2.1 w hw).1 hW (h.2.2.2.1 w hw).2⟩, fun q hq => va_Nc.moved hW.alike (h.2.2.2.2 q hq)⟩
theorem rd_blind {D : va_G} {cl : List vw_C} {ty : List (ClassId × FieldType)} {L : rd_L} {ad : Nat → Nat} {M : rd_M} {ss : rd_SS} {sz : Nat} {av : List Value} : FrameBlind (va_Pc av (rd_Pre D cl ty L ad M ss sz)) := by
  intro a U g mk q
  obtain ⟨q0, q1, q2, q3, q4, q5, q6, q7, q8⟩ := q
  have hv : U.vm.Alike (U.calling g mk a).vm := Vm.Alike.refl U.vm
  exact ⟨q0, q1, q2, va_K.moved hv q3, q4.go (fun _ _ _ => rfl) (fun _ h => h) hv, q5.go (fun _ _ _ => rfl) (fun _ h => h) hv, fun x hx => by
    obtain ⟨b, hb⟩ := q6 x hx
    exact ⟨b, hb.same (u := U) (U := U.calling g mk a) rfl⟩, fun w hw => ⟨(q7 w hw).1, va_Nw.same (u := U) (U := U.calling g mk a) (rd_nt (q7 w hw).1) rfl (q7 w hw).2⟩, fun x hx => va_Nc.moved hv (q8 x hx)⟩
section RDB
variable {l : Launch} {y : MethodName} {cc : ByteArray} {maxL : Nat} {rt : Option FieldType} {rm : Nat × Nat × Nat × Nat} {TT : List Cond} {ss : rd_SS} {D : va_G} {cl : List vw_C} {ty : List (ClassId × FieldType)} {L : rd_L} {ad : Nat → Nat} {M : rd_M} {av : List Value} {post : Option Value → rd_M → Prop} {ex : String → Prop}
theorem rd_body (hy : plainName y.cls = true) (hav : (lg_sl av).length ≤ maxL)
    (body : ∀ (p : Program) (e : Env) (s : State) (m : MethodId) (below : List Frame) (meth : Method) (c : Code), rd_C p c cc maxL s m av.toArray y.cls TT D cl ty L ad (rd_A L ad s.heap.size) → meth.locks = false → meth.sig.returnType = rt → (∀ x ∈ c.exceptionTable.toList, False) → rd_Th ss (rd_A L ad s.heap.size) s s.heap → rd_W D cl L ad (rd_A L ad s.heap.size) s.heap M s.heap [] → ∀ ls : Array Slot, lv_has ls maxL (lv_args 0 av) →
      W p l e { frames := rm.1, cells := rm.2.2.1, slots := rm.2.2.2, locals := rm.2.1 } s m av.toArray below meth c s.heap [] 0 0 (rd_Z below (rd_O D cl L ad M (rd_A L ad s.heap.size) rm.2.2.1 rm.2.2.2 post ex) s) (F0 m 0 ls [])) : rd_Met l y cc maxL rt rm TT ss D cl ty L ad M av post ex := by
  intro hJ sz
  refine MetFree.of_bodyS (code := cc) (maxLocals := maxL) (ret := rt) hy ?_ ?_
  · intro args s m h hn
    obtain ⟨meth, c, h1, h2, h3, h4, h5, h6, -, -⟩ := Cond.code_spec hn (atoms_spec (ws := Cond.code y cc maxL rt :: TT) h _ List.mem_cons_self)
    exact ⟨meth, c, h1, h2, h3, h4, h5, h6⟩
  intro p e s m args below meth c s₁ B hml hv _
  obtain ⟨rfl, hsz, hP, hK, hTh⟩ := hv
  subst hsz
  have hts : ∀ w ∈ (Cond.code y cc maxL rt :: TT), w.before av.toArray s = true := atoms_spec (ws := Cond.code y cc maxL rt :: TT) B.pre
  have hnt : ∀ x ∈ c.exceptionTable.toList, False := by
    obtain ⟨m9, c9, h1, h2, -, -, -, -, h7, -⟩ := Cond.code_spec B.named (hts _ List.mem_cons_self)
    cases Option.some.inj (h1.symm.trans B.method)
    cases Option.some.inj (h2.symm.trans (Stand.of_body B).code)
    intro x hx
    rw [Array.isEmpty_iff.mp h7] at hx
    cases hx
  have hl := lv_entry av (n := maxL) hav
  have hh : s₁.heap = s.heap := by rw [B.state]; rfl
  have key := body p e s m below meth c ⟨⟨B.exec, B.bytes, hml, findClass_of_methodNamed B.named, fun w h => hts w (List.mem_cons_of_mem _ h)⟩, hK, hJ, fun k hk => Or.inl ⟨k, hk, rfl⟩, fun q h => Or.inr h⟩ B.notSynchronized B.returns hnt hTh ⟨hP, va_S.rf⟩ _ hl
  rw [← lg_entry_eq] at key
  obtain ⟨t, a1, o, b1, b2, b3⟩ := key s₁ hh (Stand.of_body B)
  exact ⟨t, o, a1, b1, b2, b3⟩
end RDB
section RDR
variable {p : Program} {l : Launch} {e : Env} {R : Room} {s : State} {m : MethodId} {args : Array Value} {below : List Frame} {meth : Method} {c : Code} {H : Heap} {locs : List Loc} {cells slots : Nat} {Q : State → Prop}
variable {cc : ByteArray} {nL : Nat} {own : String} {TT : List Cond} {D : va_G} {cl : List vw_C} {ty : List (ClassId × FieldType)} {L : rd_L} {ad : Nat → Nat} {A : Nat → Prop} {M M0 : rd_M} {pc : Nat} {ls : Array Slot} {rest : List Value}
variable {post : Option Value → rd_M → Prop} {ex : String → Prop} {mc ms : Nat}
/-- the end of a method that has come to a return: MQ with these words is a body's goal -/
theorem rd_fin {g : JFrame} {r : Option Value} (k : W p l e R s m args below meth c H locs mc ms (MQ below (fun _ st o t => o = .returned r ∧ va_F A st t ∧ post r M ∧ va_P D cl (rd_ws L ad M) t.heap) args s mc ms A) g) : W p l e R s m args below meth c H locs mc ms (rd_Z below (rd_O D cl L ad M0 A mc ms post ex) s) g := by
  intro T hT X
  obtain ⟨t, a1, o, b1, b2, ⟨b3, b4, b5, b6⟩, Lc, ⟨-, b7, b8⟩, b9⟩ := k T hT X
  exact ⟨t, a1, o, b1, b2, b4, b7, ⟨Lc, b8, b9⟩, Or.inl ⟨r, M, b3, b5, b6⟩⟩
theorem rd_iret (C9 : rd_C p c cc nL s m args own TT D cl ty L ad A) (hlk : meth.locks = false) (hr : meth.sig.returnType = some .int) (hW : rd_W D cl L ad A s.heap M H locs) {v : Int32} (hp : post (some (.int v)) M) (hc : cells ≤ mc) (hs : slots ≤ ms) (hdg : decode cc pc = .ok (.ireturn, 1)) :
    W p l e R s m args below meth c H locs cells slots (rd_Z below (rd_O D cl L ad M0 A mc ms post ex) s) (F0 m pc ls [.int v]) :=
  W.widen hc hs (rd_fin (W.iret C9.1.1 C9.1.2.1 hr (fun t ht _ => ⟨rfl, hW.2.F ht, hp, by rw [ht]; exact hW.1⟩) hW.2.2.2 hdg hlk))
theorem rd_zret (C9 : rd_C p c cc nL s m args own TT D cl ty L ad A) (hlk : meth.locks = false) (hr : meth.sig.returnType = some .boolean) (hW : rd_W D cl L ad A s.heap M H locs) {v : Int32} (hv : v = 0 ∨ v = 1) (hp : post (some (.int v)) M) (hc : cells ≤ mc) (hs : slots ≤ ms) (hdg : decode cc pc = .ok (.ireturn, 1)) :
    W p l e R s m args below meth c H locs cells slots (rd_Z below (rd_O D cl L ad M0 A mc ms post ex) s) (F0 m pc ls [.int v]) :=
  W.widen hc hs (rd_fin (W.zret C9.1.1 C9.1.2.1 hr (by rcases hv with rfl | rfl <;> rfl) (fun t ht _ => ⟨rfl, hW.2.F ht, hp, by rw [ht]; exact hW.1⟩) hW.2.2.2 hdg hlk))
theorem rd_vret (C9 : rd_C p c cc nL s m args own TT D cl ty L ad A) (hlk : meth.locks = false) (hr : meth.sig.returnType = none) (hW : rd_W D cl L ad A s.heap M H locs) (hp : post none M) (hc : cells ≤ mc) (hs : slots ≤ ms) (hdg : decode cc pc = .ok (.return_, 1)) :
    W p l e R s m args below meth c H locs cells slots (rd_Z below (rd_O D cl L ad M0 A mc ms post ex) s) (F0 m pc ls []) :=
  W.widen hc hs (rd_fin (W.vret C9.1.1 C9.1.2.1 hr (fun t ht _ => ⟨rfl, hW.2.F ht, hp, by rw [ht]; exact hW.1⟩) hW.2.2.2 hdg hlk))
theorem rd_lret (C9 : rd_C p c cc nL s m args own TT D cl ty L ad A) (hlk : meth.locks = false) (hr : meth.sig.returnType = some .long) (hW : rd_W D cl L ad A s.heap M H locs) {v : Int64} (hp : post (some (.long v)) M) (hc : cells ≤ mc) (hs : slots ≤ ms) (hdg : decode cc pc = .ok (.lreturn, 1)) :
    W p l e R s m args below meth c H locs cells slots (rd_Z below (rd_O D cl L ad M0 A mc ms post ex) s) (F0 m pc ls [.long v]) :=
  W.widen hc hs (rd_fin (W.lret C9.1.1 C9.1.2.1 hr (fun t ht _ => ⟨rfl, hW.2.F ht, hp, by rw [ht]; exact hW.1⟩) hW.2.2.2 hdg hlk))
theorem rd_dret (C9 : rd_C p c cc nL s m args own TT D cl ty L ad A) (hlk : meth.locks = false) (hr : meth.sig.returnType = some .double) (hW : rd_W D cl L ad A s.heap M H locs) {v : UInt64} (hp : post (some (.double v)) M) (hc : cells ≤ mc) (hs : slots ≤ ms) (hdg : decode cc pc = .ok (.dreturn, 1)) :
    W p l e R s m args below meth c H locs cells slots (rd_Z below (rd_O D cl L ad M0 A mc ms post ex) s) (F0 m pc ls [.double v]) :=
  W.widen hc hs (rd_fin (W.dret C9.1.1 C9.1.2.1 hr (fun t ht _ => ⟨rfl, hW.2.F ht, hp, by rw [ht]; exact hW.1⟩) hW.2.2.2 hdg hlk))
theorem rd_aret (C9 : rd_C p c cc nL s m args own TT D cl ty L ad A) (hlk : meth.locks = false) {nm : String} (hr : meth.sig.returnType = some (.object nm)) (hW : rd_W D cl L ad A s.heap M H locs) {a : Nat} (hp : post (some (.ref a)) M) (hc : cells ≤ mc) (hs : slots ≤ ms) (hdg : decode cc pc = .ok (.areturn, 1)) :
    W p l e R s m args below meth c H locs cells slots (rd_Z below (rd_O D cl L ad M0 A mc ms post ex) s) (F0 m pc ls [.ref a]) :=
  W.widen hc hs (rd_fin (W.aret C9.1.1 C9.1.2.1 hr (Or.inl ⟨_, rfl⟩) (Or.inr ⟨_, rfl⟩) (fun t ht _ => ⟨rfl, hW.2.F ht, hp, by rw [ht]; exact hW.1⟩) hW.2.2.2 hdg hlk))
/-- the frame g, with q thrown over it, comes to a state with Q -/
def rd_Tw (p : Program) (l : Launch) (e : Env) (R : Room) (s : State) (m : MethodId) (args : Array Value) (below : List Frame) (meth : Method) (c : Code) (H : Heap) (locs : List Loc) (cells slots : Nat) (Q : State → Prop) (g : JFrame) (q : Addr) : Prop :=
  ∀ T : State, T.heap = H → Stand p l e R s m args below meth c T locs cells slots → ∃ t, Steps p.tables e below ((T.setTop g).pushFrame (.throwing q)) t ∧ Q t
/-- thrown by a callee, and no row of this method's table: on to the caller -/
theorem rd_out {E : String} {ce : Cell} {q : Addr} (hnt : ∀ x ∈ c.exceptionTable.toList, False) (hlk : meth.locks = false) (hW : rd_W D cl L ad A s.heap M H locs) (hex : ex E) (hcell : H[q]? = some ce) (hv : ce.vm = .none) (hcl : s.vm.findClass E = some ce.cls) (hc : cells ≤ mc) (hs : slots ≤ ms) :
    rd_Tw p l e R s m args below meth c H locs cells slots (rd_Z below (rd_O D cl L ad M A mc ms post ex) s) (F0 m pc ls rest) q := by
  intro T hT X
  obtain ⟨h1, h2, h3, h4, h5⟩ := X.leaveThrown q (g := F0 m pc ls rest) rfl rfl rfl (fun x hx => (hnt x hx).elim) hlk
  exact ⟨_, h1, .threw q, h2, h3, hW.2.F hT, h4, ⟨locs, h5.mono hc hs, hW.2.2.2⟩, Or.inr ⟨q, E, ce, rfl, hex, by show va_P D cl (rd_ws L ad M) T.heap; rw [hT]; exact hW.1, by show T.heap[q]? = some ce; rw [hT]; exact hcell, hv, hcl⟩⟩
end RDR
end
section
/-! calls: a callee by its contract returns or throws -/
section RDK
variable {p : Program} {l : Launch} {e : Env} {R : Room} {s : State} {m : MethodId} {args : Array Value} {below : List Frame} {meth : Method} {c : Code}
/-- a callee's own state, seen as the caller's with another heap and other tables -/
theorem rd_same {U t : State} {Ls : List Loc} {c0 s0 : Nat} (X : Stand p l e R s m args below meth c U Ls c0 s0) {g : JFrame} {mk : MethodId} {a : Array Value} {Lc : List Loc} {mc ms : Nat} (hW : U.WarmedH t.vm) (hsm : (U.calling g mk a).sameButNew ({ t with vm := (U.calling g mk a).vm } : State) Lc mc ms) :
    Stand p l e R s m args below meth c (({ U with heap := t.heap, slotsUsed := t.slotsUsed } : State).setVm t.vm) (Ls ++ Lc) (c0 + mc) (s0 + ms) ∧ t = (({ U with heap := t.heap, slotsUsed := t.slotsUsed } : State).setVm t.vm).setFrames t.frames := by
  obtain ⟨e2, q2, q3, q4, q5, q6⟩ := id hsm
  obtain ⟨g₀, hg0⟩ := Option.isSome_iff_exists.mp X.here.top
  obtain ⟨r, hr⟩ := State.topJava?_eq_some.mp hg0
  constructor
  · have hsame : U.sameButNew ({ U with heap := t.heap, slotsUsed := t.slotsUsed } : State) Lc mc ms := by
      refine ⟨?_, q2, q3, q4, q5, q6⟩
      obtain ⟨th, hth, -⟩ := State.frames_cons hr
      show ({ U with heap := t.heap, slotsUsed := t.slotsUsed } : State) = { U.setFrames U.frames with heap := t.heap, slotsUsed := t.slotsUsed }
      rw [State.setFrames_self hth]
    exact ⟨X.admits, X.cas, X.clock, X.frames, X.room, X.hears, X.method, X.code, (X.here.setHeapUsed t.heap t.slotsUsed).setVm hW.alike, X.tail, State.WarmedH.trans X.warmed hW, X.limits, X.bytes, X.same.trans (hsame.setVm s.vm)⟩
  · have e3 : t = ({ (U.calling g mk a).setFrames t.frames with heap := t.heap, slotsUsed := t.slotsUsed } : State).setVm t.vm := by
      have h : t = ({ t with vm := (U.calling g mk a).vm } : State).setVm t.vm := rfl
      rw [e2] at h
      exact h
    refine e3.trans ?_
    rw [State.calling_eq X.here.top, State.setFrames_setFrames]
    rfl
/-- from 'doInvoke' of a callee on: it comes back behind the instruction, or q is thrown over g -/
theorem rd_core {y : MethodName} {ws : List Cond} {rm : Room} {Pc : Array Value → State → Prop} {O : State → Outcome → State → Prop} {bytes : ByteArray} {maxL : Nat} {ret : Option FieldType}
    (hM : MetFree l y (headSpec ws rm) Pc (fun _ _ _ _ _ => True) (fun _ st o t => O st o t)) (hbl : FrameBlind Pc)
    (hO : ∀ st o t, O st o t → st.WarmedH t.vm ∧ (∃ Lc, st.sameButNew ({ t with vm := st.vm } : State) Lc rm.cells rm.slots) ∧ ((∃ v, o = .returned v) ∨ ∃ q, o = .threw q))
    (hfr : rm.frames + 1 ≤ R.frames) (hlo : 8 + (maxL + 11) + rm.locals ≤ R.locals)
    (hws : ∀ w ∈ ws, ∀ (a : Array Value) (U : State), s.WarmedH U.vm → w.before a U = true) (hcode : Cond.code y bytes maxL ret ∈ ws) (hini : ∀ (a : Array Value) (U : State), s.WarmedH U.vm → (Cond.initialized y.cls).before a U = true)
    {U : State} {Ls : List Loc} {c0 s0 : Nat} (X : Stand p l e R s m args below meth c U Ls c0 s0) {g : JFrame} (hg : g.method = m) (hsize : g.locals.size = c.maxLocals) {ig : Instr} (hdg : decode c.code g.pc = .ok (ig, 3)) (h8 : 2 * g.monitorRoom + (g.stack.map fun v => v.category).sum ≤ 8)
    {mk : MethodId} (hn : U.methodNamed? y = some mk) {a : Array Value} (hP : Pc a U) (hc : c0 + rm.cells ≤ R.cells) (hs : s0 + rm.slots ≤ R.slots) :
    ∃ (o : Outcome) (t T' : State), O (U.calling g mk a) o t ∧ T'.heap = t.heap ∧ T'.vm = t.vm ∧ (∀ Lc, (U.calling g mk a).sameButNew ({ t with vm := (U.calling g mk a).vm } : State) Lc rm.cells rm.slots → Stand p l e R s m args below meth c T' (Ls ++ Lc) (c0 + rm.cells) (s0 + rm.slots)) ∧
      (∀ v, o = .returned v → Steps p.tables e below (doInvoke e (U.setTop g) [] mk a).1 (T'.setTop { g with pc := g.pc + 3, stack := v.toList ++ g.stack })) ∧
      (∀ q, o = .threw q → Steps p.tables e below (doInvoke e (U.setTop g) [] mk a).1 ((T'.setTop g).pushFrame (.throwing q))) := by
  have h2 : (Cond.code y bytes maxL ret).before a U = true := hws _ hcode _ _ X.warmed
  obtain ⟨methY, cY, hmY, hcY, -, hlY, -, -, -, -⟩ := Cond.code_spec hn h2
  obtain ⟨kY, hkY, -⟩ := className_of_methodNamed hn
  have hinitY : kY.init = .initialized := Cond.initialized_spec (findClass_of_methodNamed hn) hkY (hini a U X.warmed)
  have h : At U g.method c below := by rw [hg]; exact X.here
  have happ : (headSpec ws rm).appliesLoose y e.platform (U.calling g mk a) = true :=
    Spec.appliesLoose_calling (g := g) h hdg hn hkY hinitY
      (X.room_calling (g := g) (R' := rm) hsize hmY hcY hfr (by rw [hlY]; omega) hc hs) (atoms_intro fun w hw => hws w hw _ _ X.warmed)
  obtain ⟨mid, hmid⟩ := h.above
  have hf : (U.setTop g).frames = (.java g :: mid) ++ below := by rw [State.frames_setTop' g h.top, hmid]; rfl
  obtain ⟨o, t, hsteps, -, hend, hq⟩ := Steps.callFree hM p X.admits X.cas X.clock (acts := []) hf happ (hbl _ _ _ _ hP) trivial
  rw [State.frames_setTop' g h.top] at hend
  have hq' : O (U.calling g mk a) o t := hq
  obtain ⟨hW, ⟨Lc, hsm⟩, -⟩ := hO _ _ _ hq'
  have hW' : U.WarmedH t.vm := hW
  obtain ⟨-, et⟩ := rd_same X hW' hsm
  obtain ⟨g₀, hg0⟩ := Option.isSome_iff_exists.mp h.top
  obtain ⟨r, hr⟩ := State.topJava?_eq_some.mp hg0
  have hr' : (({ U with heap := t.heap, slotsUsed := t.slotsUsed } : State).setVm t.vm).frames = .java g₀ :: r := hr
  refine ⟨o, t, ({ U with heap := t.heap, slotsUsed := t.slotsUsed } : State).setVm t.vm, hq', rfl, rfl, fun Lc h9 => (rd_same X hW' h9).1, ?_, ?_⟩
  · intro v ho
    subst ho
    obtain ⟨c₂, i₂, len₂, hc₂, hd₂, hf₂⟩ := hend
    have hcc : c₂ = c := by
      have h1 : t.code? g.method = U.code? g.method := by
        rw [State.code?_eq, State.code?_eq, hW'.alike.method?]
      exact Option.some.inj (hc₂.symm.trans (h1.trans h.code))
    subst hcc
    have hlen : len₂ = 3 := by rw [hdg] at hd₂; cases hd₂; rfl
    subst hlen
    have e9 : t = (({ U with heap := t.heap, slotsUsed := t.slotsUsed } : State).setVm t.vm).setTop { g with pc := g.pc + 3, stack := v.toList ++ g.stack } := by
      refine et.trans ?_
      rw [hf₂, State.setTop_of_frames _ hr', hr]
      rfl
    rw [← e9]
    exact hsteps
  · intro q ho
    subst ho
    have hf₂ : t.frames = .throwing q :: .java g :: U.frames.tail := hend
    have e9 : t = ((({ U with heap := t.heap, slotsUsed := t.slotsUsed } : State).setVm t.vm).setTop g).pushFrame (.throwing q) := by
      refine et.trans ?_
      rw [hf₂, State.pushFrame, State.frames_setTop _ hr', State.setTop_of_frames _ hr', State.setFrames_setFrames, hr]
      rfl
    rw [← e9]
    exact hsteps
end RDK
end
section
/-! a call is one row: two goals, behind a return and behind a throw -/
/-- what the tables say of a callee -/
def rd_Cal (TT : List Cond) (y : MethodName) (bytes : ByteArray) (maxL : Nat) (rt : Option FieldType) (n : Nat) : Prop :=
  Cond.code y bytes maxL rt ∈ TT ∧ Cond.initialized y.cls ∈ TT ∧ (y.cls ≠ "java/lang/invoke/MethodHandle" ∧ y.cls ≠ "java/lang/invoke/VarHandle") ∧ (parseMethodDescriptor y.desc).map (fun d => d.parameters.length) = some n
section RDC
variable {p : Program} {l : Launch} {e : Env} {R : Room} {s : State} {m : MethodId} {args : Array Value} {below : List Frame} {meth : Method} {c : Code} {H : Heap} {locs : List Loc} {cells slots : Nat} {Q : State → Prop}
variable {cc bytes : ByteArray} {nL maxL n index : Nat} {rt : Option FieldType} {rm : Nat × Nat × Nat × Nat} {own : String} {TT : List Cond} {ss : rd_SS} {D : va_G} {cl : List vw_C} {ty : List (ClassId × FieldType)} {L : rd_L} {ad : Nat → Nat} {A : Nat → Prop} {M : rd_M} {pc : Nat} {ls : Array Slot} {st rest As : List Value} {y : MethodName}
variable {post : Option Value → rd_M → Prop} {ex : String → Prop}
theorem rd_pays (hg : TT.all goodWord = true) (hts : ∀ w ∈ TT, w.before args s = true) (hc : Cond.code y bytes maxL rt ∈ TT) : ∀ w ∈ (Cond.code y bytes maxL rt :: TT), ∀ (a : Array Value) (U : State), s.WarmedH U.vm → w.before a U = true := by
  refine pay_in hts fun w hw => ?_
  have h1 : w ∈ TT := by
    rcases List.mem_cons.mp hw with h | h
    · rw [h]; exact hc
    · exact h
  exact ⟨h1, good_of_word (List.all_eq_true.mp hg w h1)⟩
theorem rd_pre (C9 : rd_C p c cc nL s m args own TT D cl ty L ad A) (hTh : rd_Th ss A s s.heap) (hW : rd_W D cl L ad A s.heap M H locs) {U : State} (hU : U.heap = H) (hWm : s.WarmedH U.vm) : rd_Pre D cl ty L ad M ss H.size U := by
  obtain ⟨-, hK, -, hA, hA2⟩ := C9
  refine ⟨by rw [hU], by rw [hU]; exact hW.1, va_K.moved hWm.alike hK, ?_⟩
  rw [hU]
  refine rd_Th.go hTh hW.2 (fun q h => ?_) hWm
  rcases h with ⟨k, hk, rfl⟩ | h
  · exact hA k hk
  · exact hA2 q (Nat.le_trans hW.2.1 h)
theorem rd_OW {A1 : Nat → Prop} {mc ms : Nat} {st1 t : State} {o : Outcome} (h : rd_O D cl L ad M A1 mc ms post ex st1 o t) : st1.WarmedH t.vm ∧ (∃ Lc, st1.sameButNew ({ t with vm := st1.vm } : State) Lc mc ms) ∧ ((∃ v, o = .returned v) ∨ ∃ q, o = .threw q) := by
  obtain ⟨-, h1, ⟨Lc, h2, -⟩, h3⟩ := h
  refine ⟨h1, ⟨Lc, h2⟩, ?_⟩
  rcases h3 with ⟨r, -, e1, -⟩ | ⟨q, -, -, e1, -⟩
  · exact Or.inl ⟨r, e1⟩
  · exact Or.inr ⟨q, e1⟩
/-- behind a call: the two ways on -/
theorem rd_on (C9 : rd_C p c cc nL s m args own TT D cl ty L ad A) (hW : rd_W D cl L ad A s.heap M H locs) {mc ms : Nat} {T U : State} {g : JFrame} {mk : MethodId} {a : Array Value} {gb : JFrame}
    (hU : U.heap = H) (hUvm : s.vm.Alike U.vm) (hcl : ∀ E k, U.vm.findClass E = some k → s.vm.findClass E = some k)
    (hgo : ∀ target, Steps p.tables e below (doInvoke e (U.setTop gb) [] mk a).1 target → Steps p.tables e below (T.setTop g) target)
    (core : ∃ (o : Outcome) (t T' : State), rd_O D cl L ad M (rd_A L ad H.size) mc ms post ex (U.calling gb mk a) o t ∧ T'.heap = t.heap ∧ T'.vm = t.vm ∧ (∀ Lc, (U.calling gb mk a).sameButNew ({ t with vm := (U.calling gb mk a).vm } : State) Lc mc ms → Stand p l e R s m args below meth c T' (locs ++ Lc) (cells + mc) (slots + ms)) ∧
      (∀ v, o = .returned v → Steps p.tables e below (doInvoke e (U.setTop gb) [] mk a).1 (T'.setTop { gb with pc := gb.pc + 3, stack := v.toList ++ gb.stack })) ∧
      (∀ q, o = .threw q → Steps p.tables e below (doInvoke e (U.setTop gb) [] mk a).1 ((T'.setTop gb).pushFrame (.throwing q))))
    (kx : ∀ (E : String) (ce : Cell) (q9 : Addr) (H1 : Heap) (locs1 : List Loc), ex E → rd_W D cl L ad A s.heap M H1 locs1 → H1[q9]? = some ce → ce.vm = .none → s.vm.findClass E = some ce.cls → rd_Tw p l e R s m args below meth c H1 locs1 (cells + mc) (slots + ms) Q gb q9)
    (kk : ∀ (r : Option Value) (M1 : rd_M) (H1 : Heap) (locs1 : List Loc), post r M1 → rd_W D cl L ad A s.heap M1 H1 locs1 → W p l e R s m args below meth c H1 locs1 (cells + mc) (slots + ms) Q { gb with pc := gb.pc + 3, stack := r.toList ++ gb.stack }) : ∃ t, Steps p.tables e below (T.setTop g) t ∧ Q t := by
  obtain ⟨-, -, -, hA, hA2⟩ := C9
  have hf : ∀ q, rd_A L ad H.size q → A q := by
    intro q h
    rcases h with ⟨k, hk, rfl⟩ | h
    · exact hA k hk
    · exact hA2 q (Nat.le_trans hW.2.1 h)
  obtain ⟨o, t, T', ⟨hF, -, ⟨Lc, hsm, hL⟩, hend⟩, e1, e2, hst, hret, hthr⟩ := core
  have hF1 : H.size ≤ t.heap.size := by have h9 := hF.1; rw [show (U.calling gb mk a).heap = H from hU] at h9; exact h9
  have hF2 : ∀ q : Nat, q < H.size → ¬ rd_A L ad H.size q → t.heap[q]? = H[q]? := by have h9 := hF.2; rw [show (U.calling gb mk a).heap = H from hU] at h9; exact h9
  have hS : va_S A s.heap T'.heap (locs ++ Lc) := by
    rw [e1]
    refine ⟨Nat.le_trans hW.2.1 hF1, fun q h1 h2 => ?_, fun q hq => ?_⟩
    · rw [hF2 q (Nat.lt_of_lt_of_le h1 hW.2.1) (fun z => h2 (hf q z))]
      exact hW.2.2.1 q h1 h2
    · rcases List.mem_append.mp hq with h | h
      · exact hW.2.2.2 q h
      · exact hf _ (hL q h)
  rcases hend with ⟨r, M1, rfl, hp, hP1⟩ | ⟨q, E, ce, rfl, hex, hP1, hce, hcv, hcl1⟩
  · obtain ⟨t2, a1, b1⟩ := kk r M1 T'.heap (locs ++ Lc) hp ⟨by rw [e1]; exact hP1, hS⟩ T' rfl (hst Lc hsm)
    exact ⟨t2, hgo _ ((hret r rfl).trans a1), b1⟩
  · obtain ⟨t2, a1, b1⟩ := kx E ce q T'.heap (locs ++ Lc) hex ⟨by rw [e1]; exact hP1, hS⟩ (by rw [e1]; exact hce) hcv (hcl _ _ hcl1) T' rfl (hst Lc hsm)
    exact ⟨t2, hgo _ ((hthr q rfl).trans a1), b1⟩
theorem rd_callV (hg : TT.all goodWord = true) (C9 : rd_C p c cc nL s m args own TT D cl ty L ad A) (hTh : rd_Th ss A s s.heap) (hW : rd_W D cl L ad A s.heap M H locs) {k : Nat} (hM : rd_Met l y bytes maxL rt rm TT ss D cl ty L ad M (.ref (ad k) :: As) post ex) (kc : rd_Cal TT y bytes maxL rt n) (ki : Cond.instanceMethod y ∈ TT) (ks : Cond.selects y.cls y y ∈ TT) (hl : Cond.methodLink own index y ∈ TT) (hn : As.length = n)
    (hk : k < L.1) {ci : Nat} {fs : List Value} (he : L.2 ad k (M k) = .inr (ci, fs)) {T : u_T} {N : Nat} (hc : cl[ci]? = some (y.cls, T, N)) (hR : rm.1 + 1 ≤ R.frames ∧ 8 + (maxL + 11) + rm.2.1 ≤ R.locals) (hf : cells + rm.2.2.1 ≤ R.cells ∧ slots + rm.2.2.2 ≤ R.slots) (hsz : ls.size = nL) (hst : st = As.reverse ++ .ref (ad k) :: rest) (hr8 : (rest.map fun v => v.category).sum ≤ 8) (hdg : decode cc pc = .ok (.invokevirtual index, 3))
    (kx : ∀ (E : String) (ce : Cell) (q9 : Addr) (H1 : Heap) (locs1 : List Loc), ex E → rd_W D cl L ad A s.heap M H1 locs1 → H1[q9]? = some ce → ce.vm = .none → s.vm.findClass E = some ce.cls → rd_Tw p l e R s m args below meth c H1 locs1 (cells + rm.2.2.1) (slots + rm.2.2.2) Q (F0 m pc ls rest) q9)
    (kk : ∀ (r : Option Value) (M1 : rd_M) (H1 : Heap) (locs1 : List Loc), post r M1 → rd_W D cl L ad A s.heap M1 H1 locs1 → W p l e R s m args below meth c H1 locs1 (cells + rm.2.2.1) (slots + rm.2.2.2) Q (F0 m (pc + 3) ls (r.toList ++ rest))) : W p l e R s m args below meth c H locs cells slots Q (F0 m pc ls st) := by
  obtain ⟨hx, hb, hml, hown, hts⟩ := C9.1
  intro T9 hT X
  obtain ⟨mk, methM, hnamed, hmethM, hstM, habM⟩ := Cond.instanceMethod_spec (hts _ ki)
  obtain ⟨methM', cM, hmethM', -, -, -, -, -, -, hsigM⟩ := Cond.code_spec hnamed (hts _ kc.1)
  cases hmethM.symm.trans hmethM'
  obtain ⟨c2, r2, m2, q1, q2, q3, q4, kP, hkP, hkPi⟩ := Cond.selects_spec (hts _ ks)
  obtain ⟨cellB, hcB, hoB, hclB⟩ := va_recv C9.2.1 hW.1 (ci := ci) (q0 := k) hc (by rw [rd_at hk, he])
  cases hclB.symm.trans q1
  cases (State.methodFound?_of_named hnamed kc.2.2.1).symm.trans q2
  cases hnamed.symm.trans q3
  have hselP : selectMethod e.platform s.vm cellB.cls mk = .method mk := by rw [Launch.admits_selectMethod X.admits]; exact q4
  have hlen : As.length = methM.sig.parameters.length := by
    have h9 := kc.2.2.2
    rw [hsigM] at h9
    exact hn.trans (Option.some.inj h9).symm
  obtain ⟨vm₁, X₁, hstep₁⟩ := X.invokevirtual hx hown (hts _ hl) hnamed hmethM hstM hkP hkPi kc.2.2.1 (a := ad k) (cell := cellB) (by rw [hT]; exact hcB)
    (fun z h => by rw [h] at hoB; cases hoB) hselP hmethM habM hkP hkPi (g := F0 m pc ls st) rfl (argsL := As) (rest := rest) hlen hst (by rw [hb]; exact hdg)
  refine rd_on C9 hW (U := T9.setVm vm₁) (gb := F0 m pc ls rest) (mk := mk) (a := (Value.ref (ad k) :: As).toArray) hT X₁.warmed.alike (fun E k h => by rw [← X₁.warmed.alike.findClass]; exact h) (fun target h => hstep₁ _ fun acts => by rw [doInvoke_state]; exact h) ?_ kx kk
  exact rd_core (hM C9.2.2.1 H.size) rd_blind (fun _ _ _ h => rd_OW h) hR.1 hR.2 (rd_pays hg hts kc.1) List.mem_cons_self (fun a U h => pay_in hts (fun w hw => ⟨hw, good_of_word (List.all_eq_true.mp hg w hw)⟩) _ kc.2.1 a U h) X₁ (g := F0 m pc ls rest) rfl (hsz.trans hml.symm) (ig := .invokevirtual index) (by rw [hb]; exact hdg) (lv_room hr8) (X₁.named hnamed) ⟨rfl, rd_pre C9 hTh hW hT X₁.warmed⟩ hf.1 hf.2
theorem rd_callS (hg : TT.all goodWord = true) (C9 : rd_C p c cc nL s m args own TT D cl ty L ad A) (hTh : rd_Th ss A s s.heap) (hW : rd_W D cl L ad A s.heap M H locs) (hM : rd_Met l y bytes maxL rt rm TT ss D cl ty L ad M As post ex) (kc : rd_Cal TT y bytes maxL rt n) (ki : Cond.static y ∈ TT) (hl : Cond.methodLink own index y ∈ TT) (hn : As.length = n)
    (hR : rm.1 + 1 ≤ R.frames ∧ 8 + (maxL + 11) + rm.2.1 ≤ R.locals) (hf : cells + rm.2.2.1 ≤ R.cells ∧ slots + rm.2.2.2 ≤ R.slots) (hsz : ls.size = nL) (hst : st = As.reverse ++ rest) (hr8 : (rest.map fun v => v.category).sum ≤ 8) (hdg : decode cc pc = .ok (.invokestatic index, 3))
    (kx : ∀ (E : String) (ce : Cell) (q9 : Addr) (H1 : Heap) (locs1 : List Loc), ex E → rd_W D cl L ad A s.heap M H1 locs1 → H1[q9]? = some ce → ce.vm = .none → s.vm.findClass E = some ce.cls → rd_Tw p l e R s m args below meth c H1 locs1 (cells + rm.2.2.1) (slots + rm.2.2.2) Q (F0 m pc ls rest) q9)
    (kk : ∀ (r : Option Value) (M1 : rd_M) (H1 : Heap) (locs1 : List Loc), post r M1 → rd_W D cl L ad A s.heap M1 H1 locs1 → W p l e R s m args below meth c H1 locs1 (cells + rm.2.2.1) (slots + rm.2.2.2) Q (F0 m (pc + 3) ls (r.toList ++ rest))) : W p l e R s m args below meth c H locs cells slots Q (F0 m pc ls st) := by
  obtain ⟨hx, hb, hml, hown, hts⟩ := C9.1
  intro T9 hT X
  obtain ⟨mk, hnamed⟩ := Cond.code_named (hts _ kc.1)
  obtain ⟨methM, cM, hmethM, -, -, -, -, -, -, hsigM⟩ := Cond.code_spec hnamed (hts _ kc.1)
  have hstatic : methM.isStatic = true := Cond.static_spec hnamed hmethM (hts _ ki)
  obtain ⟨kP, hkP, -⟩ := className_of_methodNamed hnamed
  have hinitP : kP.init = .initialized := Cond.initialized_spec (findClass_of_methodNamed hnamed) hkP (hts _ kc.2.1)
  have hlen : As.length = methM.sig.parameters.length := by
    have h9 := kc.2.2.2
    rw [hsigM] at h9
    exact hn.trans (Option.some.inj h9).symm
  obtain ⟨vm₁, X₁, hstep₁⟩ := X.invokestatic hx hown (hts _ hl) hnamed hmethM hstatic hkP hinitP kc.2.2.1 (g := F0 m pc ls st) rfl (argsL := As) (rest := rest) hlen hst (by rw [hb]; exact hdg)
  refine rd_on C9 hW (U := T9.setVm vm₁) (gb := F0 m pc ls rest) (mk := mk) (a := As.toArray) hT X₁.warmed.alike (fun E k h => by rw [← X₁.warmed.alike.findClass]; exact h) (fun target h => hstep₁ _ fun acts => by rw [doInvoke_state]; exact h) ?_ kx kk
  exact rd_core (hM C9.2.2.1 H.size) rd_blind (fun _ _ _ h => rd_OW h) hR.1 hR.2 (rd_pays hg hts kc.1) List.mem_cons_self (fun a U h => pay_in hts (fun w hw => ⟨hw, good_of_word (List.all_eq_true.mp hg w hw)⟩) _ kc.2.1 a U h) X₁ (g := F0 m pc ls rest) rfl (hsz.trans hml.symm) (ig := .invokestatic index) (by rw [hb]; exact hdg) (lv_room hr8) (X₁.named hnamed) ⟨rfl, rd_pre C9 hTh hW hT X₁.warmed⟩ hf.1 hf.2
end RDC
end
section
/-! 'throw new E("text")' -/
section RDT
variable {p : Program} {l : Launch} {e : Env} {R : Room} {s : State} {m : MethodId} {args : Array Value} {below : List Frame} {meth : Method} {c : Code} {H : Heap} {locs : List Loc} {cells slots : Nat}
variable {cc : ByteArray} {nL : Nat} {own : String} {TT : List Cond} {ss : rd_SS} {D : va_G} {cl : List vw_C} {ty : List (ClassId × FieldType)} {L : rd_L} {ad : Nat → Nat} {A : Nat → Prop} {M : rd_M} {pc : Nat} {ls : Array Slot} {rest : List Value}
variable {post : Option Value → rd_M → Prop} {ex : String → Prop} {mc ms : Nat}
/-- from here on, as if the invocation began in this heap: nothing written yet, nothing made yet -/
theorem rd_anew {T : State} (X : Stand p l e R s m args below meth c T locs cells slots) {k n : Nat} (hc : cells + k ≤ R.cells) (hs : slots + n ≤ R.slots) :
    Stand p l e { frames := R.frames, locals := R.locals, cells := k, slots := n } ((T.setVm s.vm).setFrames (.invoking m args :: below)) m args below meth c T [] 0 0 := by
  have ht : (T.setVm s.vm).topJava?.isSome := X.here.top
  have hfr : ((T.setVm s.vm).setFrames (.invoking m args :: below)).frames = .invoking m args :: below := State.frames_setFrames _ (State.cur_lt_of_top ht)
  obtain ⟨g0, hg0⟩ := Option.isSome_iff_exists.mp ht
  obtain ⟨fr, hfr0⟩ := State.topJava?_eq_some.mp hg0
  have nodrop : (T.heap.toList.drop T.heap.size).map (·.slots.size) = [] := by
    rw [List.drop_eq_nil_of_le (Nat.le_of_eq Array.length_toList)]; rfl
  refine ⟨X.admits, X.cas, X.clock, hfr, ?_, X.hears, X.method, X.code, X.here, X.tail, X.warmed, by rw [State.stackLimits_setFrames]; rfl, by rw [State.stackBytes_setFrames]; rfl, ?_⟩
  · have old := X.room
    have hz := X.heapSize
    have hu := X.used
    have hl9 : e.platform.stackLimits (T.setVm s.vm).me = e.platform.stackLimits s.me := X.limits
    have hb9 : (T.setVm s.vm).me.stackBytes = s.me.stackBytes := X.bytes
    have hloc : ((T.setVm s.vm).setFrames (.invoking m args :: below)).localsInUse = s.localsInUse := by
      rw [State.localsInUse_invoking hfr (meth := meth) (c := c) X.method X.code, State.localsInUse_invoking X.frames X.method X.code]
    simp only [State.hasRoom, Bool.and_eq_true, decide_eq_true_eq] at old ⊢
    obtain ⟨⟨⟨⟨o1, o2, o3, o4, o5, o6⟩, o7⟩, o8⟩, o9⟩ := old
    rw [X.frames, List.length_cons] at o2 o3
    simp only [hfr, hloc, List.length_cons, State.stackLimits_setFrames, State.stackBytes_setFrames, hl9, hb9]
    refine ⟨⟨⟨⟨by omega, by omega, by omega, by omega, by omega, o6⟩, ?_⟩, ?_⟩, X.book⟩
    · show T.heap.size + k ≤ e.platform.maxCells
      omega
    · show T.slotsUsed + n ≤ e.platform.maxSlots
      omega
  · refine ⟨?_, Nat.le_refl _, Nat.le_refl _, ?_, ?_, fun a c9 h9 => ⟨c9, h9, rfl, rfl, fun _ _ => rfl⟩⟩
    · obtain ⟨th, hth, -⟩ := State.frames_cons hfr0
      show T.setVm s.vm = { ((T.setVm s.vm).setFrames (.invoking m args :: below)).setFrames (T.setVm s.vm).frames with heap := T.heap, slotsUsed := T.slotsUsed }
      rw [State.setFrames_setFrames, State.setFrames_self hth]
      rfl
    · show T.slotsUsed = T.slotsUsed + ((T.heap.toList.drop T.heap.size).map (·.slots.size)).sum
      rw [nodrop]; rfl
    · show ((T.heap.toList.drop T.heap.size).map (·.slots.size)).sum ≤ 0
      rw [nodrop]; exact Nat.le_refl _
/-- nothing written: the old cells are what they were -/
theorem rd_still {st U : State} {k n : Nat} (h : st.sameButNew ({ U with vm := st.vm } : State) [] k n) : st.heap.size ≤ U.heap.size ∧ ∀ q : Nat, q < st.heap.size → U.heap[q]? = st.heap[q]? := by
  obtain ⟨-, h2, -, -, -, h6⟩ := h
  refine ⟨h2, fun q hq => ?_⟩
  obtain ⟨c9, e1, e2, -, e4⟩ := h6 q _ (Array.getElem?_eq_getElem hq)
  have hs : c9.slots = (st.heap[q]).slots := Array.ext_getElem? fun i => e4 i (fun hm => by cases hm)
  rw [hs] at e2
  have e5 : U.heap[q]? = some c9 := e1
  rw [e5, Array.getElem?_eq_getElem hq, show c9 = st.heap[q] from e2]
/-- the two words that a static's cell gives -/
theorem rd_St.words {n d : String} (h : rd_St n d A s s.heap) (a : Array Value) : (Cond.laysStatic Bundle.tN n d).before a s = true ∧ (Cond.isRef (.static Bundle.tN n d)).before a s = true := by
  obtain ⟨h0, c1, k, i, f, b, cell, h1, h2, h3, h4, h5, h6, h7, h8, h9, -⟩ := h
  refine ⟨Cond.laysStatic_of h1 h2 h3 h4 h5 h6 h7 h8 h9, ?_⟩
  have key : ∀ v : Value, v.isRef = true → va_Z Bundle.tN n d v A s s.heap → (Cond.isRef (.static Bundle.tN n d)).before a s = true := by
    intro v hv hz
    obtain ⟨cf, kf, fi, g, b2, cell2, g1, g2, g3, g4, g5, g6, g7, -⟩ := hz
    have he : (Term.static Bundle.tN n d).eval a s none [] s = some v := by
      simp [Term.eval, State.fieldNamed?, g1, g2, g4, g5, g6, g7]
    simp only [Cond.before, Cond.holds, Cond.value, he]
    cases v <;> simp_all [Value.isRef]
  rcases h0 with h0 | ⟨t, h0⟩
  · exact key _ rfl h0
  · exact key _ rfl h0
/-- a throw's words: in the table, among the ones carried along, or a static's -/
def rd_tw (TT : List Cond) (nn : List Cond) (w : Cond) : Prop := w ∈ TT ∨ w ∈ nn ∨ w = .isRef (.static Bundle.tN "UNASSIGNED_STACK" Bundle.steD) ∨ w = .isRef (.static Bundle.tN "SUPPRESSED_SENTINEL" Bundle.listD) ∨ w = .laysStatic Bundle.tN "UNASSIGNED_STACK" Bundle.steD ∨ w = .laysStatic Bundle.tN "SUPPRESSED_SENTINEL" Bundle.listD
theorem rd_throw (hls : l.stackTraces = false) (C9 : rd_C p c cc nL s m args own TT D cl ty L ad A) (hnt : ∀ x ∈ c.exceptionTable.toList, False) (hlk : meth.locks = false) (hTh : rd_Th ss A s s.heap) (hW : rd_W D cl L ad A s.heap M H locs) (hsz : ls.size = nL)
    {cls text : String} {names : List String} {ik is ic : Nat} (hgood : TT.all goodWord = true) (hcls : Bundle.fit cls = true) (hnames : ∀ n ∈ names, Bundle.fit n = true) (hk : Cond.classLink own ik cls ∈ TT) (hini : Cond.initialized cls ∈ TT) (hs9 : (own, is, text) ∈ ss.1) (hat : ∀ w ∈ Bundle.ownAtoms own ic cls names, rd_tw TT ss.2.1 w)
    (d0 : decode cc pc = .ok (.new ik, 3)) (d3 : decode cc (pc + 3) = .ok (.dup, 1)) (d4 : decode cc (pc + 4) = .ok (.ldc is, 2)) (d6 : decode cc (pc + 6) = .ok (.invokespecial ic, 3)) (d9 : decode cc (pc + 9) = .ok (.athrow, 1))
    (hRf : names.length + 3 < R.frames) (hRl : (rest.map fun v => v.category).sum + (13 * (names.length + 1) + 43) ≤ R.locals) (hRc : cells + 1 ≤ R.cells) (hRs : slots + 6 ≤ R.slots) (hex : ex cls) (hc : cells + 1 ≤ mc) (hs : slots + 6 ≤ ms) :
    W p l e R s m args below meth c H locs cells slots (rd_Z below (rd_O D cl L ad M A mc ms post ex) s) (F0 m pc ls rest) := by
  obtain ⟨hx, hb, hml, hown, hts⟩ := C9.1
  intro T hT X
  have htr : e.platform.stackTraces = false := (show e.platform.stackTraces = l.stackTraces by rw [X.admits.platform]).trans hls
  have Y := rd_anew X (k := 1) (n := 6) hRc hRs
  obtain ⟨s', hA⟩ : ∃ z, z = (T.setVm s.vm).setFrames (.invoking m args :: below) := ⟨_, rfl⟩
  rw [← hA] at Y
  have hvm : s'.vm = s.vm := by rw [hA]; rfl
  have hhp : s'.heap = H := by rw [hA]; exact hT
  have hWs : s.WarmedH s'.vm := by rw [hvm]; exact State.WarmedH.refl s
  have hTh' : rd_Th ss A s' s'.heap := by rw [hhp]; exact rd_Th.go hTh hW.2 (fun _ h => h) hWs
  have hts' : ∀ w ∈ TT, w.before args s' = true := fun w hw => word_at hWs (good_of_word (List.all_eq_true.mp hgood w hw)) (hts w hw)
  have hall : ∀ w ∈ Bundle.ownAtoms own ic cls names, w.before args s' = true := by
    intro w hw
    rcases hat w hw with h | h | rfl | rfl | rfl | rfl
    · exact hts' _ h
    · exact va_Nw.use (rd_nt (hTh'.2.2.2.1 w h).1) (hTh'.2.2.2.1 w h).2
    · exact (hTh'.1.words args).2
    · exact (hTh'.2.1.words args).2
    · exact (hTh'.1.words args).1
    · exact (hTh'.2.1.words args).1
  obtain ⟨sa, hstr⟩ := hTh'.2.2.1 _ hs9
  have hown' : s'.vm.findClass own = some m.cls := by rw [hvm]; exact hown
  obtain ⟨vm₁, cX, kX, hfX, hkX, -, -, X₁, st1⟩ := Y.newCold hx (own := own) (C := cls) (index := ik) (n := 6) hown' (hts' _ hk) (hall _ (by simp [Bundle.ownAtoms])) (hts' _ hini) (g := F0 m pc ls rest) rfl (by rw [hb]; exact d0) (Nat.le_refl _) (Nat.le_refl _)
  generalize hT1 : (T.setVm vm₁).pushCell { cls := cX, slots := kX.instanceTypes.map defaultValue, vm := .none } = T1 at X₁ st1
  have hcellA : T1.heap[T.heap.size]? = some (freshCell cX kX) := by rw [← hT1]; exact State.heap_pushCell_size _ _
  have d3' : decode c.code (pc + 3) = .ok (.dup, 1) := by rw [hb]; exact d3
  have d4' : decode c.code (pc + 4) = .ok (.ldc is, 2) := by rw [hb]; exact d4
  have hcat : ∀ a : Nat, (Value.ref a).category = 1 := fun _ => rfl
  obtain ⟨U, hsteps, hrun, hend, hWm, hsame, ce, hce, hO⟩ := X₁.ctorThrowS hx htr (own := own) (cls := cls) (names := names) (ic := ic) hown' hcls hnames hall (fun x hx9 => by cases hx9) hfX hkX hcellA (by rw [hhp, hT]; exact Nat.le_refl _) (msg := .ref sa) rfl
    (g := F0 m (pc + 6) ls (.ref sa :: .ref T.heap.size :: .ref T.heap.size :: rest)) rfl (hsz.trans hml.symm) rfl rfl (rest := rest) rfl
    (by rw [hb]; exact d6) (by rw [hb]; exact d9) (fun x hx9 => (hnt x hx9).elim) hRf (by simp only [List.map_cons, List.sum_cons, hcat]; show 2 * 0 + _ + _ ≤ R.locals; omega) hlk
  obtain ⟨f1, f2⟩ := rd_still hsame
  rw [hhp] at f1 f2
  have hPU : va_P D cl (rd_ws L ad M) U.heap := hW.1.kept fun k q hq => f2 q.1 (hW.1 k q hq).lt
  have hall2 : s.sameButNew ({ U with vm := s.vm } : State) locs mc ms := by
    subst hA
    obtain ⟨e1, e2⟩ := hsame
    rw [State.setFrames_setFrames] at e1
    have h2 : (T.setVm s.vm).sameButNew ({ U with vm := s.vm } : State) [] (0 + 1) (0 + 6) := ⟨e1, e2⟩
    have h3 := X.same.trans h2
    rw [List.append_nil] at h3
    exact h3.mono hc hs
  have hcl9 : s.vm.findClass cls = some ce.cls := by
    have h9 := hO.cls
    rw [hvm] at h9
    exact h9
  refine ⟨U, st1 _ ?_, .threw T.heap.size, hrun, hend, ⟨Nat.le_trans hW.2.1 f1, fun q h1 h2 => ?_⟩, State.WarmedH.trans hWs hWm, ⟨locs, hall2, hW.2.2.2⟩, Or.inr ⟨T.heap.size, cls, ce, rfl, hex, hPU, hce, hO.vm, hcl9⟩⟩
  · show Steps p.tables e below (T1.setTop { method := m, pc := pc + 3, locals := ls, stack := .ref T.heap.size :: rest, locked := none }) _
    jvm_step X₁.here [X₁.here.top, hx, d3', Value.category]
    exact X₁.ldcString hx (own := own) (text := text) (index := is) (a := sa) hown' hstr.1 hstr.2
      (g := { method := m, pc := pc + 4, locals := ls, stack := .ref T.heap.size :: .ref T.heap.size :: rest, locked := none }) rfl d4' _ hsteps
  · rw [f2 q (Nat.lt_of_lt_of_le h1 hW.2.1)]
    exact hW.2.2.1 q h1 h2
theorem rd_throwW (hls : l.stackTraces = false) (C9 : rd_C p c cc nL s m args own TT D cl ty L ad A) (hnt : ∀ x ∈ c.exceptionTable.toList, False) (hlk : meth.locks = false) (hTh : rd_Th ss A s s.heap) (hW : rd_W D cl L ad A s.heap M H locs) (hsz : ls.size = nL)
    {cls text : String} {names : List String} {ik is ic : Nat} (hgood : TT.all goodWord = true) (hcls : Bundle.fit cls = true) (hnames : ∀ n ∈ names, Bundle.fit n = true) (hk : Cond.classLink own ik cls ∈ TT) (hini : Cond.initialized cls ∈ TT) (hs9 : (own, is, text) ∈ ss.1) (hat : ∀ w ∈ Bundle.ownAtoms own ic cls names, rd_tw TT ss.2.1 w)
    (d0 : decode cc pc = .ok (.new ik, 3)) (d3 : decode cc (pc + 3) = .ok (.dup, 1)) (d4 : decode cc (pc + 4) = .ok (.ldc_w is, 3)) (d6 : decode cc (pc + 7) = .ok (.invokespecial ic, 3)) (d9 : decode cc (pc + 10) = .ok (.athrow, 1))
    (hRf : names.length + 3 < R.frames) (hRl : (rest.map fun v => v.category).sum + (13 * (names.length + 1) + 43) ≤ R.locals) (hRc : cells + 1 ≤ R.cells) (hRs : slots + 6 ≤ R.slots) (hex : ex cls) (hc : cells + 1 ≤ mc) (hs : slots + 6 ≤ ms) :
    W p l e R s m args below meth c H locs cells slots (rd_Z below (rd_O D cl L ad M A mc ms post ex) s) (F0 m pc ls rest) := by
  obtain ⟨hx, hb, hml, hown, hts⟩ := C9.1
  intro T hT X
  have htr : e.platform.stackTraces = false := (show e.platform.stackTraces = l.stackTraces by rw [X.admits.platform]).trans hls
  have Y := rd_anew X (k := 1) (n := 6) hRc hRs
  obtain ⟨s', hA⟩ : ∃ z, z = (T.setVm s.vm).setFrames (.invoking m args :: below) := ⟨_, rfl⟩
  rw [← hA] at Y
  have hvm : s'.vm = s.vm := by rw [hA]; rfl
  have hhp : s'.heap = H := by rw [hA]; exact hT
  have hWs : s.WarmedH s'.vm := by rw [hvm]; exact State.WarmedH.refl s
  have hTh' : rd_Th ss A s' s'.heap := by rw [hhp]; exact rd_Th.go hTh hW.2 (fun _ h => h) hWs
  have hts' : ∀ w ∈ TT, w.before args s' = true := fun w hw => word_at hWs (good_of_word (List.all_eq_true.mp hgood w hw)) (hts w hw)
  have hall : ∀ w ∈ Bundle.ownAtoms own ic cls names, w.before args s' = true := by
    intro w hw
    rcases hat w hw with h | h | rfl | rfl | rfl | rfl
    · exact hts' _ h
    · exact va_Nw.use (rd_nt (hTh'.2.2.2.1 w h).1) (hTh'.2.2.2.1 w h).2
    · exact (hTh'.1.words args).2
    · exact (hTh'.2.1.words args).2
    · exact (hTh'.1.words args).1
    · exact (hTh'.2.1.words args).1
  obtain ⟨sa, hstr⟩ := hTh'.2.2.1 _ hs9
  have hown' : s'.vm.findClass own = some m.cls := by rw [hvm]; exact hown
  obtain ⟨vm₁, cX, kX, hfX, hkX, -, -, X₁, st1⟩ := Y.newCold hx (own := own) (C := cls) (index := ik) (n := 6) hown' (hts' _ hk) (hall _ (by simp [Bundle.ownAtoms])) (hts' _ hini) (g := F0 m pc ls rest) rfl (by rw [hb]; exact d0) (Nat.le_refl _) (Nat.le_refl _)
  generalize hT1 : (T.setVm vm₁).pushCell { cls := cX, slots := kX.instanceTypes.map defaultValue, vm := .none } = T1 at X₁ st1
  have hcellA : T1.heap[T.heap.size]? = some (freshCell cX kX) := by rw [← hT1]; exact State.heap_pushCell_size _ _
  have d3' : decode c.code (pc + 3) = .ok (.dup, 1) := by rw [hb]; exact d3
  have d4' : decode c.code (pc + 4) = .ok (.ldc_w is, 3) := by rw [hb]; exact d4
  have hcat : ∀ a : Nat, (Value.ref a).category = 1 := fun _ => rfl
  obtain ⟨U, hsteps, hrun, hend, hWm, hsame, ce, hce, hO⟩ := X₁.ctorThrowS hx htr (own := own) (cls := cls) (names := names) (ic := ic) hown' hcls hnames hall (fun x hx9 => by cases hx9) hfX hkX hcellA (by rw [hhp, hT]; exact Nat.le_refl _) (msg := .ref sa) rfl
    (g := F0 m (pc + 7) ls (.ref sa :: .ref T.heap.size :: .ref T.heap.size :: rest)) rfl (hsz.trans hml.symm) rfl rfl (rest := rest) rfl
    (by rw [hb]; exact d6) (by rw [hb]; exact d9) (fun x hx9 => (hnt x hx9).elim) hRf (by simp only [List.map_cons, List.sum_cons, hcat]; show 2 * 0 + _ + _ ≤ R.locals; omega) hlk
  obtain ⟨f1, f2⟩ := rd_still hsame
  rw [hhp] at f1 f2
  have hPU : va_P D cl (rd_ws L ad M) U.heap := hW.1.kept fun k q hq => f2 q.1 (hW.1 k q hq).lt
  have hall2 : s.sameButNew ({ U with vm := s.vm } : State) locs mc ms := by
    subst hA
    obtain ⟨e1, e2⟩ := hsame
    rw [State.setFrames_setFrames] at e1
    have h2 : (T.setVm s.vm).sameButNew ({ U with vm := s.vm } : State) [] (0 + 1) (0 + 6) := ⟨e1, e2⟩
    have h3 := X.same.trans h2
    rw [List.append_nil] at h3
    exact h3.mono hc hs
  have hcl9 : s.vm.findClass cls = some ce.cls := by
    have h9 := hO.cls
    rw [hvm] at h9
    exact h9
  refine ⟨U, st1 _ ?_, .threw T.heap.size, hrun, hend, ⟨Nat.le_trans hW.2.1 f1, fun q h1 h2 => ?_⟩, State.WarmedH.trans hWs hWm, ⟨locs, hall2, hW.2.2.2⟩, Or.inr ⟨T.heap.size, cls, ce, rfl, hex, hPU, hce, hO.vm, hcl9⟩⟩
  · show Steps p.tables e below (T1.setTop { method := m, pc := pc + 3, locals := ls, stack := .ref T.heap.size :: rest, locked := none }) _
    jvm_step X₁.here [X₁.here.top, hx, d3', Value.category]
    exact X₁.ldcStringW hx (own := own) (text := text) (index := is) (a := sa) hown' hstr.1 hstr.2
      (g := { method := m, pc := pc + 4, locals := ls, stack := .ref T.heap.size :: .ref T.heap.size :: rest, locked := none }) rfl d4' _ hsteps
  · rw [f2 q (Nat.lt_of_lt_of_le h1 hW.2.1)]
    exact hW.2.2.1 q h1 h2
/-- the words of an exception whose own constructor hands the text on by another number (ix, in the code rx) -/
def rd_aX (own : String) (ic : Nat) (X : String) (ix : Nat) (rx : ByteArray) (Y : String) (names : List String) : List Cond :=
  Bundle.throwableAtoms ++ Bundle.throwableSAtoms ++ (Bundle.passSAtoms X Y ix rx ++ Bundle.chainSAtoms Y names) ++
  [.methodLink own ic (Bundle.initS X), .instantiable X 6, .selects X Bundle.tFill0 Bundle.tFill0, .selects X Bundle.tFill Bundle.tFill,
   .lays X Bundle.tN "cause" "Ljava/lang/Throwable;", .lays X Bundle.tN "stackTrace" Bundle.steD, .lays X Bundle.tN "suppressedExceptions" Bundle.listD, .lays X Bundle.tN "detailMessage" "Ljava/lang/String;",
   .isRef (.static Bundle.tN "UNASSIGNED_STACK" Bundle.steD), .isRef (.static Bundle.tN "SUPPRESSED_SENTINEL" Bundle.listD),
   .fieldLink Bundle.tN 198 Bundle.tN "backtrace" "Ljava/lang/Object;", .lays Bundle.tN Bundle.tN "backtrace" "Ljava/lang/Object;", .lays X Bundle.tN "backtrace" "Ljava/lang/Object;"]
set_option maxHeartbeats 1000000 in
/-- its constructor, and athrow: the library's laws of the links of the chain, the first link by its own number -/
theorem rd_ctorX {V : State} (X : Stand p l e R s m args below meth c V locs cells slots) (hexec : p.tables.exec = Jvm.exec) (htr : e.platform.stackTraces = false) {own cls Y1 : String} {names : List String} {ic ix : Nat} {rx : ByteArray}
    (x0 : decode rx 0 = .ok (.aload_n 0, 1)) (x1 : decode rx 1 = .ok (.aload_n 1, 1)) (x2 : decode rx 2 = .ok (.invokespecial ix, 3)) (x5 : decode rx 5 = .ok (.return_, 1))
    (hown : s.vm.findClass own = some m.cls) (hcls : Bundle.fit cls = true) (hY1 : Bundle.fit Y1 = true) (hnames : ∀ n ∈ names, Bundle.fit n = true) (h : ∀ w ∈ rd_aX own ic cls ix rx Y1 names, w.before args s = true)
    (hlocs : ∀ x ∈ locs, ∀ cell, s.heap[x.base]? = some cell → cell.vm.isStatics = false)
    {a : Addr} {cX : ClassId} {kX : Class} (hfX : s.vm.findClass cls = some cX) (hkX : s.vm.classes[cX]? = some kX) (hcell : V.heap[a]? = some (freshCell cX kX)) (hnew : s.heap.size ≤ a) {msg : Value} (hmsg : msg.isRef = true)
    {g : JFrame} (hg : g.method = m) (hsize : g.locals.size = c.maxLocals) (hlocked : g.locked = none) (hentered : g.entered = []) (hstack : g.stack = msg :: .ref a :: .ref a :: rest)
    (hd6 : decode c.code g.pc = .ok (.invokespecial ic, 3)) (hd9 : decode c.code (g.pc + 3) = .ok (.athrow, 1)) (hout : ∀ x ∈ c.exceptionTable.toList, covers x (g.pc + 3) = false)
    (hRf : names.length + 4 < R.frames) (hRl : 2 * g.monitorRoom + ((Value.ref a :: rest).map fun v => v.category).sum + (13 * (names.length + 2) + 42) ≤ R.locals) (hlk : meth.locks = false) :
    ∃ U : State, Steps p.tables e below (V.setTop g) U ∧ U.status = .running ∧ Ended U below (.threw a) ∧ s.WarmedH U.vm ∧ s.sameButNew ({ U with vm := s.vm } : State) locs cells slots ∧ ∃ ce, U.heap[a]? = some ce ∧ ce.vm = .none ∧ s.vm.findClass cls = some ce.cls := by
  have howns : e.platform.frameOwnsMonitors = true := by rw [X.admits.platform]
  have hfin : e.platform.finalization = false := by rw [X.admits.platform]
  have hpl : e.platform.magicAccessors = ({} : Platform).magicAccessors := by rw [X.admits.platform]
  have w : ∀ x, x ∈ rd_aX own ic cls ix rx Y1 names → x.holds args s none s [] = true := fun x hx => h x hx
  obtain ⟨T, Z0, L, -, Y⟩ := ThrowableC.of_atoms (args := args) howns hfin hpl (fun x hx => h x (by simp [rd_aX, hx]))
  obtain ⟨Z, M9, LZ, LM, hnZ⟩ := Init0T.ofS_atoms (args := args) hpl L Y (fun x hx => h x (by simp [rd_aX, hx]))
  obtain ⟨P0, L0, hP0m, hP0s⟩ := PassC.ofS_atoms (args := args) (s := s) hpl (X := cls) (Y := Y1) (Bundle.fit_spec hcls).1 (Bundle.fit_spec hY1).2 x0 x1 x2 x5 (fun x hx => h x (by simp [rd_aX, hx]))
  obtain ⟨P1, Ps, hlen, L1, hL, hP1m, hlink1, hlink⟩ := Bundle.chainS (args := args) hpl hnZ names Y1 hY1 hnames (fun x hx => h x (by simp [rd_aX, hx]))
  have hsup : P0.sup = P1.m := Option.some.inj (hP0s.symm.trans hP1m)
  have hfound : s.vm.findClass cls = some P0.m.cls := findClass_of_methodNamed hP0m
  cases Option.some.inj (hfX.symm.trans hfound)
  obtain ⟨c1, kX', hc1, hk, hord, -, -, -⟩ := Cond.instantiable_spec (w (.instantiable cls 6) (by simp [rd_aX]))
  cases Option.some.inj (hc1.symm.trans hfound)
  cases Option.some.inj (hkX.symm.trans hk)
  have hsel0 : selectMethod e.platform s.vm P0.m.cls T.fill0 = .method T.fill0 := by
    obtain ⟨c2, r2, m2, q1, q2, q3, q4, -⟩ := Cond.selects_spec (w (.selects cls Bundle.tFill0 Bundle.tFill0) (by simp [rd_aX]))
    cases Option.some.inj (q1.symm.trans hfound)
    cases Option.some.inj (q2.symm.trans (State.methodFound?_of_named Y.fill0 (by decide)))
    cases Option.some.inj (q3.symm.trans Y.fill0)
    rw [Launch.admits_selectMethod X.admits]; exact q4
  have hselF : selectMethod e.platform s.vm P0.m.cls T.fill = .method T.fill := by
    obtain ⟨c2, r2, m2, q1, q2, q3, q4, -⟩ := Cond.selects_spec (w (.selects cls Bundle.tFill Bundle.tFill) (by simp [rd_aX]))
    cases Option.some.inj (q1.symm.trans hfound)
    cases Option.some.inj (q2.symm.trans (State.methodFound?_of_named Y.fill (by decide)))
    cases Option.some.inj (q3.symm.trans Y.fill)
    rw [Launch.admits_selectMethod X.admits]; exact q4
  obtain ⟨cellS0, hcS0, hiss⟩ := Y.statics
  obtain ⟨u0, hu0⟩ := Cond.staticRefV Y.unassigned L.unassignedStatic L.statics hcS0 hiss (w (.isRef (.static Bundle.tN "UNASSIGNED_STACK" Bundle.steD)) (by simp [rd_aX]))
  obtain ⟨sen, hsen⟩ := Cond.staticRefV Y.sentinel L.sentinelStatic L.statics hcS0 hiss (w (.isRef (.static Bundle.tN "SUPPRESSED_SENTINEL" Bundle.listD)) (by simp [rd_aX]))
  obtain ⟨ci198, i198, fB, hk198, hg198, ha198, hsB, -, hnB, htB, hffB⟩ := Cond.ownField (t := .object "java/lang/Object") Y.found L.cls (by decide +kernel) (w (.fieldLink Bundle.tN 198 Bundle.tN "backtrace" "Ljava/lang/Object;") (by simp [rd_aX])) (w (.lays Bundle.tN Bundle.tN "backtrace" "Ljava/lang/Object;") (by simp [rd_aX])) e.platform hpl
  obtain ⟨cellS, hcS', heS, -, hkeep⟩ := X.same.2.2.2.2.2 T.aS cellS0 hcS0
  have hcellS : V.heap[T.aS]? = some cellS := hcS'
  have hout' : ∀ i, (⟨T.aS, i⟩ : Loc) ∉ locs := fun i hmem => by
    have h9 := hlocs _ hmem cellS0 hcS0
    rw [hiss] at h9; cases h9
  have hknownS : cellS.vm ≠ .unknown := by
    rw [heS]; intro hu
    rw [show cellS0.vm = .unknown from hu] at hiss
    cases hiss
  have hneS : T.aS ≠ a := Nat.ne_of_lt (Nat.lt_of_lt_of_le (Array.getElem?_eq_some_iff.mp hcS0).1 hnew)
  obtain ⟨iM, hffM⟩ := Y.msg
  obtain ⟨tyC, dC, hdC, hdnC⟩ := Cond.laysAt hfound hk Y.cause (w (.lays cls Bundle.tN "cause" "Ljava/lang/Throwable;") (by simp [rd_aX]))
  obtain ⟨tyS, dS, hdS, hdnS⟩ := Cond.laysAt hfound hk Y.stack (w (.lays cls Bundle.tN "stackTrace" Bundle.steD) (by simp [rd_aX]))
  obtain ⟨tyP, dP, hdP, hdnP⟩ := Cond.laysAt hfound hk Y.supp (w (.lays cls Bundle.tN "suppressedExceptions" Bundle.listD) (by simp [rd_aX]))
  obtain ⟨tyM, dM, hdM, hdnM⟩ := Cond.laysAt hfound hk hffM (w (.lays cls Bundle.tN "detailMessage" "Ljava/lang/String;") (by simp [rd_aX]))
  obtain ⟨tyB, dB, hdB, hdnB⟩ := Cond.laysAt hfound hk hffB (w (.lays cls Bundle.tN "backtrace" "Ljava/lang/Object;") (by simp [rd_aX]))
  have bC := Cond.laysApart hdB hdC hdnB hdnC (by rw [hnB, Y.causeName]; decide)
  have bS := Cond.laysApart hdB hdS hdnB hdnS (by rw [hnB, Y.stackName]; decide)
  have bP := Cond.laysApart hdB hdP hdnB hdnP (by rw [hnB, Y.suppName]; decide)
  have hskip : SkipFacts T e.platform s (fun u => u) u0 ((preparedCellV T.toThrowableT (freshCell P0.m.cls kX) a u0 sen).withEntry V.cur) :=
    ⟨{ ci198 := ci198, i198 := i198, fBack := fB }, ⟨hk198, hg198, ha198, hsB⟩, by
      have h9 := fresh_default (c := P0.m.cls) tyB
      rw [htB] at h9
      simpa [preparedCellV, Cell.setSlot, Cell.withEntry, Array.getElem?_setIfInBounds, bC, bS, bP, bC.symm, bS.symm, bP.symm, defaultValue] using h9, fun _ _ => rfl⟩
  obtain ⟨tm, methC, cdC, kC, vm₁, hnC, -, -, -, -, -, -, -, hW₁, st1⟩ := Steps.initColdS (tb := p.tables) (e := e) (below := below) (s := s) (U := V) X.here hexec X.warmed hpl hown (t := Bundle.initS cls) rfl rfl (Bundle.fit_spec hcls).2
    (w (.methodLink own ic (Bundle.initS cls)) (by simp [rd_aX])) (h (.instanceMethod (Bundle.initS cls)) (by simp [rd_aX, Bundle.passSAtoms])) (bytes := rx) (maxL := 2) (h (.code (Bundle.initS cls) rx 2 none) (by simp [rd_aX, Bundle.passSAtoms]))
    (f := g) hg (a := a) (msg := msg) (rest := .ref a :: rest) hstack hd6
  cases Option.some.inj (hnC.symm.trans hP0m)
  have X₁ := X.noted hW₁
  obtain ⟨vm₂, X₂, st2⟩ := X₁.ctorMessageOffV hexec (g := { g with stack := .ref a :: rest }) hg hsize T L Z LZ M9 LM (P0 :: P1 :: Ps)
    (fun P hP => by
      rcases List.mem_cons.mp hP with rfl | hP
      · exact L0
      · rcases List.mem_cons.mp hP with rfl | hP
        · exact L1
        · exact hL P hP) ⟨hsup, hlink1, hlink⟩ (u0 := u0) (sen := sen) (self := a) hmsg (cell := freshCell P0.m.cls kX) (cellS := cellS)
    hcell (fun _ => by simp) (by simp) rfl rfl hsel0 hselF hcellS hneS hknownS (by rw [hkeep _ (hout' _)]; exact hu0) (by rw [hkeep _ (hout' _)]; exact hsen)
    (Takes.of_laid hk hord tyC (by rw [Y.causeType]; rfl)) (Takes.of_laid hk hord tyS (by rw [Y.stackType]; exact fits_refV_array _ u0)) (Takes.of_laid hk hord tyP (by rw [Y.suppType]; exact fits_refV_object _ sen))
    (Takes.of_laid hk hord tyM (by rw [Y.msgType]; exact fits_refV_object _ ⟨msg, hmsg⟩)) Y.objLocals hskip htr [] hd6
    (by simp only [List.length_cons, hlen]; omega) (by simp only [List.length_cons, hlen]; exact hRl)
  obtain ⟨hwalk, hrun, hended, hWU, hsame⟩ := X₂.athrowLeaves hexec (g := { g with stack := .ref a :: rest, pc := g.pc + 3 }) hg hlocked hentered hout (a := a) (rest := rest) rfl hd9
  have hlt : a < ((V.setVm vm₁).setVm vm₂).heap.size := (Array.getElem?_eq_some_iff.mp hcell).1
  have hU := heapAt_setCell_self (s := (V.setVm vm₁).setVm vm₂) (plainBareV T.toThrowableT (freshCell P0.m.cls kX) a u0 sen msg) hlt
  refine ⟨_, st1 _ (fun acts => ?_), hrun, hended, hWU, hsame.weaken (fun y hy hlt' => ?_) (Nat.le_refl _) (Nat.le_refl _), _, hU, rfl, hfound⟩
  · rw [doInvoke_state]
    exact st2 _ hwalk
  · rcases List.mem_append.mp hy with h1 | h1
    · exact h1
    · exfalso
      have hb : y.base = a := by
        simp only [List.mem_cons, List.not_mem_nil, or_false] at h1
        rcases h1 with rfl | rfl | rfl | rfl | rfl <;> rfl
      rw [hb] at hlt'
      exact Nat.not_lt.mpr hnew hlt'
theorem rd_throwX (hls : l.stackTraces = false) (C9 : rd_C p c cc nL s m args own TT D cl ty L ad A) (hnt : ∀ x ∈ c.exceptionTable.toList, False) (hlk : meth.locks = false) (hTh : rd_Th ss A s s.heap) (hW : rd_W D cl L ad A s.heap M H locs) (hsz : ls.size = nL)
    {cls text : String} {Y1 : String} {names : List String} {ik is ic ix : Nat} {rx : ByteArray} (x0 : decode rx 0 = .ok (.aload_n 0, 1)) (x1 : decode rx 1 = .ok (.aload_n 1, 1)) (x2 : decode rx 2 = .ok (.invokespecial ix, 3)) (x5 : decode rx 5 = .ok (.return_, 1)) (hY1 : Bundle.fit Y1 = true) (hgood : TT.all goodWord = true) (hcls : Bundle.fit cls = true) (hnames : ∀ n ∈ names, Bundle.fit n = true) (hk : Cond.classLink own ik cls ∈ TT) (hini : Cond.initialized cls ∈ TT) (hs9 : (own, is, text) ∈ ss.1) (hat : ∀ w ∈ rd_aX own ic cls ix rx Y1 names, rd_tw TT ss.2.1 w)
    (d0 : decode cc pc = .ok (.new ik, 3)) (d3 : decode cc (pc + 3) = .ok (.dup, 1)) (d4 : decode cc (pc + 4) = .ok (.ldc is, 2)) (d6 : decode cc (pc + 6) = .ok (.invokespecial ic, 3)) (d9 : decode cc (pc + 9) = .ok (.athrow, 1))
    (hRf : names.length + 4 < R.frames) (hRl : (rest.map fun v => v.category).sum + (13 * (names.length + 2) + 43) ≤ R.locals) (hRc : cells + 1 ≤ R.cells) (hRs : slots + 6 ≤ R.slots) (hex : ex cls) (hc : cells + 1 ≤ mc) (hs : slots + 6 ≤ ms) :
    W p l e R s m args below meth c H locs cells slots (rd_Z below (rd_O D cl L ad M A mc ms post ex) s) (F0 m pc ls rest) := by
  obtain ⟨hx, hb, hml, hown, hts⟩ := C9.1
  intro T hT X
  have htr : e.platform.stackTraces = false := (show e.platform.stackTraces = l.stackTraces by rw [X.admits.platform]).trans hls
  have Y := rd_anew X (k := 1) (n := 6) hRc hRs
  obtain ⟨s', hA⟩ : ∃ z, z = (T.setVm s.vm).setFrames (.invoking m args :: below) := ⟨_, rfl⟩
  rw [← hA] at Y
  have hvm : s'.vm = s.vm := by rw [hA]; rfl
  have hhp : s'.heap = H := by rw [hA]; exact hT
  have hWs : s.WarmedH s'.vm := by rw [hvm]; exact State.WarmedH.refl s
  have hTh' : rd_Th ss A s' s'.heap := by rw [hhp]; exact rd_Th.go hTh hW.2 (fun _ h => h) hWs
  have hts' : ∀ w ∈ TT, w.before args s' = true := fun w hw => word_at hWs (good_of_word (List.all_eq_true.mp hgood w hw)) (hts w hw)
  have hall : ∀ w ∈ rd_aX own ic cls ix rx Y1 names, w.before args s' = true := by
    intro w hw
    rcases hat w hw with h | h | rfl | rfl | rfl | rfl
    · exact hts' _ h
    · exact va_Nw.use (rd_nt (hTh'.2.2.2.1 w h).1) (hTh'.2.2.2.1 w h).2
    · exact (hTh'.1.words args).2
    · exact (hTh'.2.1.words args).2
    · exact (hTh'.1.words args).1
    · exact (hTh'.2.1.words args).1
  obtain ⟨sa, hstr⟩ := hTh'.2.2.1 _ hs9
  have hown' : s'.vm.findClass own = some m.cls := by rw [hvm]; exact hown
  obtain ⟨vm₁, cX, kX, hfX, hkX, -, -, X₁, st1⟩ := Y.newCold hx (own := own) (C := cls) (index := ik) (n := 6) hown' (hts' _ hk) (hall _ (by simp [rd_aX])) (hts' _ hini) (g := F0 m pc ls rest) rfl (by rw [hb]; exact d0) (Nat.le_refl _) (Nat.le_refl _)
  generalize hT1 : (T.setVm vm₁).pushCell { cls := cX, slots := kX.instanceTypes.map defaultValue, vm := .none } = T1 at X₁ st1
  have hcellA : T1.heap[T.heap.size]? = some (freshCell cX kX) := by rw [← hT1]; exact State.heap_pushCell_size _ _
  have d3' : decode c.code (pc + 3) = .ok (.dup, 1) := by rw [hb]; exact d3
  have d4' : decode c.code (pc + 4) = .ok (.ldc is, 2) := by rw [hb]; exact d4
  have hcat : ∀ a : Nat, (Value.ref a).category = 1 := fun _ => rfl
  obtain ⟨U, hsteps, hrun, hend, hWm, hsame, ce, hce, hOv, hOc⟩ := rd_ctorX X₁ hx htr (own := own) (cls := cls) (Y1 := Y1) (names := names) (ic := ic) x0 x1 x2 x5 hown' hcls hY1 hnames hall (fun x hx9 => by cases hx9) hfX hkX hcellA (by rw [hhp, hT]; exact Nat.le_refl _) (msg := .ref sa) rfl
    (g := F0 m (pc + 6) ls (.ref sa :: .ref T.heap.size :: .ref T.heap.size :: rest)) rfl (hsz.trans hml.symm) rfl rfl (rest := rest) rfl
    (by rw [hb]; exact d6) (by rw [hb]; exact d9) (fun x hx9 => (hnt x hx9).elim) hRf (by simp only [List.map_cons, List.sum_cons, hcat]; show 2 * 0 + _ + _ ≤ R.locals; omega) hlk
  obtain ⟨f1, f2⟩ := rd_still hsame
  rw [hhp] at f1 f2
  have hPU : va_P D cl (rd_ws L ad M) U.heap := hW.1.kept fun k q hq => f2 q.1 (hW.1 k q hq).lt
  have hall2 : s.sameButNew ({ U with vm := s.vm } : State) locs mc ms := by
    subst hA
    obtain ⟨e1, e2⟩ := hsame
    rw [State.setFrames_setFrames] at e1
    have h2 : (T.setVm s.vm).sameButNew ({ U with vm := s.vm } : State) [] (0 + 1) (0 + 6) := ⟨e1, e2⟩
    have h3 := X.same.trans h2
    rw [List.append_nil] at h3
    exact h3.mono hc hs
  have hcl9 : s.vm.findClass cls = some ce.cls := by
    have h9 := hOc
    rw [hvm] at h9
    exact h9
  refine ⟨U, st1 _ ?_, .threw T.heap.size, hrun, hend, ⟨Nat.le_trans hW.2.1 f1, fun q h1 h2 => ?_⟩, State.WarmedH.trans hWs hWm, ⟨locs, hall2, hW.2.2.2⟩, Or.inr ⟨T.heap.size, cls, ce, rfl, hex, hPU, hce, hOv, hcl9⟩⟩
  · show Steps p.tables e below (T1.setTop { method := m, pc := pc + 3, locals := ls, stack := .ref T.heap.size :: rest, locked := none }) _
    jvm_step X₁.here [X₁.here.top, hx, d3', Value.category]
    exact X₁.ldcString hx (own := own) (text := text) (index := is) (a := sa) hown' hstr.1 hstr.2
      (g := { method := m, pc := pc + 4, locals := ls, stack := .ref T.heap.size :: .ref T.heap.size :: rest, locked := none }) rfl d4' _ hsteps
  · rw [f2 q (Nat.lt_of_lt_of_le h1 hW.2.1)]
    exact hW.2.2.1 q h1 h2
theorem rd_throwXW (hls : l.stackTraces = false) (C9 : rd_C p c cc nL s m args own TT D cl ty L ad A) (hnt : ∀ x ∈ c.exceptionTable.toList, False) (hlk : meth.locks = false) (hTh : rd_Th ss A s s.heap) (hW : rd_W D cl L ad A s.heap M H locs) (hsz : ls.size = nL)
    {cls text : String} {Y1 : String} {names : List String} {ik is ic ix : Nat} {rx : ByteArray} (x0 : decode rx 0 = .ok (.aload_n 0, 1)) (x1 : decode rx 1 = .ok (.aload_n 1, 1)) (x2 : decode rx 2 = .ok (.invokespecial ix, 3)) (x5 : decode rx 5 = .ok (.return_, 1)) (hY1 : Bundle.fit Y1 = true) (hgood : TT.all goodWord = true) (hcls : Bundle.fit cls = true) (hnames : ∀ n ∈ names, Bundle.fit n = true) (hk : Cond.classLink own ik cls ∈ TT) (hini : Cond.initialized cls ∈ TT) (hs9 : (own, is, text) ∈ ss.1) (hat : ∀ w ∈ rd_aX own ic cls ix rx Y1 names, rd_tw TT ss.2.1 w)
    (d0 : decode cc pc = .ok (.new ik, 3)) (d3 : decode cc (pc + 3) = .ok (.dup, 1)) (d4 : decode cc (pc + 4) = .ok (.ldc_w is, 3)) (d6 : decode cc (pc + 7) = .ok (.invokespecial ic, 3)) (d9 : decode cc (pc + 10) = .ok (.athrow, 1))
    (hRf : names.length + 4 < R.frames) (hRl : (rest.map fun v => v.category).sum + (13 * (names.length + 2) + 43) ≤ R.locals) (hRc : cells + 1 ≤ R.cells) (hRs : slots + 6 ≤ R.slots) (hex : ex cls) (hc : cells + 1 ≤ mc) (hs : slots + 6 ≤ ms) :
    W p l e R s m args below meth c H locs cells slots (rd_Z below (rd_O D cl L ad M A mc ms post ex) s) (F0 m pc ls rest) := by
  obtain ⟨hx, hb, hml, hown, hts⟩ := C9.1
  intro T hT X
  have htr : e.platform.stackTraces = false := (show e.platform.stackTraces = l.stackTraces by rw [X.admits.platform]).trans hls
  have Y := rd_anew X (k := 1) (n := 6) hRc hRs
  obtain ⟨s', hA⟩ : ∃ z, z = (T.setVm s.vm).setFrames (.invoking m args :: below) := ⟨_, rfl⟩
  rw [← hA] at Y
  have hvm : s'.vm = s.vm := by rw [hA]; rfl
  have hhp : s'.heap = H := by rw [hA]; exact hT
  have hWs : s.WarmedH s'.vm := by rw [hvm]; exact State.WarmedH.refl s
  have hTh' : rd_Th ss A s' s'.heap := by rw [hhp]; exact rd_Th.go hTh hW.2 (fun _ h => h) hWs
  have hts' : ∀ w ∈ TT, w.before args s' = true := fun w hw => word_at hWs (good_of_word (List.all_eq_true.mp hgood w hw)) (hts w hw)
  have hall : ∀ w ∈ rd_aX own ic cls ix rx Y1 names, w.before args s' = true := by
    intro w hw
    rcases hat w hw with h | h | rfl | rfl | rfl | rfl
    · exact hts' _ h
    · exact va_Nw.use (rd_nt (hTh'.2.2.2.1 w h).1) (hTh'.2.2.2.1 w h).2
    · exact (hTh'.1.words args).2
    · exact (hTh'.2.1.words args).2
    · exact (hTh'.1.words args).1
    · exact (hTh'.2.1.words args).1
  obtain ⟨sa, hstr⟩ := hTh'.2.2.1 _ hs9
  have hown' : s'.vm.findClass own = some m.cls := by rw [hvm]; exact hown
  obtain ⟨vm₁, cX, kX, hfX, hkX, -, -, X₁, st1⟩ := Y.newCold hx (own := own) (C := cls) (index := ik) (n := 6) hown' (hts' _ hk) (hall _ (by simp [rd_aX])) (hts' _ hini) (g := F0 m pc ls rest) rfl (by rw [hb]; exact d0) (Nat.le_refl _) (Nat.le_refl _)
  generalize hT1 : (T.setVm vm₁).pushCell { cls := cX, slots := kX.instanceTypes.map defaultValue, vm := .none } = T1 at X₁ st1
  have hcellA : T1.heap[T.heap.size]? = some (freshCell cX kX) := by rw [← hT1]; exact State.heap_pushCell_size _ _
  have d3' : decode c.code (pc + 3) = .ok (.dup, 1) := by rw [hb]; exact d3
  have d4' : decode c.code (pc + 4) = .ok (.ldc_w is, 3) := by rw [hb]; exact d4
  have hcat : ∀ a : Nat, (Value.ref a).category = 1 := fun _ => rfl
  obtain ⟨U, hsteps, hrun, hend, hWm, hsame, ce, hce, hOv, hOc⟩ := rd_ctorX X₁ hx htr (own := own) (cls := cls) (Y1 := Y1) (names := names) (ic := ic) x0 x1 x2 x5 hown' hcls hY1 hnames hall (fun x hx9 => by cases hx9) hfX hkX hcellA (by rw [hhp, hT]; exact Nat.le_refl _) (msg := .ref sa) rfl
    (g := F0 m (pc + 7) ls (.ref sa :: .ref T.heap.size :: .ref T.heap.size :: rest)) rfl (hsz.trans hml.symm) rfl rfl (rest := rest) rfl
    (by rw [hb]; exact d6) (by rw [hb]; exact d9) (fun x hx9 => (hnt x hx9).elim) hRf (by simp only [List.map_cons, List.sum_cons, hcat]; show 2 * 0 + _ + _ ≤ R.locals; omega) hlk
  obtain ⟨f1, f2⟩ := rd_still hsame
  rw [hhp] at f1 f2
  have hPU : va_P D cl (rd_ws L ad M) U.heap := hW.1.kept fun k q hq => f2 q.1 (hW.1 k q hq).lt
  have hall2 : s.sameButNew ({ U with vm := s.vm } : State) locs mc ms := by
    subst hA
    obtain ⟨e1, e2⟩ := hsame
    rw [State.setFrames_setFrames] at e1
    have h2 : (T.setVm s.vm).sameButNew ({ U with vm := s.vm } : State) [] (0 + 1) (0 + 6) := ⟨e1, e2⟩
    have h3 := X.same.trans h2
    rw [List.append_nil] at h3
    exact h3.mono hc hs
  have hcl9 : s.vm.findClass cls = some ce.cls := by
    have h9 := hOc
    rw [hvm] at h9
    exact h9
  refine ⟨U, st1 _ ?_, .threw T.heap.size, hrun, hend, ⟨Nat.le_trans hW.2.1 f1, fun q h1 h2 => ?_⟩, State.WarmedH.trans hWs hWm, ⟨locs, hall2, hW.2.2.2⟩, Or.inr ⟨T.heap.size, cls, ce, rfl, hex, hPU, hce, hOv, hcl9⟩⟩
  · show Steps p.tables e below (T1.setTop { method := m, pc := pc + 3, locals := ls, stack := .ref T.heap.size :: rest, locked := none }) _
    jvm_step X₁.here [X₁.here.top, hx, d3', Value.category]
    exact X₁.ldcStringW hx (own := own) (text := text) (index := is) (a := sa) hown' hstr.1 hstr.2
      (g := { method := m, pc := pc + 4, locals := ls, stack := .ref T.heap.size :: .ref T.heap.size :: rest, locked := none }) rfl d4' _ hsteps
  · rw [f2 q (Nat.lt_of_lt_of_le h1 hW.2.1)]
    exact hW.2.2.1 q h1 h2
end RDT
end
section
/-! a group of cells inside a larger one: cells b .. b + n of it -/
/-- L1 lies in L from the cell b on -/
def rd_E (L L1 : rd_L) (b : Nat) : Prop := b + L1.1 ≤ L.1 ∧ ∀ (ad : Nat → Nat) (k : Nat), k < L1.1 → ∀ x, L.2 ad (b + k) x = L1.2 (fun i => ad (b + i)) k x
/-- the larger memory with the part's put in -/
def rd_pm (n b : Nat) (M M1 : rd_M) : rd_M := fun k => if b ≤ k ∧ k < b + n then M1 (k - b) else M k
theorem rd_E.J {L L1 : rd_L} {b : Nat} (h : rd_E L L1 b) {ad : Nat → Nat} (hJ : rd_J L ad) : rd_J L1 (fun i => ad (b + i)) := by
  intro i j hi hj e
  have := hJ (b + i) (b + j) (by have := h.1; omega) (by have := h.1; omega) e
  omega
theorem rd_E.P {D : va_G} {cl : List vw_C} {L L1 : rd_L} {b : Nat} (h : rd_E L L1 b) {ad : Nat → Nat} {M : rd_M} {H : Heap} (hP : va_P D cl (rd_ws L ad M) H) : va_P D cl (rd_ws L1 (fun i => ad (b + i)) (fun k => M (b + k))) H := by
  intro k q hk
  by_cases hl : k < L1.1
  · rw [rd_at hl] at hk
    cases hk
    have h1 := hP (b + k) _ (rd_at (L := L) (ad := ad) (M := M) (k := b + k) (by have := h.1; omega))
    rw [h.2 ad k hl] at h1
    exact h1
  · rw [rd_ge hl] at hk
    cases hk
theorem rd_E.back {D : va_G} {cl : List vw_C} {L L1 : rd_L} {b : Nat} (h : rd_E L L1 b) {ad : Nat → Nat} (hJ : rd_J L ad) {M M1 : rd_M} {H H1 : Heap} (hP : va_P D cl (rd_ws L ad M) H) (hP1 : va_P D cl (rd_ws L1 (fun i => ad (b + i)) M1) H1) (hk : ∀ q : Nat, q < H.size → ¬ rd_A L1 (fun i => ad (b + i)) H.size q → H1[q]? = H[q]?) : va_P D cl (rd_ws L ad (rd_pm L1.1 b M M1)) H1 := by
  intro k q hq
  by_cases hl : k < L.1
  · rw [rd_at hl] at hq
    cases hq
    by_cases hin : b ≤ k ∧ k < b + L1.1
    · have h1 := hP1 (k - b) _ (rd_at (L := L1) (ad := fun i => ad (b + i)) (M := M1) (k := k - b) (by omega))
      have e := h.2 ad (k - b) (by omega) (M1 (k - b))
      rw [show b + (k - b) = k by omega] at e
      rw [← e, show ad (b + (k - b)) = ad k by rw [show b + (k - b) = k by omega]] at h1
      show va_at D cl (ad k, L.2 ad k (rd_pm L1.1 b M M1 k)) H1
      unfold rd_pm
      rw [if_pos hin]
      exact h1
    · have h1 := hP k _ (rd_at (L := L) (ad := ad) (M := M) hl)
      show va_at D cl (ad k, L.2 ad k (rd_pm L1.1 b M M1 k)) H1
      unfold rd_pm
      rw [if_neg hin]
      have hlt := h1.lt
      refine h1.kept (hk _ hlt (fun z => ?_))
      rcases z with ⟨i, hi, e⟩ | z
      · have := hJ (b + i) k (by have := h.1; omega) hl e
        omega
      · exact absurd hlt (Nat.not_lt.mpr z)
  · rw [rd_ge hl] at hq
    cases hq
end
section
/-! a call of a method whose contract speaks of a part of the caller's cells -/
theorem rd_pm_self {n b : Nat} {M : rd_M} : rd_pm n b M (fun k => M (b + k)) = M := by
  funext k
  unfold rd_pm
  by_cases h : b ≤ k ∧ k < b + n
  · rw [if_pos h]
    show M (b + (k - b)) = M k
    rw [show b + (k - b) = k by omega]
  · rw [if_neg h]
section RDU
variable {p : Program} {l : Launch} {e : Env} {R : Room} {s : State} {m : MethodId} {args : Array Value} {below : List Frame} {meth : Method} {c : Code} {H : Heap} {locs : List Loc} {cells slots : Nat} {Q : State → Prop}
variable {cc bytes : ByteArray} {nL maxL n index : Nat} {rt : Option FieldType} {rm : Nat × Nat × Nat × Nat} {own : String} {TT : List Cond} {ss : rd_SS} {D : va_G} {cl : List vw_C} {ty : List (ClassId × FieldType)} {L L1 : rd_L} {b : Nat} {ad : Nat → Nat} {A : Nat → Prop} {M : rd_M} {pc : Nat} {ls : Array Slot} {st rest As : List Value} {y : MethodName}
variable {post : Option Value → rd_M → Prop} {ex : String → Prop}
theorem rd_onS (hE : rd_E L L1 b) (C9 : rd_C p c cc nL s m args own TT D cl ty L ad A) (hW : rd_W D cl L ad A s.heap M H locs) {mc ms : Nat} {T U : State} {g : JFrame} {mk : MethodId} {a : Array Value} {gb : JFrame}
    (hU : U.heap = H) (hcl : ∀ E k, U.vm.findClass E = some k → s.vm.findClass E = some k)
    (hgo : ∀ target, Steps p.tables e below (doInvoke e (U.setTop gb) [] mk a).1 target → Steps p.tables e below (T.setTop g) target)
    (core : ∃ (o : Outcome) (t T' : State), rd_O D cl L1 (fun i => ad (b + i)) (fun k => M (b + k)) (rd_A L1 (fun i => ad (b + i)) H.size) mc ms post ex (U.calling gb mk a) o t ∧ T'.heap = t.heap ∧ T'.vm = t.vm ∧ (∀ Lc, (U.calling gb mk a).sameButNew ({ t with vm := (U.calling gb mk a).vm } : State) Lc mc ms → Stand p l e R s m args below meth c T' (locs ++ Lc) (cells + mc) (slots + ms)) ∧
      (∀ v, o = .returned v → Steps p.tables e below (doInvoke e (U.setTop gb) [] mk a).1 (T'.setTop { gb with pc := gb.pc + 3, stack := v.toList ++ gb.stack })) ∧
      (∀ q, o = .threw q → Steps p.tables e below (doInvoke e (U.setTop gb) [] mk a).1 ((T'.setTop gb).pushFrame (.throwing q))))
    (kx : ∀ (E : String) (ce : Cell) (q9 : Addr) (H1 : Heap) (locs1 : List Loc), ex E → rd_W D cl L ad A s.heap M H1 locs1 → H1[q9]? = some ce → ce.vm = .none → s.vm.findClass E = some ce.cls → rd_Tw p l e R s m args below meth c H1 locs1 (cells + mc) (slots + ms) Q gb q9)
    (kk : ∀ (r : Option Value) (M1 : rd_M) (H1 : Heap) (locs1 : List Loc), post r M1 → rd_W D cl L ad A s.heap (rd_pm L1.1 b M M1) H1 locs1 → W p l e R s m args below meth c H1 locs1 (cells + mc) (slots + ms) Q { gb with pc := gb.pc + 3, stack := r.toList ++ gb.stack }) : ∃ t, Steps p.tables e below (T.setTop g) t ∧ Q t := by
  obtain ⟨-, -, hJ, hA, hA2⟩ := C9
  have hf : ∀ q, rd_A L1 (fun i => ad (b + i)) H.size q → A q := by
    intro q h
    rcases h with ⟨k, hk, rfl⟩ | h
    · exact hA (b + k) (by have := hE.1; omega)
    · exact hA2 q (Nat.le_trans hW.2.1 h)
  obtain ⟨o, t, T', ⟨hF, -, ⟨Lc, hsm, hL⟩, hend⟩, e1, e2, hst, hret, hthr⟩ := core
  have hF1 : H.size ≤ t.heap.size := by have h9 := hF.1; rw [show (U.calling gb mk a).heap = H from hU] at h9; exact h9
  have hF2 : ∀ q : Nat, q < H.size → ¬ rd_A L1 (fun i => ad (b + i)) H.size q → t.heap[q]? = H[q]? := by have h9 := hF.2; rw [show (U.calling gb mk a).heap = H from hU] at h9; exact h9
  have hS : va_S A s.heap T'.heap (locs ++ Lc) := by
    rw [e1]
    refine ⟨Nat.le_trans hW.2.1 hF1, fun q h1 h2 => ?_, fun q hq => ?_⟩
    · rw [hF2 q (Nat.lt_of_lt_of_le h1 hW.2.1) (fun z => h2 (hf q z))]
      exact hW.2.2.1 q h1 h2
    · rcases List.mem_append.mp hq with h | h
      · exact hW.2.2.2 q h
      · exact hf _ (hL q h)
  rcases hend with ⟨r, M1, rfl, hp, hP1⟩ | ⟨q, E, ce, rfl, hex, hP1, hce, hcv, hcl1⟩
  · obtain ⟨t2, a1, b1⟩ := kk r M1 T'.heap (locs ++ Lc) hp ⟨by rw [e1]; exact hE.back hJ hW.1 hP1 hF2, hS⟩ T' rfl (hst Lc hsm)
    exact ⟨t2, hgo _ ((hret r rfl).trans a1), b1⟩
  · have hPb := hE.back hJ hW.1 hP1 hF2
    rw [rd_pm_self] at hPb
    obtain ⟨t2, a1, b1⟩ := kx E ce q T'.heap (locs ++ Lc) hex ⟨by rw [e1]; exact hPb, hS⟩ (by rw [e1]; exact hce) hcv (hcl _ _ hcl1) T' rfl (hst Lc hsm)
    exact ⟨t2, hgo _ ((hthr q rfl).trans a1), b1⟩
theorem rd_callVS (hE : rd_E L L1 b) (hg : TT.all goodWord = true) (C9 : rd_C p c cc nL s m args own TT D cl ty L ad A) (hTh : rd_Th ss A s s.heap) (hW : rd_W D cl L ad A s.heap M H locs) {k : Nat} (hM : rd_Met l y bytes maxL rt rm TT ss D cl ty L1 (fun i => ad (b + i)) (fun k => M (b + k)) (.ref (ad (b + k)) :: As) post ex) (kc : rd_Cal TT y bytes maxL rt n) (ki : Cond.instanceMethod y ∈ TT) (ks : Cond.selects y.cls y y ∈ TT) (hl : Cond.methodLink own index y ∈ TT) (hn : As.length = n)
    (hk : k < L1.1) {ci : Nat} {fs : List Value} (he : L1.2 (fun i => ad (b + i)) k (M (b + k)) = .inr (ci, fs)) {T : u_T} {N : Nat} (hc : cl[ci]? = some (y.cls, T, N)) (hR : rm.1 + 1 ≤ R.frames ∧ 8 + (maxL + 11) + rm.2.1 ≤ R.locals) (hf : cells + rm.2.2.1 ≤ R.cells ∧ slots + rm.2.2.2 ≤ R.slots) (hsz : ls.size = nL) (hst : st = As.reverse ++ .ref (ad (b + k)) :: rest) (hr8 : (rest.map fun v => v.category).sum ≤ 8) (hdg : decode cc pc = .ok (.invokevirtual index, 3))
    (kx : ∀ (E : String) (ce : Cell) (q9 : Addr) (H1 : Heap) (locs1 : List Loc), ex E → rd_W D cl L ad A s.heap M H1 locs1 → H1[q9]? = some ce → ce.vm = .none → s.vm.findClass E = some ce.cls → rd_Tw p l e R s m args below meth c H1 locs1 (cells + rm.2.2.1) (slots + rm.2.2.2) Q (F0 m pc ls rest) q9)
    (kk : ∀ (r : Option Value) (M1 : rd_M) (H1 : Heap) (locs1 : List Loc), post r M1 → rd_W D cl L ad A s.heap (rd_pm L1.1 b M M1) H1 locs1 → W p l e R s m args below meth c H1 locs1 (cells + rm.2.2.1) (slots + rm.2.2.2) Q (F0 m (pc + 3) ls (r.toList ++ rest))) : W p l e R s m args below meth c H locs cells slots Q (F0 m pc ls st) := by
  obtain ⟨hx, hb, hml, hown, hts⟩ := C9.1
  intro T9 hT X
  have hP1 := hE.P hW.1
  obtain ⟨mk, methM, hnamed, hmethM, hstM, habM⟩ := Cond.instanceMethod_spec (hts _ ki)
  obtain ⟨methM', cM, hmethM', -, -, -, -, -, -, hsigM⟩ := Cond.code_spec hnamed (hts _ kc.1)
  cases hmethM.symm.trans hmethM'
  obtain ⟨c2, r2, m2, q1, q2, q3, q4, kP, hkP, hkPi⟩ := Cond.selects_spec (hts _ ks)
  obtain ⟨cellB, hcB, hoB, hclB⟩ := va_recv C9.2.1 hP1 (ci := ci) (q0 := k) hc (by rw [rd_at hk, he])
  cases hclB.symm.trans q1
  cases (State.methodFound?_of_named hnamed kc.2.2.1).symm.trans q2
  cases hnamed.symm.trans q3
  have hselP : selectMethod e.platform s.vm cellB.cls mk = .method mk := by rw [Launch.admits_selectMethod X.admits]; exact q4
  have hlen : As.length = methM.sig.parameters.length := by
    have h9 := kc.2.2.2
    rw [hsigM] at h9
    exact hn.trans (Option.some.inj h9).symm
  obtain ⟨vm₁, X₁, hstep₁⟩ := X.invokevirtual hx hown (hts _ hl) hnamed hmethM hstM hkP hkPi kc.2.2.1 (a := ad (b + k)) (cell := cellB) (by rw [hT]; exact hcB)
    (fun z h => by rw [h] at hoB; cases hoB) hselP hmethM habM hkP hkPi (g := F0 m pc ls st) rfl (argsL := As) (rest := rest) hlen hst (by rw [hb]; exact hdg)
  have hpre : rd_Pre D cl ty L1 (fun i => ad (b + i)) (fun k => M (b + k)) ss H.size (T9.setVm vm₁) := by
    refine ⟨by rw [show (T9.setVm vm₁).heap = H from hT], by rw [show (T9.setVm vm₁).heap = H from hT]; exact hP1, va_K.moved X₁.warmed.alike C9.2.1, ?_⟩
    rw [show (T9.setVm vm₁).heap = H from hT]
    refine rd_Th.go hTh hW.2 (fun q h => ?_) X₁.warmed
    rcases h with ⟨k, hk, rfl⟩ | h
    · exact C9.2.2.2.1 (b + k) (by have := hE.1; omega)
    · exact C9.2.2.2.2 q (Nat.le_trans hW.2.1 h)
  refine rd_onS hE C9 hW (U := T9.setVm vm₁) (gb := F0 m pc ls rest) (mk := mk) (a := (Value.ref (ad (b + k)) :: As).toArray) hT (fun E k h => by rw [← X₁.warmed.alike.findClass]; exact h) (fun target h => hstep₁ _ fun acts => by rw [doInvoke_state]; exact h) ?_ kx kk
  exact rd_core (hM (hE.J C9.2.2.1) H.size) rd_blind (fun _ _ _ h => rd_OW h) hR.1 hR.2 (rd_pays hg hts kc.1) List.mem_cons_self (fun a U h => pay_in hts (fun w hw => ⟨hw, good_of_word (List.all_eq_true.mp hg w hw)⟩) _ kc.2.1 a U h) X₁ (g := F0 m pc ls rest) rfl (hsz.trans hml.symm) (ig := .invokevirtual index) (by rw [hb]; exact hdg) (lv_room hr8) (X₁.named hnamed) ⟨rfl, hpre⟩ hf.1 hf.2
end RDU
/-! an exception caught by this method's own table -/
section RDH
variable {Q : Handler → Pre} {E : CtlPost} {e : Env} {d : Bool} {acts : List Action} {S : State} {f : JFrame} {a : Addr}
theorem rd_row {x : ExceptionTableEntry} {t : List ExceptionTableEntry} {c : ClassId} {cell : Cell} (hx : covers x f.pc = true) (h0 : x.catchType ≠ 0) (hl : S.vm.ClassLinks e.platform f.method.cls x.catchType c) (hcell : S.heap[a]? = some cell) (hobj : ∀ k, cell.vm ≠ .statics k) (hk : ∃ k, S.vm.classes[cell.cls]? = some k) (hc : ∃ k, S.vm.classes[c]? = some k) :
    wp (findHandler.go f a (x :: t)) Q E e d acts S ↔ if S.vm.assignable cell.cls c = true then Q (.found x.handlerPc) d acts (S.setVm (S.vm.noted f.method.cls x.catchType (.cls c))) else wp (findHandler.go f a t) Q E e d acts (S.setVm (S.vm.noted f.method.cls x.catchType (.cls c))) := by
  simp only [covers] at hx
  obtain ⟨ha, ht⟩ := (resolveClass_links e.toSetting hl).op (op := VmOp.resolveClass f.method.cls x.catchType) rfl
  have hal : S.vm.Alike (S.vm.noted f.method.cls x.catchType (.cls c)) := (Vm.Alike.refl S.vm).noted _ _ _
  obtain ⟨k1, hk1⟩ := hk
  obtain ⟨k2, hk2⟩ := hc
  obtain ⟨k1', hk1', -⟩ := hal.2.2 _ _ hk1
  obtain ⟨k2', hk2', -⟩ := hal.2.2 _ _ hk2
  cases hfit : S.vm.assignable cell.cls c
  · have hfit' : (S.vm.noted f.method.cls x.catchType (.cls c)).assignable cell.cls c = false := by rw [hal.assignable]; exact hfit
    simp [findHandler.go, hx, h0, ha, ht, hcell, hobj, hk1', hk2', hfit', VmOp.dirties, VmOp.acts]
  · have hfit' : (S.vm.noted f.method.cls x.catchType (.cls c)).assignable cell.cls c = true := by rw [hal.assignable]; exact hfit
    simp [findHandler.go, hx, h0, ha, ht, hcell, hobj, hk1', hk2', hfit', VmOp.dirties, VmOp.acts]
end RDH
/-- the table's rows all cover pc and name classes: the first that takes the thrown class is the one with the handler h -/
def rd_rows (e : Env) (s0 : State) (own : ClassId) (pc : Nat) (th : ClassId) (h : Nat) : List (Nat × Nat × Nat × Nat) → Prop
  | [] => False
  | x :: t => x.1 ≤ pc ∧ pc < x.2.1 ∧ x.2.2.2 ≠ 0 ∧ ∃ c, s0.vm.ClassLinks e.platform own x.2.2.2 c ∧ ((s0.vm.assignable th c = true ∧ x.2.2.1 = h) ∨ (s0.vm.assignable th c = false ∧ rd_rows e s0 own pc th h t))
theorem rd_search {e : Env} {s0 : State} {f : JFrame} {a : Addr} {cell : Cell} {h : Nat} (hobj : ∀ k, cell.vm ≠ .statics k) (hk0 : ∃ k, s0.vm.classes[cell.cls]? = some k) :
    ∀ (rows : List ExceptionTableEntry) (S : State), s0.WarmedH S.vm → S.heap[a]? = some cell → rd_rows e s0 f.method.cls f.pc cell.cls h (rows.map fun x => (x.startPc, x.endPc, x.handlerPc, x.catchType)) →
      ∃ vm', s0.WarmedH vm' ∧ ∀ (Q : Handler → Pre) (E : CtlPost) (d : Bool) (acts : List Action), wp (findHandler.go f a rows) Q E e d acts S ↔ Q (.found h) d acts (S.setVm vm') := by
  obtain ⟨k0, hk0⟩ := hk0
  intro rows
  induction rows with
  | nil => intro S _ _ hr; exact hr.elim
  | cons x t ih =>
    intro S hW hcell hr
    obtain ⟨h1, h2, h3, c, hl, hr⟩ := hr
    have hx : covers x f.pc = true := by simp only [covers, Bool.and_eq_true, decide_eq_true_eq]; exact ⟨h1, h2⟩
    obtain ⟨k0', hk0', -⟩ := hW.alike.2.2 _ _ hk0
    obtain ⟨dk, _, _, kt, hd, _, _, _, _, hkt, _, hopen⟩ := hl.here
    obtain ⟨kt', hkt', -⟩ := hW.alike.2.2 _ _ hkt
    have hW2 := hW.noted hd hopen (State.rightAt_cls hl)
    have key : ∀ (Q : Handler → Pre) (E : CtlPost) (d : Bool) (acts : List Action), _ := fun Q E d acts => rd_row (Q := Q) (E := E) (d := d) (acts := acts) (t := t) hx h3 (hW.classLinks hl) hcell hobj ⟨k0', hk0'⟩ ⟨kt', hkt'⟩
    rcases hr with ⟨hfit, rfl⟩ | ⟨hno, hr⟩
    · refine ⟨_, hW2, fun Q E d acts => ?_⟩
      rw [key Q E d acts, if_pos (by rw [hW.alike.assignable]; exact hfit)]
    · obtain ⟨vm', hW', hq⟩ := ih (S.setVm (S.vm.noted f.method.cls x.catchType (.cls c))) hW2 hcell hr
      refine ⟨vm', hW', fun Q E d acts => ?_⟩
      rw [key Q E d acts, if_neg (by rw [hW.alike.assignable, hno]; decide)]
      exact hq Q E d acts
section RDG
variable {p : Program} {l : Launch} {e : Env} {R : Room} {s : State} {m : MethodId} {args : Array Value} {below : List Frame} {meth : Method} {c : Code} {H : Heap} {locs : List Loc} {cells slots : Nat} {Q : State → Prop}
theorem rd_caught {pc h : Nat} {ls : Array Slot} {rest : List Value} {E : String} {ce : Cell} {q : Addr} (hcell : H[q]? = some ce) (hv : ce.vm = .none) (hcl : s.vm.findClass E = some ce.cls) (hr : rd_rows e s m.cls pc ce.cls h (c.exceptionTable.toList.map fun x => (x.startPc, x.endPc, x.handlerPc, x.catchType)))
    (kk : W p l e R s m args below meth c H locs cells slots Q (F0 m h ls [.ref q])) : rd_Tw p l e R s m args below meth c H locs cells slots Q (F0 m pc ls rest) q := by
  intro T hT X
  have hk0 : ∃ k, s.vm.classes[ce.cls]? = some k := by obtain ⟨k9, h9, -⟩ := Vm.findClass_spec hcl; exact ⟨k9, h9⟩
  have hcellT : ((T.setTop (F0 m pc ls rest)).pushFrame (.throwing q)).heap[q]? = some ce := by show T.heap[q]? = some ce; rw [hT]; exact hcell
  obtain ⟨vm', hW', hq⟩ := rd_search (e := e) (s0 := s) (f := F0 m pc ls rest) (a := q) (h := h) (fun k h9 => by rw [hv] at h9; cases h9) hk0 c.exceptionTable.toList ((T.setTop (F0 m pc ls rest)).pushFrame (.throwing q)) X.warmed hcellT hr
  obtain ⟨t, a1, b1⟩ := kk (T.setVm vm') hT (X.noted hW')
  refine ⟨t, ?_, b1⟩
  have hm9 : ((T.setTop (F0 m pc ls rest)).pushFrame (.throwing q)).vm.method? (F0 m pc ls rest).method = some meth := X.method'
  have hfind : ∀ (Q : Handler → Pre) (E : CtlPost) (d : Bool) (acts : List Action), wp (findHandler (F0 m pc ls rest) q) Q E e d acts ((T.setTop (F0 m pc ls rest)).pushFrame (.throwing q)) ↔ Q (.found h) d acts (((T.setTop (F0 m pc ls rest)).pushFrame (.throwing q)).setVm vm') := fun Q E d acts => by
    rw [Jvm.W.findHandler_eq hm9 X.code]; exact hq Q E d acts
  have hhere : At T (F0 m pc ls rest).method c below := X.here
  obtain ⟨hgo, hw⟩ := hhere.throwing q (g := F0 m pc ls rest)
  refine Steps.head hgo hw ?_
  have hstep : (stepThrowing e ((T.setTop (F0 m pc ls rest)).pushFrame (.throwing q)) q (.java (F0 m pc ls rest) :: T.frames.tail)).Is ((((T.setTop (F0 m pc ls rest)).pushFrame (.throwing q)).setVm vm').setFrames (.java (F0 m h ls [.ref q]) :: T.frames.tail)) [] := by
    simp only [stepThrowing, searchFrame, vmDo]
    generalize hr9 : Sem.go _ e false [] _ = res
    obtain ⟨as, rfl, ha⟩ := Sem.eq_ok_of hr9 (a := Handler.found h) (s' := ((T.setTop (F0 m pc ls rest)).pushFrame (.throwing q)).setVm vm') (acts' := []) (by simp [hfind _ _ _ _])
    exact ⟨rfl, ha⟩
  obtain ⟨g₀, hg⟩ := Option.isSome_iff_exists.mp X.here.top
  obtain ⟨r, hr9⟩ := State.topJava?_eq_some.mp hg
  have hr' : (T.setVm vm').frames = .java g₀ :: r := hr9
  rw [stepThread_throwing (frames_entered X.here.top _)]
  rw [hr9, List.tail_cons] at hstep ⊢
  rw [hstep.1]
  rw [State.setTop_of_frames _ hr'] at a1
  have e1 : (((T.setTop (F0 m pc ls rest)).pushFrame (.throwing q)).setVm vm').setFrames (.java (F0 m h ls [.ref q]) :: r) = (T.setVm vm').setFrames (.java (F0 m h ls [.ref q]) :: r) := by
    rw [State.setTop_of_frames _ hr9, State.pushFrame]
    show (((((T.setVm vm').setFrames _).setFrames _).setFrames _) : State) = _
    rw [State.setFrames_setFrames, State.setFrames_setFrames]
  rw [e1]
  exact a1
end RDG
end
