section
-- ===== PART A: goes FIRST, ahead of the names: the tables' words, and 'selects' of the private methods out of them =====
/-- a private method of a class that the tables say can be made, by its rows of tables_1 -/
def lw_okq (q : MethodName × Nat) : Prop := (q.1.cls ≠ "java/lang/invoke/MethodHandle" ∧ q.1.cls ≠ "java/lang/invoke/VarHandle") ∧ Cond.instantiable q.1.cls q.2 ∈ tables_1 ∧ Cond.privateMethod q.1 ∈ tables_1 ∧ Cond.instanceMethod q.1 ∈ tables_1
theorem lw_p0 : lw_okq (⟨"DriftCards$Reading", "countCards", "(II)I"⟩, 5) := ⟨⟨by decide +kernel, by decide +kernel⟩, List.mem_of_getElem? (i := 290) (by decide +kernel), List.mem_of_getElem? (i := 532) (by decide +kernel), List.mem_of_getElem? (i := 533) (by decide +kernel)⟩
theorem lw_p1 : lw_okq (⟨"DriftCards$Drift", "sinkAll", "()V"⟩, 15) := ⟨⟨by decide +kernel, by decide +kernel⟩, List.mem_of_getElem? (i := 212) (by decide +kernel), List.mem_of_getElem? (i := 569) (by decide +kernel), List.mem_of_getElem? (i := 570) (by decide +kernel)⟩
theorem lw_p2 : lw_okq (⟨"DriftCards$Drift", "goInWater", "(I)V"⟩, 15) := ⟨⟨by decide +kernel, by decide +kernel⟩, List.mem_of_getElem? (i := 212) (by decide +kernel), List.mem_of_getElem? (i := 576) (by decide +kernel), List.mem_of_getElem? (i := 577) (by decide +kernel)⟩
theorem lw_p3 : lw_okq (⟨"DriftCards$Drift", "asItFloats", "(I)I"⟩, 15) := ⟨⟨by decide +kernel, by decide +kernel⟩, List.mem_of_getElem? (i := 212) (by decide +kernel), List.mem_of_getElem? (i := 584) (by decide +kernel), List.mem_of_getElem? (i := 585) (by decide +kernel)⟩
theorem lw_p4 : lw_okq (⟨"DriftCards$Drift", "goFrom", "(II)V"⟩, 15) := ⟨⟨by decide +kernel, by decide +kernel⟩, List.mem_of_getElem? (i := 212) (by decide +kernel), List.mem_of_getElem? (i := 596) (by decide +kernel), List.mem_of_getElem? (i := 597) (by decide +kernel)⟩
theorem lw_p5 : lw_okq (⟨"DriftCards$Drift", "send", "(IIII)V"⟩, 15) := ⟨⟨by decide +kernel, by decide +kernel⟩, List.mem_of_getElem? (i := 212) (by decide +kernel), List.mem_of_getElem? (i := 600) (by decide +kernel), List.mem_of_getElem? (i := 601) (by decide +kernel)⟩
theorem lw_p6 : lw_okq (⟨"DriftCards$Drift", "beWalked", "()V"⟩, 15) := ⟨⟨by decide +kernel, by decide +kernel⟩, List.mem_of_getElem? (i := 212) (by decide +kernel), List.mem_of_getElem? (i := 612) (by decide +kernel), List.mem_of_getElem? (i := 613) (by decide +kernel)⟩
theorem lw_p7 : lw_okq (⟨"DriftCards$Prizes", "readTest", "(LDriftCards$Tape;I)Z"⟩, 8) := ⟨⟨by decide +kernel, by decide +kernel⟩, List.mem_of_getElem? (i := 375) (by decide +kernel), List.mem_of_getElem? (i := 921) (by decide +kernel), List.mem_of_getElem? (i := 922) (by decide +kernel)⟩
theorem lw_p8 : lw_okq (⟨"DriftCards", "payOf", "(I)I"⟩, 12) := ⟨⟨by decide +kernel, by decide +kernel⟩, List.mem_of_getElem? (i := 22) (by decide +kernel), List.mem_of_getElem? (i := 951) (by decide +kernel), List.mem_of_getElem? (i := 952) (by decide +kernel)⟩
theorem lw_p9 : lw_okq (⟨"DriftCards$Prizes", "holds", "(I)Z"⟩, 8) := ⟨⟨by decide +kernel, by decide +kernel⟩, List.mem_of_getElem? (i := 375) (by decide +kernel), List.mem_of_getElem? (i := 967) (by decide +kernel), List.mem_of_getElem? (i := 968) (by decide +kernel)⟩
theorem lw_p10 : lw_okq (⟨"DriftCards$Prizes", "isTrue", "(I)Z"⟩, 8) := ⟨⟨by decide +kernel, by decide +kernel⟩, List.mem_of_getElem? (i := 375) (by decide +kernel), List.mem_of_getElem? (i := 971) (by decide +kernel), List.mem_of_getElem? (i := 972) (by decide +kernel)⟩
theorem lw_p11 : lw_okq (⟨"DriftCardsModel", "told", "(II)I"⟩, 59) := ⟨⟨by decide +kernel, by decide +kernel⟩, List.mem_of_getElem? (i := 995) (by decide +kernel), List.mem_of_getElem? (i := 1193) (by decide +kernel), List.mem_of_getElem? (i := 1194) (by decide +kernel)⟩
theorem lw_p12 : lw_okq (⟨"DriftCardsModel", "tells", "(III)V"⟩, 59) := ⟨⟨by decide +kernel, by decide +kernel⟩, List.mem_of_getElem? (i := 995) (by decide +kernel), List.mem_of_getElem? (i := 1197) (by decide +kernel), List.mem_of_getElem? (i := 1198) (by decide +kernel)⟩
theorem lw_p13 : lw_okq (⟨"DriftCardsModel", "isCast", "(I)Z"⟩, 59) := ⟨⟨by decide +kernel, by decide +kernel⟩, List.mem_of_getElem? (i := 995) (by decide +kernel), List.mem_of_getElem? (i := 1240) (by decide +kernel), List.mem_of_getElem? (i := 1241) (by decide +kernel)⟩
theorem lw_p14 : lw_okq (⟨"DriftCardsModel", "driftOf", "(II)V"⟩, 59) := ⟨⟨by decide +kernel, by decide +kernel⟩, List.mem_of_getElem? (i := 995) (by decide +kernel), List.mem_of_getElem? (i := 1249) (by decide +kernel), List.mem_of_getElem? (i := 1250) (by decide +kernel)⟩
theorem lw_p15 : lw_okq (⟨"DriftCardsModel", "drift", "(IIIII)V"⟩, 59) := ⟨⟨by decide +kernel, by decide +kernel⟩, List.mem_of_getElem? (i := 995) (by decide +kernel), List.mem_of_getElem? (i := 1253) (by decide +kernel), List.mem_of_getElem? (i := 1254) (by decide +kernel)⟩
def lw_privs_1 : List (MethodName × Nat) := [(⟨"DriftCards$Reading", "countCards", "(II)I"⟩, 5), (⟨"DriftCards$Drift", "sinkAll", "()V"⟩, 15), (⟨"DriftCards$Drift", "goInWater", "(I)V"⟩, 15), (⟨"DriftCards$Drift", "asItFloats", "(I)I"⟩, 15), (⟨"DriftCards$Drift", "goFrom", "(II)V"⟩, 15), (⟨"DriftCards$Drift", "send", "(IIII)V"⟩, 15), (⟨"DriftCards$Drift", "beWalked", "()V"⟩, 15), (⟨"DriftCards$Prizes", "readTest", "(LDriftCards$Tape;I)Z"⟩, 8), (⟨"DriftCards", "payOf", "(I)I"⟩, 12), (⟨"DriftCards$Prizes", "holds", "(I)Z"⟩, 8), (⟨"DriftCards$Prizes", "isTrue", "(I)Z"⟩, 8), (⟨"DriftCardsModel", "told", "(II)I"⟩, 59), (⟨"DriftCardsModel", "tells", "(III)V"⟩, 59), (⟨"DriftCardsModel", "isCast", "(I)Z"⟩, 59), (⟨"DriftCardsModel", "driftOf", "(II)V"⟩, 59), (⟨"DriftCardsModel", "drift", "(IIIII)V"⟩, 59)]
theorem lw_r1 : ∀ q ∈ lw_privs_1, lw_okq q := List.forall_mem_cons.mpr ⟨lw_p0, List.forall_mem_cons.mpr ⟨lw_p1, List.forall_mem_cons.mpr ⟨lw_p2, List.forall_mem_cons.mpr ⟨lw_p3, List.forall_mem_cons.mpr ⟨lw_p4, List.forall_mem_cons.mpr ⟨lw_p5, List.forall_mem_cons.mpr ⟨lw_p6, List.forall_mem_cons.mpr ⟨lw_p7, List.forall_mem_cons.mpr ⟨lw_p8, List.forall_mem_cons.mpr ⟨lw_p9, List.forall_mem_cons.mpr ⟨lw_p10, List.forall_mem_cons.mpr ⟨lw_p11, List.forall_mem_cons.mpr ⟨lw_p12, List.forall_mem_cons.mpr ⟨lw_p13, List.forall_mem_cons.mpr ⟨lw_p14, List.forall_mem_cons.mpr ⟨lw_p15, fun _ h => absurd h List.not_mem_nil⟩⟩⟩⟩⟩⟩⟩⟩⟩⟩⟩⟩⟩⟩⟩⟩
theorem lw_p16 : lw_okq (⟨"DriftCardsModel", "drifts", "(III)V"⟩, 59) := ⟨⟨by decide +kernel, by decide +kernel⟩, List.mem_of_getElem? (i := 995) (by decide +kernel), List.mem_of_getElem? (i := 1258) (by decide +kernel), List.mem_of_getElem? (i := 1259) (by decide +kernel)⟩
theorem lw_p17 : lw_okq (⟨"DriftCardsModel", "goes", "(IIII)V"⟩, 59) := ⟨⟨by decide +kernel, by decide +kernel⟩, List.mem_of_getElem? (i := 995) (by decide +kernel), List.mem_of_getElem? (i := 1265) (by decide +kernel), List.mem_of_getElem? (i := 1266) (by decide +kernel)⟩
theorem lw_p18 : lw_okq (⟨"DriftCardsModel", "sumOf", "([II)I"⟩, 59) := ⟨⟨by decide +kernel, by decide +kernel⟩, List.mem_of_getElem? (i := 995) (by decide +kernel), List.mem_of_getElem? (i := 1269) (by decide +kernel), List.mem_of_getElem? (i := 1270) (by decide +kernel)⟩
theorem lw_p19 : lw_okq (⟨"DriftCardsModel", "isName", "(I)Z"⟩, 59) := ⟨⟨by decide +kernel, by decide +kernel⟩, List.mem_of_getElem? (i := 995) (by decide +kernel), List.mem_of_getElem? (i := 1289) (by decide +kernel), List.mem_of_getElem? (i := 1290) (by decide +kernel)⟩
theorem lw_p20 : lw_okq (⟨"DriftCardsModel", "isFind", "(I)Z"⟩, 59) := ⟨⟨by decide +kernel, by decide +kernel⟩, List.mem_of_getElem? (i := 995) (by decide +kernel), List.mem_of_getElem? (i := 1307) (by decide +kernel), List.mem_of_getElem? (i := 1308) (by decide +kernel)⟩
theorem lw_p21 : lw_okq (⟨"DriftCardsModel", "weightOf", "(II)I"⟩, 59) := ⟨⟨by decide +kernel, by decide +kernel⟩, List.mem_of_getElem? (i := 995) (by decide +kernel), List.mem_of_getElem? (i := 1315) (by decide +kernel), List.mem_of_getElem? (i := 1316) (by decide +kernel)⟩
theorem lw_p22 : lw_okq (⟨"DriftCardsModel", "cardsOf", "(II)I"⟩, 59) := ⟨⟨by decide +kernel, by decide +kernel⟩, List.mem_of_getElem? (i := 995) (by decide +kernel), List.mem_of_getElem? (i := 1319) (by decide +kernel), List.mem_of_getElem? (i := 1320) (by decide +kernel)⟩
theorem lw_p23 : lw_okq (⟨"DriftCardsModel", "foundIn", "(IIII)I"⟩, 59) := ⟨⟨by decide +kernel, by decide +kernel⟩, List.mem_of_getElem? (i := 995) (by decide +kernel), List.mem_of_getElem? (i := 1323) (by decide +kernel), List.mem_of_getElem? (i := 1324) (by decide +kernel)⟩
theorem lw_p24 : lw_okq (⟨"DriftCardsModel", "judged", "(I)I"⟩, 59) := ⟨⟨by decide +kernel, by decide +kernel⟩, List.mem_of_getElem? (i := 995) (by decide +kernel), List.mem_of_getElem? (i := 1331) (by decide +kernel), List.mem_of_getElem? (i := 1332) (by decide +kernel)⟩
theorem lw_p25 : lw_okq (⟨"DriftCardsModel", "bestOf", "(I)I"⟩, 59) := ⟨⟨by decide +kernel, by decide +kernel⟩, List.mem_of_getElem? (i := 995) (by decide +kernel), List.mem_of_getElem? (i := 1339) (by decide +kernel), List.mem_of_getElem? (i := 1340) (by decide +kernel)⟩
theorem lw_p26 : lw_okq (⟨"DriftCardsModel", "twinOf", "(I)I"⟩, 59) := ⟨⟨by decide +kernel, by decide +kernel⟩, List.mem_of_getElem? (i := 995) (by decide +kernel), List.mem_of_getElem? (i := 1351) (by decide +kernel), List.mem_of_getElem? (i := 1352) (by decide +kernel)⟩
theorem lw_p27 : lw_okq (⟨"DriftCardsModel", "isKnown", "(I)Z"⟩, 59) := ⟨⟨by decide +kernel, by decide +kernel⟩, List.mem_of_getElem? (i := 995) (by decide +kernel), List.mem_of_getElem? (i := 1355) (by decide +kernel), List.mem_of_getElem? (i := 1356) (by decide +kernel)⟩
theorem lw_p28 : lw_okq (⟨"DriftCardsModel", "findSure", "()V"⟩, 59) := ⟨⟨by decide +kernel, by decide +kernel⟩, List.mem_of_getElem? (i := 995) (by decide +kernel), List.mem_of_getElem? (i := 1363) (by decide +kernel), List.mem_of_getElem? (i := 1364) (by decide +kernel)⟩
theorem lw_p29 : lw_okq (⟨"DriftCardsModel", "gotBy", "(IIII)I"⟩, 59) := ⟨⟨by decide +kernel, by decide +kernel⟩, List.mem_of_getElem? (i := 995) (by decide +kernel), List.mem_of_getElem? (i := 1367) (by decide +kernel), List.mem_of_getElem? (i := 1368) (by decide +kernel)⟩
theorem lw_p30 : lw_okq (⟨"DriftCardsModel", "fits", "(I)V"⟩, 59) := ⟨⟨by decide +kernel, by decide +kernel⟩, List.mem_of_getElem? (i := 995) (by decide +kernel), List.mem_of_getElem? (i := 1380) (by decide +kernel), List.mem_of_getElem? (i := 1381) (by decide +kernel)⟩
theorem lw_p31 : lw_okq (⟨"DriftCardsModel", "missed", "(I)J"⟩, 59) := ⟨⟨by decide +kernel, by decide +kernel⟩, List.mem_of_getElem? (i := 995) (by decide +kernel), List.mem_of_getElem? (i := 1384) (by decide +kernel), List.mem_of_getElem? (i := 1385) (by decide +kernel)⟩
def lw_privs_2 : List (MethodName × Nat) := [(⟨"DriftCardsModel", "drifts", "(III)V"⟩, 59), (⟨"DriftCardsModel", "goes", "(IIII)V"⟩, 59), (⟨"DriftCardsModel", "sumOf", "([II)I"⟩, 59), (⟨"DriftCardsModel", "isName", "(I)Z"⟩, 59), (⟨"DriftCardsModel", "isFind", "(I)Z"⟩, 59), (⟨"DriftCardsModel", "weightOf", "(II)I"⟩, 59), (⟨"DriftCardsModel", "cardsOf", "(II)I"⟩, 59), (⟨"DriftCardsModel", "foundIn", "(IIII)I"⟩, 59), (⟨"DriftCardsModel", "judged", "(I)I"⟩, 59), (⟨"DriftCardsModel", "bestOf", "(I)I"⟩, 59), (⟨"DriftCardsModel", "twinOf", "(I)I"⟩, 59), (⟨"DriftCardsModel", "isKnown", "(I)Z"⟩, 59), (⟨"DriftCardsModel", "findSure", "()V"⟩, 59), (⟨"DriftCardsModel", "gotBy", "(IIII)I"⟩, 59), (⟨"DriftCardsModel", "fits", "(I)V"⟩, 59), (⟨"DriftCardsModel", "missed", "(I)J"⟩, 59)]
theorem lw_r2 : ∀ q ∈ lw_privs_2, lw_okq q := List.forall_mem_cons.mpr ⟨lw_p16, List.forall_mem_cons.mpr ⟨lw_p17, List.forall_mem_cons.mpr ⟨lw_p18, List.forall_mem_cons.mpr ⟨lw_p19, List.forall_mem_cons.mpr ⟨lw_p20, List.forall_mem_cons.mpr ⟨lw_p21, List.forall_mem_cons.mpr ⟨lw_p22, List.forall_mem_cons.mpr ⟨lw_p23, List.forall_mem_cons.mpr ⟨lw_p24, List.forall_mem_cons.mpr ⟨lw_p25, List.forall_mem_cons.mpr ⟨lw_p26, List.forall_mem_cons.mpr ⟨lw_p27, List.forall_mem_cons.mpr ⟨lw_p28, List.forall_mem_cons.mpr ⟨lw_p29, List.forall_mem_cons.mpr ⟨lw_p30, List.forall_mem_cons.mpr ⟨lw_p31, fun _ h => absurd h List.not_mem_nil⟩⟩⟩⟩⟩⟩⟩⟩⟩⟩⟩⟩⟩⟩⟩⟩
theorem lw_p32 : lw_okq (⟨"DriftCardsModel", "foundAll", "(IIIII)V"⟩, 59) := ⟨⟨by decide +kernel, by decide +kernel⟩, List.mem_of_getElem? (i := 995) (by decide +kernel), List.mem_of_getElem? (i := 1404) (by decide +kernel), List.mem_of_getElem? (i := 1405) (by decide +kernel)⟩
theorem lw_p33 : lw_okq (⟨"DriftCardsModel", "parses", "()Z"⟩, 59) := ⟨⟨by decide +kernel, by decide +kernel⟩, List.mem_of_getElem? (i := 995) (by decide +kernel), List.mem_of_getElem? (i := 1418) (by decide +kernel), List.mem_of_getElem? (i := 1419) (by decide +kernel)⟩
theorem lw_p34 : lw_okq (⟨"DriftCardsModel", "word", "(II)I"⟩, 59) := ⟨⟨by decide +kernel, by decide +kernel⟩, List.mem_of_getElem? (i := 995) (by decide +kernel), List.mem_of_getElem? (i := 1422) (by decide +kernel), List.mem_of_getElem? (i := 1423) (by decide +kernel)⟩
theorem lw_p35 : lw_okq (⟨"DriftCardsModel", "sign", "()I"⟩, 59) := ⟨⟨by decide +kernel, by decide +kernel⟩, List.mem_of_getElem? (i := 995) (by decide +kernel), List.mem_of_getElem? (i := 1429) (by decide +kernel), List.mem_of_getElem? (i := 1430) (by decide +kernel)⟩
theorem lw_p36 : lw_okq (⟨"DriftCardsModel", "takes", "(I)Z"⟩, 59) := ⟨⟨by decide +kernel, by decide +kernel⟩, List.mem_of_getElem? (i := 995) (by decide +kernel), List.mem_of_getElem? (i := 1433) (by decide +kernel), List.mem_of_getElem? (i := 1434) (by decide +kernel)⟩
theorem lw_p37 : lw_okq (⟨"DriftCardsModel", "number", "()Z"⟩, 59) := ⟨⟨by decide +kernel, by decide +kernel⟩, List.mem_of_getElem? (i := 995) (by decide +kernel), List.mem_of_getElem? (i := 1437) (by decide +kernel), List.mem_of_getElem? (i := 1438) (by decide +kernel)⟩
theorem lw_p38 : lw_okq (⟨"DriftCardsModel", "test", "(I)Z"⟩, 59) := ⟨⟨by decide +kernel, by decide +kernel⟩, List.mem_of_getElem? (i := 995) (by decide +kernel), List.mem_of_getElem? (i := 1444) (by decide +kernel), List.mem_of_getElem? (i := 1445) (by decide +kernel)⟩
theorem lw_p39 : lw_okq (⟨"DriftCardsModel", "paid", "(I)I"⟩, 59) := ⟨⟨by decide +kernel, by decide +kernel⟩, List.mem_of_getElem? (i := 995) (by decide +kernel), List.mem_of_getElem? (i := 1452) (by decide +kernel), List.mem_of_getElem? (i := 1453) (by decide +kernel)⟩
theorem lw_p40 : lw_okq (⟨"DriftCardsModel", "field", "(III)I"⟩, 59) := ⟨⟨by decide +kernel, by decide +kernel⟩, List.mem_of_getElem? (i := 995) (by decide +kernel), List.mem_of_getElem? (i := 1456) (by decide +kernel), List.mem_of_getElem? (i := 1457) (by decide +kernel)⟩
def lw_privs_3 : List (MethodName × Nat) := [(⟨"DriftCardsModel", "foundAll", "(IIIII)V"⟩, 59), (⟨"DriftCardsModel", "parses", "()Z"⟩, 59), (⟨"DriftCardsModel", "word", "(II)I"⟩, 59), (⟨"DriftCardsModel", "sign", "()I"⟩, 59), (⟨"DriftCardsModel", "takes", "(I)Z"⟩, 59), (⟨"DriftCardsModel", "number", "()Z"⟩, 59), (⟨"DriftCardsModel", "test", "(I)Z"⟩, 59), (⟨"DriftCardsModel", "paid", "(I)I"⟩, 59), (⟨"DriftCardsModel", "field", "(III)I"⟩, 59)]
theorem lw_r3 : ∀ q ∈ lw_privs_3, lw_okq q := List.forall_mem_cons.mpr ⟨lw_p32, List.forall_mem_cons.mpr ⟨lw_p33, List.forall_mem_cons.mpr ⟨lw_p34, List.forall_mem_cons.mpr ⟨lw_p35, List.forall_mem_cons.mpr ⟨lw_p36, List.forall_mem_cons.mpr ⟨lw_p37, List.forall_mem_cons.mpr ⟨lw_p38, List.forall_mem_cons.mpr ⟨lw_p39, List.forall_mem_cons.mpr ⟨lw_p40, fun _ h => absurd h List.not_mem_nil⟩⟩⟩⟩⟩⟩⟩⟩⟩
def lw_privs : List (MethodName × Nat) := lw_privs_1 ++ (lw_privs_2 ++ (lw_privs_3))
def lw_tbl : List Cond := k2_sels lw_privs ++ tables_1
theorem lw_privs_ok : ∀ q ∈ lw_privs, lw_okq q := by
  show ∀ q ∈ lw_privs_1 ++ (lw_privs_2 ++ (lw_privs_3)), lw_okq q
  exact List.forall_mem_append.mpr ⟨lw_r1, List.forall_mem_append.mpr ⟨lw_r2, lw_r3⟩⟩
def RX0 : String := "DriftCards$Casts"
def TX0 : u_T := fun k => match k with
  | 0 => ("DriftCards$Casts", "kind", "[I", true)
  | 1 => ("DriftCards$Casts", "first", "[I", true)
  | 2 => ("DriftCards$Casts", "many", "[I", true)
  | 3 => ("DriftCards$Casts", "month", "[I", true)
  | 4 => ("DriftCards$Casts", "place", "[I", true)
  | 5 => ("DriftCards$Casts", "caster", "[I", true)
  | 6 => ("DriftCards$Casts", "sinks", "[I", true)
  | _ => ("DriftCards$Casts", "size", "I", false)
def tyX0 : Nat → FieldType := fun k => match k with
  | 0 => .array .int
  | 1 => .array .int
  | 2 => .array .int
  | 3 => .array .int
  | 4 => .array .int
  | 5 => .array .int
  | 6 => .array .int
  | _ => .int
abbrev wsX00 : List Cond := u_ws RX0 TX0 8
theorem nmX0 : ∀ a, a < 8 → ∀ b, b < 8 → a ≠ b → (TX0 a).2.1 ≠ (TX0 b).2.1 := by decide +kernel
theorem tyX0_ok : ∀ k, k < 8 → parseFieldDescriptor (TX0 k).2.2.1 = some (tyX0 k) := by decide +kernel
abbrev cX0_init : ByteArray := prog_2_method_1_code
def yX0_init : MethodName := ⟨RX0, "<init>", "()V"⟩
abbrev cX0_add : ByteArray := prog_2_method_2_code
def yX0_add : MethodName := ⟨RX0, "add", "(IIIIIII)I"⟩
abbrev cX0_hasNumbers : ByteArray := prog_2_method_3_code
def yX0_hasNumbers : MethodName := ⟨RX0, "hasNumbers", "(III)Z"⟩
abbrev cX0_allCards : ByteArray := prog_2_method_4_code
def yX0_allCards : MethodName := ⟨RX0, "allCards", "()I"⟩
def RX1 : String := "DriftCards$Drift"
def TX1 : u_T := fun k => match k with
  | 0 => ("DriftCards$Drift", "sea", "LDriftCards$Sea;", true)
  | 1 => ("DriftCards$Drift", "water", "[I", true)
  | 2 => ("DriftCards$Drift", "coming", "[I", true)
  | 3 => ("DriftCards$Drift", "ashore", "[I", true)
  | 4 => ("DriftCards$Drift", "found", "[I", true)
  | 5 => ("DriftCards$Drift", "shift", "[I", true)
  | 6 => ("DriftCards$Drift", "kind", "I", false)
  | 7 => ("DriftCards$Drift", "castMonth", "I", false)
  | 8 => ("DriftCards$Drift", "sinks", "I", false)
  | 9 => ("DriftCards$Drift", "gone", "I", false)
  | 10 => ("DriftCards$Drift", "eastWind", "I", false)
  | 11 => ("DriftCards$Drift", "northWind", "I", false)
  | 12 => ("DriftCards$Drift", "buried", "I", false)
  | 13 => ("DriftCards$Drift", "lost", "I", false)
  | _ => ("DriftCards$Drift", "sunk", "I", false)
def tyX1 : Nat → FieldType := fun k => match k with
  | 0 => .object "DriftCards$Sea"
  | 1 => .array .int
  | 2 => .array .int
  | 3 => .array .int
  | 4 => .array .int
  | 5 => .array .int
  | 6 => .int
  | 7 => .int
  | 8 => .int
  | 9 => .int
  | 10 => .int
  | 11 => .int
  | 12 => .int
  | 13 => .int
  | _ => .int
abbrev wsX10 : List Cond := u_ws RX1 TX1 15
theorem nmX1 : ∀ a, a < 15 → ∀ b, b < 15 → a ≠ b → (TX1 a).2.1 ≠ (TX1 b).2.1 := by decide +kernel
theorem tyX1_ok : ∀ k, k < 15 → parseFieldDescriptor (TX1 k).2.2.1 = some (tyX1 k) := by decide +kernel
abbrev cX1_init : ByteArray := prog_3_method_1_code
def yX1_init : MethodName := ⟨RX1, "<init>", "(LDriftCards$Sea;)V"⟩
abbrev cX1_startCast : ByteArray := prog_3_method_2_code
def yX1_startCast : MethodName := ⟨RX1, "startCast", "(LDriftCards$Casts;I[I)V"⟩
abbrev cX1_start : ByteArray := prog_3_method_3_code
def yX1_start : MethodName := ⟨RX1, "start", "(IIII[I)V"⟩
abbrev cX1_goOn : ByteArray := prog_3_method_4_code
def yX1_goOn : MethodName := ⟨RX1, "goOn", "(I)V"⟩
abbrev cX1_sinkAll : ByteArray := prog_3_method_5_code
def yX1_sinkAll : MethodName := ⟨RX1, "sinkAll", "()V"⟩
abbrev cX1_goInWater : ByteArray := prog_3_method_6_code
def yX1_goInWater : MethodName := ⟨RX1, "goInWater", "(I)V"⟩
abbrev cX1_asItFloats : ByteArray := prog_3_method_7_code
def yX1_asItFloats : MethodName := ⟨RX1, "asItFloats", "(I)I"⟩
abbrev cX1_goFrom : ByteArray := prog_3_method_8_code
def yX1_goFrom : MethodName := ⟨RX1, "goFrom", "(II)V"⟩
abbrev cX1_send : ByteArray := prog_3_method_9_code
def yX1_send : MethodName := ⟨RX1, "send", "(IIII)V"⟩
abbrev cX1_beWalked : ByteArray := prog_3_method_10_code
def yX1_beWalked : MethodName := ⟨RX1, "beWalked", "()V"⟩
abbrev cX1_meets : ByteArray := prog_3_method_11_code
def yX1_meets : MethodName := ⟨RX1, "meets", "(LDriftCards$Drift;)Z"⟩
abbrev cX1_allParts : ByteArray := prog_3_method_12_code
def yX1_allParts : MethodName := ⟨RX1, "allParts", "(I)I"⟩
abbrev cX1_partsIn : ByteArray := prog_3_method_13_code
def yX1_partsIn : MethodName := ⟨RX1, "partsIn", "(II)I"⟩
abbrev cX1_foundIn : ByteArray := prog_3_method_14_code
def yX1_foundIn : MethodName := ⟨RX1, "foundIn", "(I)I"⟩
abbrev cX1_sumOf : ByteArray := prog_3_method_15_code
def yX1_sumOf : MethodName := ⟨RX1, "sumOf", "([I)I"⟩
def RX2 : String := "DriftCards$Finds"
def TX2 : u_T := fun k => match k with
  | 0 => ("DriftCards$Finds", "row", "[I", true)
  | 1 => ("DriftCards$Finds", "caster", "[I", true)
  | 2 => ("DriftCards$Finds", "name", "[I", true)
  | 3 => ("DriftCards$Finds", "from", "[I", true)
  | 4 => ("DriftCards$Finds", "to", "[I", true)
  | 5 => ("DriftCards$Finds", "toldAt", "[I", true)
  | 6 => ("DriftCards$Finds", "out", "[Z", true)
  | _ => ("DriftCards$Finds", "size", "I", false)
def tyX2 : Nat → FieldType := fun k => match k with
  | 0 => .array .int
  | 1 => .array .int
  | 2 => .array .int
  | 3 => .array .int
  | 4 => .array .int
  | 5 => .array .int
  | 6 => .array .boolean
  | _ => .int
abbrev wsX20 : List Cond := u_ws RX2 TX2 8
theorem nmX2 : ∀ a, a < 8 → ∀ b, b < 8 → a ≠ b → (TX2 a).2.1 ≠ (TX2 b).2.1 := by decide +kernel
theorem tyX2_ok : ∀ k, k < 8 → parseFieldDescriptor (TX2 k).2.2.1 = some (tyX2 k) := by decide +kernel
abbrev cX2_init : ByteArray := prog_4_method_1_code
def yX2_init : MethodName := ⟨RX2, "<init>", "()V"⟩
abbrev cX2_add : ByteArray := prog_4_method_2_code
def yX2_add : MethodName := ⟨RX2, "add", "(IIIIII)I"⟩
abbrev cX2_twinOf : ByteArray := prog_4_method_3_code
def yX2_twinOf : MethodName := ⟨RX2, "twinOf", "(I)I"⟩
abbrev cX2_isAllRead : ByteArray := prog_4_method_4_code
def yX2_isAllRead : MethodName := ⟨RX2, "isAllRead", "(I)Z"⟩
abbrev cX2_allOut : ByteArray := prog_4_method_5_code
def yX2_allOut : MethodName := ⟨RX2, "allOut", "()I"⟩
def RX3 : String := "DriftCards$Fitting"
def TX3 : u_T := fun k => match k with
  | 0 => ("DriftCards$Fitting", "sea", "LDriftCards$Sea;", true)
  | 1 => ("DriftCards$Fitting", "casts", "LDriftCards$Casts;", true)
  | 2 => ("DriftCards$Fitting", "names", "LDriftCards$Names;", true)
  | 3 => ("DriftCards$Fitting", "finds", "LDriftCards$Finds;", true)
  | 4 => ("DriftCards$Fitting", "landings", "LDriftCards$Landings;", true)
  | 5 => ("DriftCards$Fitting", "reading", "LDriftCards$Reading;", true)
  | 6 => ("DriftCards$Fitting", "drift", "LDriftCards$Drift;", true)
  | 7 => ("DriftCards$Fitting", "trial", "[I", true)
  | 8 => ("DriftCards$Fitting", "due", "[[I", true)
  | 9 => ("DriftCards$Fitting", "dueAt", "[I", true)
  | 10 => ("DriftCards$Fitting", "gotThere", "[I", true)
  | _ => ("DriftCards$Fitting", "kept", "[I", true)
def tyX3 : Nat → FieldType := fun k => match k with
  | 0 => .object "DriftCards$Sea"
  | 1 => .object "DriftCards$Casts"
  | 2 => .object "DriftCards$Names"
  | 3 => .object "DriftCards$Finds"
  | 4 => .object "DriftCards$Landings"
  | 5 => .object "DriftCards$Reading"
  | 6 => .object "DriftCards$Drift"
  | 7 => .array .int
  | 8 => .array (.array .int)
  | 9 => .array .int
  | 10 => .array .int
  | _ => .array .int
abbrev wsX30 : List Cond := u_ws RX3 TX3 12
theorem nmX3 : ∀ a, a < 12 → ∀ b, b < 12 → a ≠ b → (TX3 a).2.1 ≠ (TX3 b).2.1 := by decide +kernel
theorem tyX3_ok : ∀ k, k < 12 → parseFieldDescriptor (TX3 k).2.2.1 = some (tyX3 k) := by decide +kernel
abbrev cX3_init : ByteArray := prog_5_method_1_code
def yX3_init : MethodName := ⟨RX3, "<init>", "(LDriftCards$Sea;LDriftCards$Casts;LDriftCards$Names;LDriftCards$Finds;LDriftCards$Landings;LDriftCards$Reading;LDriftCards$Drift;)V"⟩
abbrev cX3_shiftsTold : ByteArray := prog_5_method_2_code
def yX3_shiftsTold : MethodName := ⟨RX3, "shiftsTold", "()I"⟩
abbrev cX3_refreshAll : ByteArray := prog_5_method_3_code
def yX3_refreshAll : MethodName := ⟨RX3, "refreshAll", "()V"⟩
abbrev cX3_refreshOne : ByteArray := prog_5_method_4_code
def yX3_refreshOne : MethodName := ⟨RX3, "refreshOne", "(I)V"⟩
abbrev cX3_slotOf : ByteArray := prog_5_method_5_code
def yX3_slotOf : MethodName := ⟨RX3, "slotOf", "(II)I"⟩
abbrev cX3_countGot : ByteArray := prog_5_method_6_code
def yX3_countGot : MethodName := ⟨RX3, "countGot", "()V"⟩
abbrev cX3_missedWith : ByteArray := prog_5_method_7_code
def yX3_missedWith : MethodName := ⟨RX3, "missedWith", "(I)J"⟩
abbrev cX3_leastMissed : ByteArray := prog_5_method_8_code
def yX3_leastMissed : MethodName := ⟨RX3, "leastMissed", "()I"⟩
abbrev cX3_turnsOf : ByteArray := prog_5_method_9_code
def yX3_turnsOf : MethodName := ⟨RX3, "turnsOf", "(I)I"⟩
abbrev cX3_tryDrift : ByteArray := prog_5_method_10_code
def yX3_tryDrift : MethodName := ⟨RX3, "tryDrift", "(IIIII)V"⟩
abbrev cX3_keepFound : ByteArray := prog_5_method_11_code
def yX3_keepFound : MethodName := ⟨RX3, "keepFound", "()V"⟩
abbrev cX3_offFromKept : ByteArray := prog_5_method_12_code
def yX3_offFromKept : MethodName := ⟨RX3, "offFromKept", "()I"⟩
def RX4 : String := "DriftCards$Landings"
def TX4 : u_T := fun k => match k with
  | 0 => ("DriftCards$Landings", "sea", "LDriftCards$Sea;", true)
  | 1 => ("DriftCards$Landings", "casts", "LDriftCards$Casts;", true)
  | 2 => ("DriftCards$Landings", "drift", "LDriftCards$Drift;", true)
  | 3 => ("DriftCards$Landings", "found", "[[I", true)
  | _ => ("DriftCards$Landings", "keptAt", "I", false)
def tyX4 : Nat → FieldType := fun k => match k with
  | 0 => .object "DriftCards$Sea"
  | 1 => .object "DriftCards$Casts"
  | 2 => .object "DriftCards$Drift"
  | 3 => .array (.array .int)
  | _ => .int
abbrev wsX40 : List Cond := u_ws RX4 TX4 5
theorem nmX4 : ∀ a, a < 5 → ∀ b, b < 5 → a ≠ b → (TX4 a).2.1 ≠ (TX4 b).2.1 := by decide +kernel
theorem tyX4_ok : ∀ k, k < 5 → parseFieldDescriptor (TX4 k).2.2.1 = some (tyX4 k) := by decide +kernel
abbrev cX4_init : ByteArray := prog_6_method_1_code
def yX4_init : MethodName := ⟨RX4, "<init>", "(LDriftCards$Sea;LDriftCards$Casts;LDriftCards$Drift;)V"⟩
abbrev cX4_refresh : ByteArray := prog_6_method_2_code
def yX4_refresh : MethodName := ⟨RX4, "refresh", "()V"⟩
def RX5 : String := "DriftCards$Names"
def TX5 : u_T := fun k => match k with
  | 0 => ("DriftCards$Names", "x0", "[I", true)
  | 1 => ("DriftCards$Names", "x1", "[I", true)
  | 2 => ("DriftCards$Names", "y0", "[I", true)
  | 3 => ("DriftCards$Names", "y1", "[I", true)
  | 4 => ("DriftCards$Names", "tongue", "[I", true)
  | _ => ("DriftCards$Names", "size", "I", false)
def tyX5 : Nat → FieldType := fun k => match k with
  | 0 => .array .int
  | 1 => .array .int
  | 2 => .array .int
  | 3 => .array .int
  | 4 => .array .int
  | _ => .int
abbrev wsX50 : List Cond := u_ws RX5 TX5 6
theorem nmX5 : ∀ a, a < 6 → ∀ b, b < 6 → a ≠ b → (TX5 a).2.1 ≠ (TX5 b).2.1 := by decide +kernel
theorem tyX5_ok : ∀ k, k < 6 → parseFieldDescriptor (TX5 k).2.2.1 = some (tyX5 k) := by decide +kernel
abbrev cX5_init : ByteArray := prog_7_method_1_code
def yX5_init : MethodName := ⟨RX5, "<init>", "()V"⟩
abbrev cX5_add : ByteArray := prog_7_method_2_code
def yX5_add : MethodName := ⟨RX5, "add", "(IIIII)I"⟩
abbrev cX5_stepsFrom : ByteArray := prog_7_method_3_code
def yX5_stepsFrom : MethodName := ⟨RX5, "stepsFrom", "(II)I"⟩
abbrev cX5_stepsInto : ByteArray := prog_7_method_4_code
def yX5_stepsInto : MethodName := ⟨RX5, "stepsInto", "(III)I"⟩
abbrev cX5_foundWithin : ByteArray := prog_7_method_5_code
def yX5_foundWithin : MethodName := ⟨RX5, "foundWithin", "([IIII)I"⟩
def RX6 : String := "DriftCards$Prizes"
def TX6 : u_T := fun k => match k with
  | 0 => ("DriftCards$Prizes", "worth", "[I", true)
  | 1 => ("DriftCards$Prizes", "tests", "[I", true)
  | 2 => ("DriftCards$Prizes", "isNot", "[Z", true)
  | 3 => ("DriftCards$Prizes", "field", "[I", true)
  | 4 => ("DriftCards$Prizes", "sign", "[I", true)
  | 5 => ("DriftCards$Prizes", "number", "[I", true)
  | 6 => ("DriftCards$Prizes", "fact", "[I", true)
  | _ => ("DriftCards$Prizes", "size", "I", false)
def tyX6 : Nat → FieldType := fun k => match k with
  | 0 => .array .int
  | 1 => .array .int
  | 2 => .array .boolean
  | 3 => .array .int
  | 4 => .array .int
  | 5 => .array .int
  | 6 => .array .int
  | _ => .int
abbrev wsX60 : List Cond := u_ws RX6 TX6 8
theorem nmX6 : ∀ a, a < 8 → ∀ b, b < 8 → a ≠ b → (TX6 a).2.1 ≠ (TX6 b).2.1 := by decide +kernel
theorem tyX6_ok : ∀ k, k < 8 → parseFieldDescriptor (TX6 k).2.2.1 = some (tyX6 k) := by decide +kernel
abbrev cX6_init : ByteArray := prog_8_method_1_code
def yX6_init : MethodName := ⟨RX6, "<init>", "()V"⟩
abbrev cX6_readFrom : ByteArray := prog_8_method_2_code
def yX6_readFrom : MethodName := ⟨RX6, "readFrom", "(LDriftCards$Tape;)Z"⟩
abbrev cX6_readTest : ByteArray := prog_8_method_3_code
def yX6_readTest : MethodName := ⟨RX6, "readTest", "(LDriftCards$Tape;I)Z"⟩
abbrev cX6_readField : ByteArray := prog_8_method_4_code
def yX6_readField : MethodName := ⟨RX6, "readField", "(LDriftCards$Tape;)I"⟩
abbrev cX6_readSign : ByteArray := prog_8_method_5_code
def yX6_readSign : MethodName := ⟨RX6, "readSign", "(LDriftCards$Tape;)I"⟩
abbrev cX6_keepRead : ByteArray := prog_8_method_6_code
def yX6_keepRead : MethodName := ⟨RX6, "keepRead", "()I"⟩
abbrev cX6_worthOfFacts : ByteArray := prog_8_method_7_code
def yX6_worthOfFacts : MethodName := ⟨RX6, "worthOfFacts", "()I"⟩
abbrev cX6_holds : ByteArray := prog_8_method_8_code
def yX6_holds : MethodName := ⟨RX6, "holds", "(I)Z"⟩
abbrev cX6_isTrue : ByteArray := prog_8_method_9_code
def yX6_isTrue : MethodName := ⟨RX6, "isTrue", "(I)Z"⟩
def RX7 : String := "DriftCards$Reading"
def TX7 : u_T := fun k => match k with
  | 0 => ("DriftCards$Reading", "casts", "LDriftCards$Casts;", true)
  | 1 => ("DriftCards$Reading", "names", "LDriftCards$Names;", true)
  | 2 => ("DriftCards$Reading", "finds", "LDriftCards$Finds;", true)
  | 3 => ("DriftCards$Reading", "landings", "LDriftCards$Landings;", true)
  | _ => ("DriftCards$Reading", "cardsThatFit", "[[I", true)
def tyX7 : Nat → FieldType := fun k => match k with
  | 0 => .object "DriftCards$Casts"
  | 1 => .object "DriftCards$Names"
  | 2 => .object "DriftCards$Finds"
  | 3 => .object "DriftCards$Landings"
  | _ => .array (.array .int)
abbrev wsX70 : List Cond := u_ws RX7 TX7 5
theorem nmX7 : ∀ a, a < 5 → ∀ b, b < 5 → a ≠ b → (TX7 a).2.1 ≠ (TX7 b).2.1 := by decide +kernel
theorem tyX7_ok : ∀ k, k < 5 → parseFieldDescriptor (TX7 k).2.2.1 = some (tyX7 k) := by decide +kernel
abbrev cX7_init : ByteArray := prog_9_method_1_code
def yX7_init : MethodName := ⟨RX7, "<init>", "(LDriftCards$Casts;LDriftCards$Names;LDriftCards$Finds;LDriftCards$Landings;)V"⟩
abbrev cX7_matchCast : ByteArray := prog_9_method_2_code
def yX7_matchCast : MethodName := ⟨RX7, "matchCast", "(I)V"⟩
abbrev cX7_matchFind : ByteArray := prog_9_method_3_code
def yX7_matchFind : MethodName := ⟨RX7, "matchFind", "(I)V"⟩
abbrev cX7_countCards : ByteArray := prog_9_method_4_code
def yX7_countCards : MethodName := ⟨RX7, "countCards", "(II)I"⟩
abbrev cX7_agrees : ByteArray := prog_9_method_5_code
def yX7_agrees : MethodName := ⟨RX7, "agrees", "(II)Z"⟩
abbrev cX7_cardsOf : ByteArray := prog_9_method_6_code
def yX7_cardsOf : MethodName := ⟨RX7, "cardsOf", "(II)I"⟩
abbrev cX7_weightOf : ByteArray := prog_9_method_7_code
def yX7_weightOf : MethodName := ⟨RX7, "weightOf", "(II)I"⟩
abbrev cX7_bestOf : ByteArray := prog_9_method_8_code
def yX7_bestOf : MethodName := ⟨RX7, "bestOf", "(I)I"⟩
abbrev cX7_verdictOf : ByteArray := prog_9_method_9_code
def yX7_verdictOf : MethodName := ⟨RX7, "verdictOf", "(I)I"⟩
abbrev cX7_castGot : ByteArray := prog_9_method_10_code
def yX7_castGot : MethodName := ⟨RX7, "castGot", "(I)I"⟩
def RX8 : String := "DriftCards$Sea"
def TX8 : u_T := fun k => match k with
  | 0 => ("DriftCards$Sea", "marks", "[[I", true)
  | 1 => ("DriftCards$Sea", "eastFrom", "[I", true)
  | 2 => ("DriftCards$Sea", "eastTo", "[I", true)
  | 3 => ("DriftCards$Sea", "northFrom", "[I", true)
  | 4 => ("DriftCards$Sea", "northTo", "[I", true)
  | 5 => ("DriftCards$Sea", "windEast", "[I", true)
  | 6 => ("DriftCards$Sea", "windNorth", "[I", true)
  | 7 => ("DriftCards$Sea", "rowTold", "[Z", true)
  | 8 => ("DriftCards$Sea", "rowEast", "[I", true)
  | 9 => ("DriftCards$Sea", "rowNorth", "[I", true)
  | 10 => ("DriftCards$Sea", "shift", "[I", true)
  | _ => ("DriftCards$Sea", "changes", "I", false)
def tyX8 : Nat → FieldType := fun k => match k with
  | 0 => .array (.array .int)
  | 1 => .array .int
  | 2 => .array .int
  | 3 => .array .int
  | 4 => .array .int
  | 5 => .array .int
  | 6 => .array .int
  | 7 => .array .boolean
  | 8 => .array .int
  | 9 => .array .int
  | 10 => .array .int
  | _ => .int
abbrev wsX80 : List Cond := u_ws RX8 TX8 12
theorem nmX8 : ∀ a, a < 12 → ∀ b, b < 12 → a ≠ b → (TX8 a).2.1 ≠ (TX8 b).2.1 := by decide +kernel
theorem tyX8_ok : ∀ k, k < 12 → parseFieldDescriptor (TX8 k).2.2.1 = some (tyX8 k) := by decide +kernel
abbrev cX8_init : ByteArray := prog_10_method_1_code
def yX8_init : MethodName := ⟨RX8, "<init>", "()V"⟩
abbrev cX8_putMarks : ByteArray := prog_10_method_2_code
def yX8_putMarks : MethodName := ⟨RX8, "putMarks", "(IIIII)I"⟩
abbrev cX8_putCurrent : ByteArray := prog_10_method_3_code
def yX8_putCurrent : MethodName := ⟨RX8, "putCurrent", "(III)V"⟩
abbrev cX8_putWind : ByteArray := prog_10_method_4_code
def yX8_putWind : MethodName := ⟨RX8, "putWind", "(III)V"⟩
abbrev cX8_putRow : ByteArray := prog_10_method_5_code
def yX8_putRow : MethodName := ⟨RX8, "putRow", "(IZII)I"⟩
abbrev cX8_eastWindIn : ByteArray := prog_10_method_6_code
def yX8_eastWindIn : MethodName := ⟨RX8, "eastWindIn", "(I)I"⟩
abbrev cX8_northWindIn : ByteArray := prog_10_method_7_code
def yX8_northWindIn : MethodName := ⟨RX8, "northWindIn", "(I)I"⟩
abbrev cX8_isWater : ByteArray := prog_10_method_8_code
def yX8_isWater : MethodName := ⟨RX8, "isWater", "(I)Z"⟩
abbrev cX8_isIcy : ByteArray := prog_10_method_9_code
def yX8_isIcy : MethodName := ⟨RX8, "isIcy", "(II)Z"⟩
def RX9 : String := "DriftCards$Tape"
def TX9 : u_T := fun k => match k with
  | 0 => ("DriftCards$Tape", "bytes", "[I", true)
  | 1 => ("DriftCards$Tape", "size", "I", false)
  | _ => ("DriftCards$Tape", "at", "I", false)
def tyX9 : Nat → FieldType := fun k => match k with
  | 0 => .array .int
  | 1 => .int
  | _ => .int
abbrev wsX90 : List Cond := u_ws RX9 TX9 3
theorem nmX9 : ∀ a, a < 3 → ∀ b, b < 3 → a ≠ b → (TX9 a).2.1 ≠ (TX9 b).2.1 := by decide +kernel
theorem tyX9_ok : ∀ k, k < 3 → parseFieldDescriptor (TX9 k).2.2.1 = some (tyX9 k) := by decide +kernel
abbrev cX9_init : ByteArray := prog_11_method_1_code
def yX9_init : MethodName := ⟨RX9, "<init>", "()V"⟩
abbrev cX9_append : ByteArray := prog_11_method_2_code
def yX9_append : MethodName := ⟨RX9, "append", "(JI)I"⟩
abbrev cX9_empty : ByteArray := prog_11_method_3_code
def yX9_empty : MethodName := ⟨RX9, "empty", "()V"⟩
abbrev cX9_isAtEnd : ByteArray := prog_11_method_4_code
def yX9_isAtEnd : MethodName := ⟨RX9, "isAtEnd", "()Z"⟩
abbrev cX9_isAt : ByteArray := prog_11_method_5_code
def yX9_isAt : MethodName := ⟨RX9, "isAt", "(I)Z"⟩
abbrev cX9_take : ByteArray := prog_11_method_6_code
def yX9_take : MethodName := ⟨RX9, "take", "(I)Z"⟩
abbrev cX9_takeWord : ByteArray := prog_11_method_7_code
def yX9_takeWord : MethodName := ⟨RX9, "takeWord", "(Ljava/lang/String;)Z"⟩
abbrev cX9_takeNumber : ByteArray := prog_11_method_8_code
def yX9_takeNumber : MethodName := ⟨RX9, "takeNumber", "()I"⟩
def RX10 : String := "DriftCards"
def TX10 : u_T := fun k => match k with
  | 0 => ("DriftCards", "sea", "LDriftCards$Sea;", true)
  | 1 => ("DriftCards", "casts", "LDriftCards$Casts;", true)
  | 2 => ("DriftCards", "names", "LDriftCards$Names;", true)
  | 3 => ("DriftCards", "finds", "LDriftCards$Finds;", true)
  | 4 => ("DriftCards", "drift", "LDriftCards$Drift;", true)
  | 5 => ("DriftCards", "otherDrift", "LDriftCards$Drift;", true)
  | 6 => ("DriftCards", "landings", "LDriftCards$Landings;", true)
  | 7 => ("DriftCards", "reading", "LDriftCards$Reading;", true)
  | 8 => ("DriftCards", "fitting", "LDriftCards$Fitting;", true)
  | 9 => ("DriftCards", "tape", "LDriftCards$Tape;", true)
  | 10 => ("DriftCards", "prizes", "LDriftCards$Prizes;", true)
  | _ => ("DriftCards", "time", "I", false)
def tyX10 : Nat → FieldType := fun k => match k with
  | 0 => .object "DriftCards$Sea"
  | 1 => .object "DriftCards$Casts"
  | 2 => .object "DriftCards$Names"
  | 3 => .object "DriftCards$Finds"
  | 4 => .object "DriftCards$Drift"
  | 5 => .object "DriftCards$Drift"
  | 6 => .object "DriftCards$Landings"
  | 7 => .object "DriftCards$Reading"
  | 8 => .object "DriftCards$Fitting"
  | 9 => .object "DriftCards$Tape"
  | 10 => .object "DriftCards$Prizes"
  | _ => .int
abbrev wsX100 : List Cond := u_ws RX10 TX10 12
theorem nmX10 : ∀ a, a < 12 → ∀ b, b < 12 → a ≠ b → (TX10 a).2.1 ≠ (TX10 b).2.1 := by decide +kernel
theorem tyX10_ok : ∀ k, k < 12 → parseFieldDescriptor (TX10 k).2.2.1 = some (tyX10 k) := by decide +kernel
abbrev cX10_init : ByteArray := prog_1_method_1_code
def yX10_init : MethodName := ⟨RX10, "<init>", "()V"⟩
abbrev cX10_paint : ByteArray := prog_1_method_2_code
def yX10_paint : MethodName := ⟨RX10, "paint", "(IIIII)I"⟩
abbrev cX10_cell : ByteArray := prog_1_method_3_code
def yX10_cell : MethodName := ⟨RX10, "cell", "(III)I"⟩
abbrev cX10_current : ByteArray := prog_1_method_4_code
def yX10_current : MethodName := ⟨RX10, "current", "(IIII)I"⟩
abbrev cX10_wind : ByteArray := prog_1_method_5_code
def yX10_wind : MethodName := ⟨RX10, "wind", "(III)I"⟩
abbrev cX10_storm : ByteArray := prog_1_method_6_code
def yX10_storm : MethodName := ⟨RX10, "storm", "(III)I"⟩
abbrev cX10_calm : ByteArray := prog_1_method_7_code
def yX10_calm : MethodName := ⟨RX10, "calm", "(I)I"⟩
abbrev cX10_cast : ByteArray := prog_1_method_8_code
def yX10_cast : MethodName := ⟨RX10, "cast", "(IIIIII)I"⟩
abbrev cX10_about : ByteArray := prog_1_method_9_code
def yX10_about : MethodName := ⟨RX10, "about", "(II)I"⟩
abbrev cX10_parts : ByteArray := prog_1_method_10_code
def yX10_parts : MethodName := ⟨RX10, "parts", "(III)I"⟩
abbrev cX10_partsAt : ByteArray := prog_1_method_11_code
def yX10_partsAt : MethodName := ⟨RX10, "partsAt", "(IIIII)I"⟩
abbrev cX10_apart : ByteArray := prog_1_method_12_code
def yX10_apart : MethodName := ⟨RX10, "apart", "(II)I"⟩
abbrev cX10_name : ByteArray := prog_1_method_13_code
def yX10_name : MethodName := ⟨RX10, "name", "(III)I"⟩
abbrev cX10_find : ByteArray := prog_1_method_14_code
def yX10_find : MethodName := ⟨RX10, "find", "(IIIII)I"⟩
abbrev cX10_clock : ByteArray := prog_1_method_15_code
def yX10_clock : MethodName := ⟨RX10, "clock", "(I)I"⟩
abbrev cX10_drop : ByteArray := prog_1_method_16_code
def yX10_drop : MethodName := ⟨RX10, "drop", "(II)I"⟩
abbrev cX10_weight : ByteArray := prog_1_method_17_code
def yX10_weight : MethodName := ⟨RX10, "weight", "(II)I"⟩
abbrev cX10_judge : ByteArray := prog_1_method_18_code
def yX10_judge : MethodName := ⟨RX10, "judge", "(I)I"⟩
abbrev cX10_best : ByteArray := prog_1_method_19_code
def yX10_best : MethodName := ⟨RX10, "best", "(I)I"⟩
abbrev cX10_cards : ByteArray := prog_1_method_20_code
def yX10_cards : MethodName := ⟨RX10, "cards", "(I)I"⟩
abbrev cX10_twin : ByteArray := prog_1_method_21_code
def yX10_twin : MethodName := ⟨RX10, "twin", "(I)I"⟩
abbrev cX10_got : ByteArray := prog_1_method_22_code
def yX10_got : MethodName := ⟨RX10, "got", "(III)I"⟩
abbrev cX10_move : ByteArray := prog_1_method_23_code
def yX10_move : MethodName := ⟨RX10, "move", "(II)I"⟩
abbrev cX10_fit : ByteArray := prog_1_method_24_code
def yX10_fit : MethodName := ⟨RX10, "fit", "(I)I"⟩
abbrev cX10_misfit : ByteArray := prog_1_method_25_code
def yX10_misfit : MethodName := ⟨RX10, "misfit", "()J"⟩
abbrev cX10_misses : ByteArray := prog_1_method_26_code
def yX10_misses : MethodName := ⟨RX10, "misses", "()J"⟩
abbrev cX10_doubt : ByteArray := prog_1_method_27_code
def yX10_doubt : MethodName := ⟨RX10, "doubt", "(I)I"⟩
abbrev cX10_tells : ByteArray := prog_1_method_28_code
def yX10_tells : MethodName := ⟨RX10, "tells", "(IIII)I"⟩
abbrev cX10_feed : ByteArray := prog_1_method_29_code
def yX10_feed : MethodName := ⟨RX10, "feed", "(JI)I"⟩
abbrev cX10_prize : ByteArray := prog_1_method_30_code
def yX10_prize : MethodName := ⟨RX10, "prize", "()I"⟩
abbrev cX10_pays : ByteArray := prog_1_method_31_code
def yX10_pays : MethodName := ⟨RX10, "pays", "(I)I"⟩
abbrev cX10_purse : ByteArray := prog_1_method_32_code
def yX10_purse : MethodName := ⟨RX10, "purse", "(I)I"⟩
abbrev cX10_letters : ByteArray := prog_1_method_33_code
def yX10_letters : MethodName := ⟨RX10, "letters", "(II)I"⟩
abbrev cX10_count : ByteArray := prog_1_method_34_code
def yX10_count : MethodName := ⟨RX10, "count", "(I)I"⟩
abbrev cX10_payOf : ByteArray := prog_1_method_35_code
def yX10_payOf : MethodName := ⟨RX10, "payOf", "(I)I"⟩
abbrev cX10_isWithin : ByteArray := prog_1_method_36_code
def yX10_isWithin : MethodName := ⟨RX10, "isWithin", "(III)Z"⟩
abbrev cX10_isIndex : ByteArray := prog_1_method_37_code
def yX10_isIndex : MethodName := ⟨RX10, "isIndex", "(II)Z"⟩
abbrev cX10_isCell : ByteArray := prog_1_method_38_code
def yX10_isCell : MethodName := ⟨RX10, "isCell", "(II)Z"⟩
abbrev cX10_placeOf : ByteArray := prog_1_method_39_code
def yX10_placeOf : MethodName := ⟨RX10, "placeOf", "(II)I"⟩
abbrev cX10_isStrength : ByteArray := prog_1_method_40_code
def yX10_isStrength : MethodName := ⟨RX10, "isStrength", "(I)Z"⟩
abbrev cX10_isTime : ByteArray := prog_1_method_41_code
def yX10_isTime : MethodName := ⟨RX10, "isTime", "(I)Z"⟩
abbrev cX10_isSpan : ByteArray := prog_1_method_42_code
def yX10_isSpan : MethodName := ⟨RX10, "isSpan", "(I)Z"⟩
abbrev cX10_areNumbers : ByteArray := prog_1_method_43_code
def yX10_areNumbers : MethodName := ⟨RX10, "areNumbers", "(II)Z"⟩
abbrev cX10_isMore : ByteArray := prog_1_method_44_code
def yX10_isMore : MethodName := ⟨RX10, "isMore", "(II)Z"⟩
abbrev cX10_isRow : ByteArray := prog_1_method_45_code
def yX10_isRow : MethodName := ⟨RX10, "isRow", "(I)Z"⟩
abbrev cX10_digitOf : ByteArray := prog_1_method_46_code
def yX10_digitOf : MethodName := ⟨RX10, "digitOf", "(II)I"⟩
abbrev cX10_shiftIn : ByteArray := prog_1_method_47_code
def yX10_shiftIn : MethodName := ⟨RX10, "shiftIn", "(II)I"⟩
def RX11 : String := "DriftCardsModel"
def TX11 : u_T := fun k => match k with
  | 0 => ("DriftCardsModel", "what", "[I", true)
  | 1 => ("DriftCardsModel", "region", "[I", true)
  | 2 => ("DriftCardsModel", "sand", "[I", true)
  | 3 => ("DriftCardsModel", "walked", "[I", true)
  | 4 => ("DriftCardsModel", "ice", "[I", true)
  | 5 => ("DriftCardsModel", "eastFrom", "[I", true)
  | 6 => ("DriftCardsModel", "eastTo", "[I", true)
  | 7 => ("DriftCardsModel", "northFrom", "[I", true)
  | 8 => ("DriftCardsModel", "northTo", "[I", true)
  | 9 => ("DriftCardsModel", "shift", "[I", true)
  | 10 => ("DriftCardsModel", "windEast", "[I", true)
  | 11 => ("DriftCardsModel", "windNorth", "[I", true)
  | 12 => ("DriftCardsModel", "stormEast", "[I", true)
  | 13 => ("DriftCardsModel", "stormNorth", "[I", true)
  | 14 => ("DriftCardsModel", "isStorm", "[Z", true)
  | 15 => ("DriftCardsModel", "kind", "[I", true)
  | 16 => ("DriftCardsModel", "first", "[I", true)
  | 17 => ("DriftCardsModel", "many", "[I", true)
  | 18 => ("DriftCardsModel", "begin", "[I", true)
  | 19 => ("DriftCardsModel", "place", "[I", true)
  | 20 => ("DriftCardsModel", "caster", "[I", true)
  | 21 => ("DriftCardsModel", "sinks", "[I", true)
  | 22 => ("DriftCardsModel", "casts", "I", false)
  | 23 => ("DriftCardsModel", "water", "[I", true)
  | 24 => ("DriftCardsModel", "after", "[I", true)
  | 25 => ("DriftCardsModel", "ashore", "[I", true)
  | 26 => ("DriftCardsModel", "found", "[I", true)
  | 27 => ("DriftCardsModel", "buried", "I", false)
  | 28 => ("DriftCardsModel", "lost", "I", false)
  | 29 => ("DriftCardsModel", "sunk", "I", false)
  | 30 => ("DriftCardsModel", "has", "[Z", true)
  | 31 => ("DriftCardsModel", "x0", "[I", true)
  | 32 => ("DriftCardsModel", "x1", "[I", true)
  | 33 => ("DriftCardsModel", "y0", "[I", true)
  | 34 => ("DriftCardsModel", "y1", "[I", true)
  | 35 => ("DriftCardsModel", "tongue", "[I", true)
  | 36 => ("DriftCardsModel", "digits", "[I", true)
  | 37 => ("DriftCardsModel", "findCaster", "[I", true)
  | 38 => ("DriftCardsModel", "findName", "[I", true)
  | 39 => ("DriftCardsModel", "from", "[I", true)
  | 40 => ("DriftCardsModel", "to", "[I", true)
  | 41 => ("DriftCardsModel", "toldAt", "[I", true)
  | 42 => ("DriftCardsModel", "isOut", "[Z", true)
  | 43 => ("DriftCardsModel", "names", "I", false)
  | 44 => ("DriftCardsModel", "finds", "I", false)
  | 45 => ("DriftCardsModel", "time", "I", false)
  | 46 => ("DriftCardsModel", "sureFor", "[I", true)
  | 47 => ("DriftCardsModel", "wasShift", "[I", true)
  | 48 => ("DriftCardsModel", "bestShift", "[I", true)
  | 49 => ("DriftCardsModel", "bestMissed", "J", false)
  | 50 => ("DriftCardsModel", "base", "[I", true)
  | 51 => ("DriftCardsModel", "tape", "[I", true)
  | 52 => ("DriftCardsModel", "prize", "[I", true)
  | 53 => ("DriftCardsModel", "tests", "[I", true)
  | 54 => ("DriftCardsModel", "test", "[I", true)
  | 55 => ("DriftCardsModel", "taped", "I", false)
  | 56 => ("DriftCardsModel", "prizes", "I", false)
  | 57 => ("DriftCardsModel", "at", "I", false)
  | _ => ("DriftCardsModel", "number", "I", false)
def tyX11 : Nat → FieldType := fun k => match k with
  | 0 => .array .int
  | 1 => .array .int
  | 2 => .array .int
  | 3 => .array .int
  | 4 => .array .int
  | 5 => .array .int
  | 6 => .array .int
  | 7 => .array .int
  | 8 => .array .int
  | 9 => .array .int
  | 10 => .array .int
  | 11 => .array .int
  | 12 => .array .int
  | 13 => .array .int
  | 14 => .array .boolean
  | 15 => .array .int
  | 16 => .array .int
  | 17 => .array .int
  | 18 => .array .int
  | 19 => .array .int
  | 20 => .array .int
  | 21 => .array .int
  | 22 => .int
  | 23 => .array .int
  | 24 => .array .int
  | 25 => .array .int
  | 26 => .array .int
  | 27 => .int
  | 28 => .int
  | 29 => .int
  | 30 => .array .boolean
  | 31 => .array .int
  | 32 => .array .int
  | 33 => .array .int
  | 34 => .array .int
  | 35 => .array .int
  | 36 => .array .int
  | 37 => .array .int
  | 38 => .array .int
  | 39 => .array .int
  | 40 => .array .int
  | 41 => .array .int
  | 42 => .array .boolean
  | 43 => .int
  | 44 => .int
  | 45 => .int
  | 46 => .array .int
  | 47 => .array .int
  | 48 => .array .int
  | 49 => .long
  | 50 => .array .int
  | 51 => .array .int
  | 52 => .array .int
  | 53 => .array .int
  | 54 => .array .int
  | 55 => .int
  | 56 => .int
  | 57 => .int
  | _ => .int
abbrev wsX110 : List Cond := u_ws RX11 TX11 59
theorem nmX11 : ∀ a, a < 59 → ∀ b, b < 59 → a ≠ b → (TX11 a).2.1 ≠ (TX11 b).2.1 := by decide +kernel
theorem tyX11_ok : ∀ k, k < 59 → parseFieldDescriptor (TX11 k).2.2.1 = some (tyX11 k) := by decide +kernel
abbrev cX11_init : ByteArray := prog_13_method_1_code
def yX11_init : MethodName := ⟨RX11, "<init>", "()V"⟩
abbrev cX11_isIn : ByteArray := prog_13_method_2_code
def yX11_isIn : MethodName := ⟨RX11, "isIn", "(JJJ)Z"⟩
abbrev cX11_isCell : ByteArray := prog_13_method_3_code
def yX11_isCell : MethodName := ⟨RX11, "isCell", "(II)Z"⟩
abbrev cX11_greatest : ByteArray := prog_13_method_4_code
def yX11_greatest : MethodName := ⟨RX11, "greatest", "(I)I"⟩
abbrev cX11_told : ByteArray := prog_13_method_5_code
def yX11_told : MethodName := ⟨RX11, "told", "(II)I"⟩
abbrev cX11_tells : ByteArray := prog_13_method_6_code
def yX11_tells : MethodName := ⟨RX11, "tells", "(III)V"⟩
abbrev cX11_paint : ByteArray := prog_13_method_7_code
def yX11_paint : MethodName := ⟨RX11, "paint", "(IIIII)I"⟩
abbrev cX11_cell : ByteArray := prog_13_method_8_code
def yX11_cell : MethodName := ⟨RX11, "cell", "(III)I"⟩
abbrev cX11_isSpan : ByteArray := prog_13_method_9_code
def yX11_isSpan : MethodName := ⟨RX11, "isSpan", "(I)Z"⟩
abbrev cX11_current : ByteArray := prog_13_method_10_code
def yX11_current : MethodName := ⟨RX11, "current", "(IIII)I"⟩
abbrev cX11_wind : ByteArray := prog_13_method_11_code
def yX11_wind : MethodName := ⟨RX11, "wind", "(III)I"⟩
abbrev cX11_storm : ByteArray := prog_13_method_12_code
def yX11_storm : MethodName := ⟨RX11, "storm", "(III)I"⟩
abbrev cX11_calm : ByteArray := prog_13_method_13_code
def yX11_calm : MethodName := ⟨RX11, "calm", "(I)I"⟩
abbrev cX11_isCast : ByteArray := prog_13_method_14_code
def yX11_isCast : MethodName := ⟨RX11, "isCast", "(I)Z"⟩
abbrev cX11_cast : ByteArray := prog_13_method_15_code
def yX11_cast : MethodName := ⟨RX11, "cast", "(IIIIII)I"⟩
abbrev cX11_about : ByteArray := prog_13_method_16_code
def yX11_about : MethodName := ⟨RX11, "about", "(II)I"⟩
abbrev cX11_floats : ByteArray := prog_13_method_17_code
def yX11_floats : MethodName := ⟨RX11, "floats", "(II)I"⟩
abbrev cX11_goes : ByteArray := prog_13_method_18_code
def yX11_goes : MethodName := ⟨RX11, "goes", "(IIII)V"⟩
abbrev cX11_drifts : ByteArray := prog_13_method_19_code
def yX11_drifts : MethodName := ⟨RX11, "drifts", "(III)V"⟩
abbrev cX11_drift : ByteArray := prog_13_method_20_code
def yX11_drift : MethodName := ⟨RX11, "drift", "(IIIII)V"⟩
abbrev cX11_driftOf : ByteArray := prog_13_method_21_code
def yX11_driftOf : MethodName := ⟨RX11, "driftOf", "(II)V"⟩
abbrev cX11_sumOf : ByteArray := prog_13_method_22_code
def yX11_sumOf : MethodName := ⟨RX11, "sumOf", "([II)I"⟩
abbrev cX11_parts : ByteArray := prog_13_method_23_code
def yX11_parts : MethodName := ⟨RX11, "parts", "(III)I"⟩
abbrev cX11_partsAt : ByteArray := prog_13_method_24_code
def yX11_partsAt : MethodName := ⟨RX11, "partsAt", "(IIIII)I"⟩
abbrev cX11_apart : ByteArray := prog_13_method_25_code
def yX11_apart : MethodName := ⟨RX11, "apart", "(II)I"⟩
abbrev cX11_isName : ByteArray := prog_13_method_26_code
def yX11_isName : MethodName := ⟨RX11, "isName", "(I)Z"⟩
abbrev cX11_isFind : ByteArray := prog_13_method_27_code
def yX11_isFind : MethodName := ⟨RX11, "isFind", "(I)Z"⟩
abbrev cX11_name : ByteArray := prog_13_method_28_code
def yX11_name : MethodName := ⟨RX11, "name", "(III)I"⟩
abbrev cX11_isRow : ByteArray := prog_13_method_29_code
def yX11_isRow : MethodName := ⟨RX11, "isRow", "(I)Z"⟩
abbrev cX11_find : ByteArray := prog_13_method_30_code
def yX11_find : MethodName := ⟨RX11, "find", "(IIIII)I"⟩
abbrev cX11_clock : ByteArray := prog_13_method_31_code
def yX11_clock : MethodName := ⟨RX11, "clock", "(I)I"⟩
abbrev cX11_drop : ByteArray := prog_13_method_32_code
def yX11_drop : MethodName := ⟨RX11, "drop", "(II)I"⟩
abbrev cX11_cardsOf : ByteArray := prog_13_method_33_code
def yX11_cardsOf : MethodName := ⟨RX11, "cardsOf", "(II)I"⟩
abbrev cX11_foundIn : ByteArray := prog_13_method_34_code
def yX11_foundIn : MethodName := ⟨RX11, "foundIn", "(IIII)I"⟩
abbrev cX11_weightOf : ByteArray := prog_13_method_35_code
def yX11_weightOf : MethodName := ⟨RX11, "weightOf", "(II)I"⟩
abbrev cX11_weight : ByteArray := prog_13_method_36_code
def yX11_weight : MethodName := ⟨RX11, "weight", "(II)I"⟩
abbrev cX11_bestOf : ByteArray := prog_13_method_37_code
def yX11_bestOf : MethodName := ⟨RX11, "bestOf", "(I)I"⟩
abbrev cX11_judged : ByteArray := prog_13_method_38_code
def yX11_judged : MethodName := ⟨RX11, "judged", "(I)I"⟩
abbrev cX11_judge : ByteArray := prog_13_method_39_code
def yX11_judge : MethodName := ⟨RX11, "judge", "(I)I"⟩
abbrev cX11_best : ByteArray := prog_13_method_40_code
def yX11_best : MethodName := ⟨RX11, "best", "(I)I"⟩
abbrev cX11_cards : ByteArray := prog_13_method_41_code
def yX11_cards : MethodName := ⟨RX11, "cards", "(I)I"⟩
abbrev cX11_isKnown : ByteArray := prog_13_method_42_code
def yX11_isKnown : MethodName := ⟨RX11, "isKnown", "(I)Z"⟩
abbrev cX11_twinOf : ByteArray := prog_13_method_43_code
def yX11_twinOf : MethodName := ⟨RX11, "twinOf", "(I)I"⟩
abbrev cX11_twin : ByteArray := prog_13_method_44_code
def yX11_twin : MethodName := ⟨RX11, "twin", "(I)I"⟩
abbrev cX11_findSure : ByteArray := prog_13_method_45_code
def yX11_findSure : MethodName := ⟨RX11, "findSure", "()V"⟩
abbrev cX11_gotBy : ByteArray := prog_13_method_46_code
def yX11_gotBy : MethodName := ⟨RX11, "gotBy", "(IIII)I"⟩
abbrev cX11_got : ByteArray := prog_13_method_47_code
def yX11_got : MethodName := ⟨RX11, "got", "(III)I"⟩
abbrev cX11_missed : ByteArray := prog_13_method_48_code
def yX11_missed : MethodName := ⟨RX11, "missed", "(I)J"⟩
abbrev cX11_fits : ByteArray := prog_13_method_49_code
def yX11_fits : MethodName := ⟨RX11, "fits", "(I)V"⟩
abbrev cX11_move : ByteArray := prog_13_method_50_code
def yX11_move : MethodName := ⟨RX11, "move", "(II)I"⟩
abbrev cX11_fit : ByteArray := prog_13_method_51_code
def yX11_fit : MethodName := ⟨RX11, "fit", "(I)I"⟩
abbrev cX11_misfit : ByteArray := prog_13_method_52_code
def yX11_misfit : MethodName := ⟨RX11, "misfit", "()J"⟩
abbrev cX11_misses : ByteArray := prog_13_method_53_code
def yX11_misses : MethodName := ⟨RX11, "misses", "()J"⟩
abbrev cX11_doubt : ByteArray := prog_13_method_54_code
def yX11_doubt : MethodName := ⟨RX11, "doubt", "(I)I"⟩
abbrev cX11_foundAll : ByteArray := prog_13_method_55_code
def yX11_foundAll : MethodName := ⟨RX11, "foundAll", "(IIIII)V"⟩
abbrev cX11_tells_ : ByteArray := prog_13_method_56_code
def yX11_tells_ : MethodName := ⟨RX11, "tells", "(IIII)I"⟩
abbrev cX11_feed : ByteArray := prog_13_method_57_code
def yX11_feed : MethodName := ⟨RX11, "feed", "(JI)I"⟩
abbrev cX11_sign : ByteArray := prog_13_method_58_code
def yX11_sign : MethodName := ⟨RX11, "sign", "()I"⟩
abbrev cX11_signOf : ByteArray := prog_13_method_59_code
def yX11_signOf : MethodName := ⟨RX11, "signOf", "(II)I"⟩
abbrev cX11_word : ByteArray := prog_13_method_60_code
def yX11_word : MethodName := ⟨RX11, "word", "(II)I"⟩
abbrev cX11_takes : ByteArray := prog_13_method_61_code
def yX11_takes : MethodName := ⟨RX11, "takes", "(I)Z"⟩
abbrev cX11_isDigit : ByteArray := prog_13_method_62_code
def yX11_isDigit : MethodName := ⟨RX11, "isDigit", "(I)Z"⟩
abbrev cX11_number : ByteArray := prog_13_method_63_code
def yX11_number : MethodName := ⟨RX11, "number", "()Z"⟩
abbrev cX11_test : ByteArray := prog_13_method_64_code
def yX11_test : MethodName := ⟨RX11, "test", "(I)Z"⟩
abbrev cX11_parses : ByteArray := prog_13_method_65_code
def yX11_parses : MethodName := ⟨RX11, "parses", "()Z"⟩
abbrev cX11_prize : ByteArray := prog_13_method_66_code
def yX11_prize : MethodName := ⟨RX11, "prize", "()I"⟩
abbrev cX11_beyond : ByteArray := prog_13_method_67_code
def yX11_beyond : MethodName := ⟨RX11, "beyond", "(III)I"⟩
abbrev cX11_field : ByteArray := prog_13_method_68_code
def yX11_field : MethodName := ⟨RX11, "field", "(III)I"⟩
abbrev cX11_paid : ByteArray := prog_13_method_69_code
def yX11_paid : MethodName := ⟨RX11, "paid", "(I)I"⟩
abbrev cX11_pays : ByteArray := prog_13_method_70_code
def yX11_pays : MethodName := ⟨RX11, "pays", "(I)I"⟩
abbrev cX11_purse : ByteArray := prog_13_method_71_code
def yX11_purse : MethodName := ⟨RX11, "purse", "(I)I"⟩
abbrev cX11_letters : ByteArray := prog_13_method_72_code
def yX11_letters : MethodName := ⟨RX11, "letters", "(II)I"⟩
abbrev cX11_count : ByteArray := prog_13_method_73_code
def yX11_count : MethodName := ⟨RX11, "count", "(I)I"⟩
def RJ6 : String := "java/lang/Integer"
abbrev cJ6_signum_0f7a4 : ByteArray := prog_14_method_56_code
def yJ6_signum_0f7a4 : MethodName := ⟨RJ6, "signum", "(I)I"⟩
def RJ9 : String := "java/lang/Math"
abbrev cJ9_abs_0f7a4 : ByteArray := prog_15_method_59_code
def yJ9_abs_0f7a4 : MethodName := ⟨RJ9, "abs", "(I)I"⟩
abbrev cJ9_max_7cf53 : ByteArray := prog_15_method_65_code
def yJ9_max_7cf53 : MethodName := ⟨RJ9, "max", "(II)I"⟩
def RJ0 : String := "java/lang/String"
abbrev cJ0_length_8abf5 : ByteArray := prog_16_method_54_code
def yJ0_length_8abf5 : MethodName := ⟨RJ0, "length", "()I"⟩
abbrev cJ0_charAt_5068e : ByteArray := prog_16_method_56_code
def yJ0_charAt_5068e : MethodName := ⟨RJ0, "charAt", "(I)C"⟩
abbrev cJ0_coder_7d493 : ByteArray := prog_16_method_152_code
def yJ0_coder_7d493 : MethodName := ⟨RJ0, "coder", "()B"⟩
abbrev cJ0_isLatin1_aae02 : ByteArray := prog_16_method_154_code
def yJ0_isLatin1_aae02 : MethodName := ⟨RJ0, "isLatin1", "()Z"⟩
abbrev cJ0_checkIndex_df160 : ByteArray := prog_16_method_155_code
def yJ0_checkIndex_df160 : MethodName := ⟨RJ0, "checkIndex", "(II)V"⟩
def RJ1 : String := "java/lang/StringLatin1"
abbrev cJ1_charAt_3b067 : ByteArray := prog_17_method_2_code
def yJ1_charAt_3b067 : MethodName := ⟨RJ1, "charAt", "([BI)C"⟩
def RJ7 : String := "java/util/Arrays"
abbrev cJ7_fill_53178 : ByteArray := prog_20_method_103_code
def yJ7_fill_53178 : MethodName := ⟨RJ7, "fill", "([II)V"⟩
def RJ3 : String := "jdk/internal/util/Preconditions"
abbrev cJ3_checkIndex_8e157 : ByteArray := prog_21_method_11_code
def yJ3_checkIndex_8e157 : MethodName := ⟨RJ3, "checkIndex", "(IILjava/util/function/BiFunction;)I"⟩
def RL : String := "DriftCardsLaw"
def yL_law : MethodName := ⟨RL, "law", "([I)Z"⟩
abbrev vwCl : List vw_C := [(RX0, TX0, 8), (RX1, TX1, 15), (RX2, TX2, 8), (RX3, TX3, 12), (RX4, TX4, 5), (RX5, TX5, 6), (RX6, TX6, 8), (RX7, TX7, 5), (RX8, TX8, 12), (RX9, TX9, 3), (RX10, TX10, 12), (RX11, TX11, 59)]
abbrev cL_law : ByteArray := code
abbrev am_T : Type := MethodName × ByteArray × Nat × Option FieldType × Nat × Nat × Nat
def am_ms0 : List am_T := [(yX10_init, cX10_init, 1, none, 10, 2, 47), (yX8_init, cX8_init, 1, none, 8, 1, 20), (yX0_init, cX0_init, 1, none, 0, 1, 20), (yX5_init, cX5_init, 1, none, 5, 1, 20), (yX2_init, cX2_init, 1, none, 2, 1, 20), (yX1_init, cX1_init, 2, none, 1, 1, 20), (yX4_init, cX4_init, 4, none, 4, 1, 20), (yX7_init, cX7_init, 5, none, 7, 1, 20), (yX3_init, cX3_init, 8, none, 3, 1, 20), (yX9_init, cX9_init, 1, none, 9, 1, 20), (yX6_init, cX6_init, 1, none, 6, 1, 20), (yX10_paint, cX10_paint, 6, (some .int), 10, 2, 49), (yX10_isCell, cX10_isCell, 2, (some .boolean), 10, 0, 0), (yX10_isIndex, cX10_isIndex, 2, (some .boolean), 10, 0, 0), (yX10_isWithin, cX10_isWithin, 3, (some .boolean), 10, 0, 0), (yX8_putMarks, cX8_putMarks, 9, (some .int), 8, 1, 21), (yX10_placeOf, cX10_placeOf, 2, (some .int), 10, 0, 0), (yX10_cell, cX10_cell, 4, (some .int), 10, 1, 21), (yX10_current, cX10_current, 5, (some .int), 10, 1, 23), (yX10_isSpan, cX10_isSpan, 1, (some .boolean), 10, 0, 0), (yX8_putCurrent, cX8_putCurrent, 4, none, 8, 0, 0), (yX10_wind, cX10_wind, 4, (some .int), 10, 2, 42), (yX10_isStrength, cX10_isStrength, 1, (some .boolean), 10, 1, 22), (yX8_putWind, cX8_putWind, 4, none, 8, 0, 0), (yX10_storm, cX10_storm, 4, (some .int), 10, 2, 42), (yX8_putRow, cX8_putRow, 6, (some .int), 8, 0, 0), (yX10_calm, cX10_calm, 2, (some .int), 10, 1, 25), (yX10_cast, cX10_cast, 9, (some .int), 10, 4, 91), (yX10_areNumbers, cX10_areNumbers, 2, (some .boolean), 10, 1, 22), (yX10_isMore, cX10_isMore, 3, (some .boolean), 10, 1, 22)]
def am_ms1 : List am_T := [(yX8_isWater, cX8_isWater, 2, (some .boolean), 8, 0, 0), (yX0_hasNumbers, cX0_hasNumbers, 5, (some .boolean), 0, 0, 0), (yX0_add, cX0_add, 8, (some .int), 0, 0, 0), (yX7_matchCast, cX7_matchCast, 3, none, 7, 3, 69), (yX7_countCards, cX7_countCards, 5, (some .int), 7, 2, 45), (yX7_agrees, cX7_agrees, 5, (some .boolean), 7, 1, 21), (yX10_digitOf, cX10_digitOf, 2, (some .int), 10, 0, 0), (yX10_about, cX10_about, 3, (some .int), 10, 1, 21), (yX10_parts, cX10_parts, 4, (some .int), 10, 5, 124), (yX1_startCast, cX1_startCast, 4, none, 1, 2, 73), (yX1_start, cX1_start, 6, none, 1, 1, 48), (yJ7_fill_53178, cJ7_fill_53178, 4, none, 16, 0, 0), (yX1_goOn, cX1_goOn, 3, none, 1, 4, 102), (yX1_sinkAll, cX1_sinkAll, 1, none, 1, 1, 25), (yX1_sumOf, cX1_sumOf, 6, (some .int), 1, 0, 0), (yX1_goInWater, cX1_goInWater, 3, none, 1, 3, 80), (yX8_eastWindIn, cX8_eastWindIn, 2, (some .int), 8, 0, 0), (yX1_asItFloats, cX1_asItFloats, 2, (some .int), 1, 0, 0), (yX8_northWindIn, cX8_northWindIn, 2, (some .int), 8, 0, 0), (yX8_isIcy, cX8_isIcy, 3, (some .boolean), 8, 0, 0), (yX1_goFrom, cX1_goFrom, 8, none, 1, 2, 53), (yX1_send, cX1_send, 13, none, 1, 1, 21), (yJ9_abs_0f7a4, cJ9_abs_0f7a4, 1, (some .int), 13, 0, 0), (yJ6_signum_0f7a4, cJ6_signum_0f7a4, 1, (some .int), 12, 0, 0), (yX1_beWalked, cX1_beWalked, 5, none, 1, 0, 0), (yX1_allParts, cX1_allParts, 2, (some .int), 1, 1, 25), (yX10_partsAt, cX10_partsAt, 6, (some .int), 10, 5, 124), (yX1_partsIn, cX1_partsIn, 3, (some .int), 1, 1, 23), (yX1_foundIn, cX1_foundIn, 4, (some .int), 1, 0, 0), (yX10_apart, cX10_apart, 4, (some .int), 10, 5, 124)]
def am_ms2 : List am_T := [(yX1_meets, cX1_meets, 3, (some .boolean), 1, 0, 0), (yX10_name, cX10_name, 8, (some .int), 10, 1, 25), (yX5_add, cX5_add, 6, (some .int), 5, 0, 0), (yX10_find, cX10_find, 7, (some .int), 10, 4, 91), (yX10_isRow, cX10_isRow, 2, (some .boolean), 10, 1, 22), (yX2_add, cX2_add, 7, (some .int), 2, 0, 0), (yX7_matchFind, cX7_matchFind, 3, none, 7, 3, 69), (yX10_clock, cX10_clock, 3, (some .int), 10, 0, 0), (yX10_drop, cX10_drop, 4, (some .int), 10, 1, 22), (yX10_weight, cX10_weight, 3, (some .int), 10, 6, 145), (yX4_refresh, cX4_refresh, 2, none, 4, 5, 124), (yX7_weightOf, cX7_weightOf, 4, (some .int), 7, 2, 50), (yX5_foundWithin, cX5_foundWithin, 10, (some .int), 5, 1, 21), (yJ9_max_7cf53, cJ9_max_7cf53, 2, (some .int), 13, 0, 0), (yX10_judge, cX10_judge, 2, (some .int), 10, 6, 145), (yX7_verdictOf, cX7_verdictOf, 5, (some .int), 7, 3, 73), (yX10_best, cX10_best, 2, (some .int), 10, 6, 145), (yX7_bestOf, cX7_bestOf, 6, (some .int), 7, 3, 73), (yX10_cards, cX10_cards, 3, (some .int), 10, 6, 145), (yX7_cardsOf, cX7_cardsOf, 3, (some .int), 7, 0, 0), (yX10_twin, cX10_twin, 2, (some .int), 10, 3, 64), (yX2_twinOf, cX2_twinOf, 3, (some .int), 2, 2, 42), (yX2_isAllRead, cX2_isAllRead, 2, (some .boolean), 2, 1, 21), (yX10_got, cX10_got, 8, (some .int), 10, 6, 145), (yX10_isTime, cX10_isTime, 1, (some .boolean), 10, 1, 22), (yX7_castGot, cX7_castGot, 2, (some .int), 7, 4, 98), (yX10_move, cX10_move, 4, (some .int), 10, 1, 22), (yX10_fit, cX10_fit, 2, (some .int), 10, 7, 169), (yX3_refreshAll, cX3_refreshAll, 2, none, 3, 6, 148), (yX3_countGot, cX3_countGot, 3, none, 3, 5, 119)]
def am_ms3 : List am_T := [(yX3_slotOf, cX3_slotOf, 2, (some .int), 3, 0, 0), (yX3_refreshOne, cX3_refreshOne, 5, none, 3, 5, 124), (yX10_shiftIn, cX10_shiftIn, 2, (some .int), 10, 0, 0), (yX3_leastMissed, cX3_leastMissed, 7, (some .int), 3, 2, 48), (yX3_missedWith, cX3_missedWith, 8, (some .long), 3, 1, 21), (yX10_misfit, cX10_misfit, 1, (some .long), 10, 7, 169), (yX10_misses, cX10_misses, 2, (some .long), 10, 6, 148), (yX3_shiftsTold, cX3_shiftsTold, 1, (some .int), 3, 0, 0), (yX10_doubt, cX10_doubt, 2, (some .int), 10, 7, 169), (yX3_turnsOf, cX3_turnsOf, 8, (some .int), 3, 5, 119), (yX10_tells, cX10_tells, 7, (some .int), 10, 6, 149), (yX3_tryDrift, cX3_tryDrift, 6, none, 3, 5, 124), (yX3_keepFound, cX3_keepFound, 2, none, 3, 1, 23), (yX3_offFromKept, cX3_offFromKept, 3, (some .int), 3, 1, 23), (yX10_feed, cX10_feed, 4, (some .int), 10, 1, 24), (yX9_append, cX9_append, 5, (some .int), 9, 0, 0), (yX10_prize, cX10_prize, 3, (some .int), 10, 8, 171), (yX6_readFrom, cX6_readFrom, 3, (some .boolean), 6, 7, 149), (yX9_takeWord, cX9_takeWord, 3, (some .boolean), 9, 4, 85), (yJ0_length_8abf5, cJ0_length_8abf5, 1, (some .int), 14, 1, 20), (yJ0_coder_7d493, cJ0_coder_7d493, 1, (some .byte), 14, 0, 0), (yJ0_charAt_5068e, cJ0_charAt_5068e, 2, (some .char), 14, 3, 64), (yJ0_isLatin1_aae02, cJ0_isLatin1_aae02, 1, (some .boolean), 14, 0, 0), (yJ1_charAt_3b067, cJ1_charAt_3b067, 2, (some .char), 15, 2, 43), (yJ0_checkIndex_df160, cJ0_checkIndex_df160, 2, none, 14, 1, 22), (yJ3_checkIndex_8e157, cJ3_checkIndex_8e157, 3, (some .int), 17, 0, 0), (yX9_take, cX9_take, 2, (some .boolean), 9, 1, 21), (yX9_isAt, cX9_isAt, 2, (some .boolean), 9, 0, 0), (yX9_takeNumber, cX9_takeNumber, 3, (some .int), 9, 1, 21), (yX9_isAtEnd, cX9_isAtEnd, 1, (some .boolean), 9, 0, 0)]
def am_ms4 : List am_T := [(yX6_readTest, cX6_readTest, 3, (some .boolean), 6, 6, 127), (yX6_readField, cX6_readField, 1, (some .int), 6, 5, 107), (yX6_readSign, cX6_readSign, 1, (some .int), 6, 2, 42), (yX9_empty, cX9_empty, 1, none, 9, 0, 0), (yX6_keepRead, cX6_keepRead, 1, (some .int), 6, 0, 0), (yX10_pays, cX10_pays, 2, (some .int), 10, 6, 145), (yX10_payOf, cX10_payOf, 4, (some .int), 10, 4, 98), (yX5_stepsFrom, cX5_stepsFrom, 3, (some .int), 5, 2, 43), (yX5_stepsInto, cX5_stepsInto, 3, (some .int), 5, 1, 21), (yX6_worthOfFacts, cX6_worthOfFacts, 3, (some .int), 6, 2, 45), (yX6_holds, cX6_holds, 4, (some .boolean), 6, 1, 22), (yX6_isTrue, cX6_isTrue, 3, (some .boolean), 6, 0, 0), (yX10_purse, cX10_purse, 4, (some .int), 10, 6, 145), (yX10_letters, cX10_letters, 5, (some .int), 10, 2, 42), (yX10_count, cX10_count, 2, (some .int), 10, 1, 22), (yX0_allCards, cX0_allCards, 3, (some .int), 0, 0, 0), (yX2_allOut, cX2_allOut, 3, (some .int), 2, 0, 0), (yX11_init, cX11_init, 1, none, 11, 1, 20), (yX11_paint, cX11_paint, 8, (some .int), 11, 1, 25), (yX11_isCell, cX11_isCell, 2, (some .boolean), 11, 0, 0), (yX11_isIn, cX11_isIn, 6, (some .boolean), 11, 0, 0), (yX11_greatest, cX11_greatest, 1, (some .int), 11, 0, 0), (yX11_told, cX11_told, 3, (some .int), 11, 0, 0), (yX11_tells, cX11_tells, 4, none, 11, 0, 0), (yX11_cell, cX11_cell, 4, (some .int), 11, 1, 25), (yX11_current, cX11_current, 6, (some .int), 11, 1, 25), (yX11_isSpan, cX11_isSpan, 1, (some .boolean), 11, 0, 0), (yX11_wind, cX11_wind, 4, (some .int), 11, 1, 25), (yX11_storm, cX11_storm, 5, (some .int), 11, 1, 25), (yX11_calm, cX11_calm, 3, (some .int), 11, 1, 25)]
def am_ms5 : List am_T := [(yX11_cast, cX11_cast, 8, (some .int), 11, 1, 25), (yX11_about, cX11_about, 3, (some .int), 11, 1, 21), (yX11_isCast, cX11_isCast, 2, (some .boolean), 11, 0, 0), (yX11_parts, cX11_parts, 4, (some .int), 11, 5, 133), (yX11_driftOf, cX11_driftOf, 3, none, 11, 4, 111), (yX11_drift, cX11_drift, 10, none, 11, 3, 82), (yX11_drifts, cX11_drifts, 11, none, 11, 2, 52), (yX11_floats, cX11_floats, 2, (some .int), 11, 0, 0), (yX11_goes, cX11_goes, 12, none, 11, 1, 21), (yX11_sumOf, cX11_sumOf, 5, (some .int), 11, 0, 0), (yX11_partsAt, cX11_partsAt, 9, (some .int), 11, 5, 133), (yX11_apart, cX11_apart, 6, (some .int), 11, 5, 133), (yX11_name, cX11_name, 4, (some .int), 11, 1, 25), (yX11_find, cX11_find, 6, (some .int), 11, 2, 47), (yX11_isName, cX11_isName, 2, (some .boolean), 11, 0, 0), (yX11_isRow, cX11_isRow, 3, (some .boolean), 11, 1, 25), (yX11_clock, cX11_clock, 3, (some .int), 11, 1, 25), (yX11_drop, cX11_drop, 4, (some .int), 11, 1, 25), (yX11_isFind, cX11_isFind, 2, (some .boolean), 11, 0, 0), (yX11_weight, cX11_weight, 3, (some .int), 11, 6, 155), (yX11_weightOf, cX11_weightOf, 3, (some .int), 11, 5, 133), (yX11_cardsOf, cX11_cardsOf, 9, (some .int), 11, 0, 0), (yX11_foundIn, cX11_foundIn, 9, (some .int), 11, 1, 25), (yX11_judge, cX11_judge, 2, (some .int), 11, 7, 179), (yX11_judged, cX11_judged, 5, (some .int), 11, 6, 155), (yX11_best, cX11_best, 2, (some .int), 11, 7, 180), (yX11_bestOf, cX11_bestOf, 6, (some .int), 11, 6, 155), (yX11_cards, cX11_cards, 3, (some .int), 11, 7, 180), (yX11_twin, cX11_twin, 2, (some .int), 11, 2, 45), (yX11_twinOf, cX11_twinOf, 3, (some .int), 11, 1, 23)]
def am_ms6 : List am_T := [(yX11_isKnown, cX11_isKnown, 4, (some .boolean), 11, 0, 0), (yX11_got, cX11_got, 4, (some .int), 11, 8, 201), (yX11_findSure, cX11_findSure, 2, none, 11, 7, 180), (yX11_gotBy, cX11_gotBy, 7, (some .int), 11, 0, 0), (yX11_move, cX11_move, 4, (some .int), 11, 1, 25), (yX11_fit, cX11_fit, 2, (some .int), 11, 8, 201), (yX11_fits, cX11_fits, 6, none, 11, 6, 160), (yX11_missed, cX11_missed, 8, (some .long), 11, 5, 133), (yX11_misfit, cX11_misfit, 1, (some .long), 11, 8, 201), (yX11_misses, cX11_misses, 1, (some .long), 11, 8, 201), (yX11_doubt, cX11_doubt, 6, (some .int), 11, 8, 201), (yX11_tells_, cX11_tells_, 10, (some .int), 11, 5, 137), (yX11_foundAll, cX11_foundAll, 7, none, 11, 4, 111), (yX11_feed, cX11_feed, 5, (some .int), 11, 1, 25), (yX11_prize, cX11_prize, 2, (some .int), 11, 4, 89), (yX11_parses, cX11_parses, 1, (some .boolean), 11, 3, 69), (yX11_word, cX11_word, 5, (some .int), 11, 1, 21), (yX11_signOf, cX11_signOf, 2, (some .int), 11, 0, 0), (yX11_sign, cX11_sign, 1, (some .int), 11, 0, 0), (yX11_takes, cX11_takes, 2, (some .boolean), 11, 1, 20), (yX11_number, cX11_number, 2, (some .boolean), 11, 1, 20), (yX11_isDigit, cX11_isDigit, 1, (some .boolean), 11, 0, 0), (yX11_test, cX11_test, 5, (some .boolean), 11, 2, 45), (yX11_pays, cX11_pays, 2, (some .int), 11, 8, 208), (yX11_paid, cX11_paid, 9, (some .int), 11, 7, 180), (yX11_field, cX11_field, 5, (some .int), 11, 6, 155), (yX11_beyond, cX11_beyond, 3, (some .int), 11, 0, 0), (yX11_purse, cX11_purse, 4, (some .int), 11, 8, 208), (yX11_letters, cX11_letters, 5, (some .int), 11, 1, 25), (yX11_count, cX11_count, 4, (some .int), 11, 0, 0)]
def am_ms7 : List am_T := [(yL_law, cL_law, 4, (some .boolean), 18, 9, 231)]
def am_ms : List am_T := am_ms0 ++ (am_ms1 ++ (am_ms2 ++ (am_ms3 ++ (am_ms4 ++ (am_ms5 ++ (am_ms6 ++ (am_ms7)))))))
def am_m (i : Nat) : am_T := am_ms.getD i (⟨"", "", ""⟩, ⟨#[]⟩, 0, none, 0, 0, 0)
def am_y (i : Nat) : MethodName := (am_m i).1
def am_c (i : Nat) : ByteArray := (am_m i).2.1
def am_mx (i : Nat) : Nat := (am_m i).2.2.1
def am_rt (i : Nat) : Option FieldType := (am_m i).2.2.2.1
def am_ow (i : Nat) : Nat := (am_m i).2.2.2.2.1
def am_fr (i : Nat) : Nat := (am_m i).2.2.2.2.2.1
def am_lo (i : Nat) : Nat := (am_m i).2.2.2.2.2.2
def am_cns : List String := [RX0, RX1, RX2, RX3, RX4, RX5, RX6, RX7, RX8, RX9, RX10, RX11, RJ6, RJ9, RJ0, RJ1, RJ7, RJ3, RL]
def am_cn (o : Nat) : String := am_cns.getD o ""
def am_fls : List (List (Nat × Nat × Nat)) := [[(9, 0, 0), (15, 0, 1), (18, 0, 2), (21, 0, 3), (24, 0, 4), (27, 0, 5), (30, 0, 6), (33, 0, 7)],
  [(122, 8, 0), (126, 8, 1), (136, 8, 2), (129, 8, 3), (139, 8, 4), (31, 0, 0), (36, 0, 3), (39, 0, 4), (42, 0, 6), (27, 1, 0), (9, 1, 1), (15, 1, 2), (18, 1, 3), (21, 1, 4), (24, 1, 5), (62, 1, 6), (65, 1, 7), (68, 1, 8), (70, 1, 9), (105, 1, 10), (111, 1, 11), (73, 1, 12), (76, 1, 13), (79, 1, 14)],
  [(9, 2, 0), (15, 2, 1), (18, 2, 2), (21, 2, 3), (24, 2, 4), (27, 2, 5), (30, 2, 6), (34, 2, 7)],
  [(57, 8, 10), (74, 8, 11), (109, 0, 2), (82, 0, 7), (96, 5, 5), (127, 2, 2), (118, 2, 7), (99, 1, 4), (29, 3, 0), (33, 3, 1), (37, 3, 2), (41, 3, 3), (45, 3, 4), (49, 3, 5), (53, 3, 6), (9, 3, 7), (17, 3, 8), (20, 3, 9), (23, 3, 10), (26, 3, 11)],
  [(42, 8, 10), (32, 8, 11), (37, 0, 7), (56, 1, 4), (20, 4, 0), (24, 4, 1), (28, 4, 2), (11, 4, 3), (16, 4, 4)],
  [(9, 5, 0), (15, 5, 1), (18, 5, 2), (21, 5, 3), (24, 5, 4), (27, 5, 5)],
  [(9, 6, 0), (15, 6, 1), (18, 6, 2), (22, 6, 3), (25, 6, 4), (28, 6, 5), (31, 6, 6), (34, 6, 7)],
  [(56, 0, 1), (50, 0, 2), (66, 0, 3), (49, 0, 5), (42, 0, 7), (53, 2, 0), (45, 2, 1), (74, 2, 2), (77, 2, 3), (80, 2, 4), (92, 2, 6), (32, 2, 7), (69, 4, 3), (16, 7, 0), (20, 7, 1), (24, 7, 2), (28, 7, 3), (11, 7, 4)],
  [(11, 8, 0), (16, 8, 1), (20, 8, 2), (23, 8, 3), (26, 8, 4), (29, 8, 5), (32, 8, 6), (35, 8, 7), (39, 8, 8), (42, 8, 9), (45, 8, 10), (48, 8, 11)],
  [(9, 9, 0), (15, 9, 1), (19, 9, 2)],
  [(116, 8, 0), (183, 8, 10), (162, 8, 11), (165, 0, 0), (168, 0, 1), (171, 0, 2), (174, 0, 3), (177, 0, 4), (180, 0, 5), (109, 0, 7), (309, 5, 4), (204, 5, 5), (242, 2, 2), (321, 2, 3), (245, 2, 5), (217, 2, 6), (210, 2, 7), (287, 9, 1), (297, 9, 2), (318, 6, 6), (292, 6, 7), (12, 10, 0), (19, 10, 1), (26, 10, 2), (33, 10, 3), (42, 10, 4), (46, 10, 5), (54, 10, 6), (63, 10, 7), (72, 10, 8), (79, 10, 9), (86, 10, 10), (90, 10, 11)],
  [(7, 11, 0), (13, 11, 1), (16, 11, 2), (19, 11, 3), (22, 11, 4), (25, 11, 5), (28, 11, 6), (31, 11, 7), (34, 11, 8), (37, 11, 9), (40, 11, 10), (43, 11, 11), (46, 11, 12), (49, 11, 13), (52, 11, 14), (56, 11, 15), (59, 11, 16), (62, 11, 17), (65, 11, 18), (68, 11, 19), (71, 11, 20), (74, 11, 21), (166, 11, 22), (77, 11, 23), (80, 11, 24), (83, 11, 25), (86, 11, 26), (212, 11, 27), (201, 11, 28), (215, 11, 29), (89, 11, 30), (92, 11, 31), (95, 11, 32), (98, 11, 33), (101, 11, 34), (104, 11, 35), (107, 11, 36), (110, 11, 37), (113, 11, 38), (116, 11, 39), (119, 11, 40), (122, 11, 41), (125, 11, 42), (235, 11, 43), (238, 11, 44), (251, 11, 45), (128, 11, 46), (131, 11, 47), (134, 11, 48), (289, 11, 49), (137, 11, 50), (140, 11, 51), (143, 11, 52), (146, 11, 53), (149, 11, 54), (306, 11, 55), (336, 11, 56), (311, 11, 57), (324, 11, 58)],
  [],
  [],
  [],
  [],
  [],
  [],
  []]
def am_fl (i k : Nat) : Option (Nat × Nat) := (am_fls.getD (am_ow i) []).lookup k
def am_cls : List (List (Nat × Nat × Bool)) := [[],
  [(45, 40, false), (49, 41, false), (82, 43, false), (92, 44, false), (85, 45, false), (96, 46, false), (102, 47, false), (108, 48, false), (114, 49, false), (118, 50, false), (132, 51, false), (142, 52, false), (147, 53, false), (152, 12, true), (155, 16, true), (89, 54, false), (159, 58, false)],
  [(38, 82, false), (42, 36, true)],
  [(62, 70, false), (67, 89, false), (112, 41, false), (121, 85, false), (106, 90, false), (70, 91, false), (78, 92, true), (87, 39, false), (93, 42, false), (102, 72, false), (132, 94, false), (136, 93, false), (146, 40, false), (150, 58, false), (153, 52, false)],
  [(46, 39, false), (52, 42, false)],
  [(35, 73, false), (41, 16, true), (31, 128, false)],
  [(40, 108, false), (46, 118, false), (50, 119, false), (56, 120, false), (60, 116, false), (64, 121, false), (71, 117, false), (68, 122, false), (84, 130, false), (87, 131, false)],
  [(38, 34, false), (59, 35, false), (63, 36, true), (83, 72, false), (89, 71, false), (96, 81, false), (100, 75, false), (103, 77, false)],
  [(52, 16, true)],
  [(28, 109, false), (34, 111, false), (38, 116, false), (24, 117, false), (41, 73, false)],
  [(11, 1, true), (18, 2, true), (25, 3, true), (32, 4, true), (39, 5, false), (51, 6, false), (60, 7, false), (69, 8, false), (78, 9, true), (85, 10, true), (94, 12, false), (98, 13, false), (105, 14, false), (112, 15, false), (120, 16, false), (124, 19, false), (128, 20, false), (132, 22, false), (135, 23, false), (138, 25, false), (142, 28, false), (145, 29, false), (148, 30, false), (151, 31, false), (154, 32, false), (158, 33, false), (186, 39, false), (190, 42, false), (193, 55, false), (197, 57, false), (200, 60, false), (205, 62, false), (207, 64, false), (336, 36, false), (211, 65, false), (214, 66, false), (221, 70, false), (224, 71, false), (227, 75, false), (230, 77, false), (233, 79, false), (236, 81, false), (239, 84, false), (248, 85, false), (251, 88, false), (254, 93, false), (258, 92, false), (261, 94, false), (265, 89, false), (268, 97, false), (271, 91, false), (274, 99, false), (277, 101, false), (281, 102, false), (284, 103, false), (288, 105, false), (293, 107, false), (300, 123, false), (303, 124, false), (306, 126, false), (324, 73, false), (329, 127, false), (332, 129, false), (312, 135, false), (315, 136, false)],
  [(152, 139, false), (158, 140, false), (162, 141, false), (170, 142, false), (174, 143, false), (182, 146, false), (198, 152, false), (227, 154, false), (221, 155, false), (218, 156, false), (204, 157, false), (207, 158, false), (231, 159, false), (243, 164, false), (246, 165, false), (256, 168, false), (266, 170, false), (259, 171, false), (262, 172, false), (269, 174, false), (272, 176, false), (278, 179, false), (275, 180, false), (281, 182, false), (284, 183, false), (297, 186, false), (293, 187, false), (301, 192, false), (341, 195, false), (330, 196, false), (314, 197, false), (317, 198, false), (327, 199, false), (333, 200, false), (321, 201, false), (339, 202, false), (351, 204, false), (348, 205, false), (344, 206, false)],
  [],
  [],
  [(335, 110, false), (492, 112, false), (495, 113, false), (1059, 115, false)],
  [(9, 114, false)],
  [],
  [],
  [(9, 0, false), (13, 11, false), (18, 17, false), (23, 18, false), (28, 21, false), (32, 24, false), (36, 26, false), (41, 27, false), (46, 37, false), (51, 38, false), (55, 56, false), (59, 59, false), (63, 61, false), (67, 63, false), (71, 67, false), (75, 68, false), (79, 69, false), (83, 74, false), (87, 76, false), (91, 78, false), (95, 80, false), (99, 83, false), (103, 86, false), (107, 87, false), (111, 95, false), (116, 96, false), (120, 98, false), (124, 100, false), (130, 104, false), (135, 106, false), (140, 125, false), (144, 132, false), (148, 133, false), (152, 134, false), (12, 137, false), (17, 138, false), (22, 144, false), (27, 145, false), (31, 147, false), (35, 148, false), (40, 149, false), (45, 150, false), (50, 151, false), (54, 153, false), (58, 160, false), (62, 161, false), (66, 162, false), (70, 163, false), (74, 166, false), (78, 167, false), (82, 169, false), (86, 173, false), (90, 175, false), (94, 177, false), (98, 178, false), (102, 181, false), (106, 184, false), (110, 185, false), (115, 188, false), (119, 189, false), (123, 190, false), (127, 191, false), (134, 193, false), (139, 194, false), (143, 203, false), (147, 207, false), (151, 208, false), (155, 209, false)]]
def am_cl (i k : Nat) : Option (Nat × Bool) := (am_cls.getD (am_ow i) []).lookup k
def am_ois : List (List Nat) := [[3], [3], [3], [3], [3], [3], [3], [3], [3], [3], [3], [1], [], [], [], [], [], [], []]
def am_oi (i k : Nat) : Bool := (am_ois.getD (am_ow i) []).contains k
def am_acs : List (List Nat) := [[], [55], [], [140], [58], [], [], [], [], [], [], [], [], [], [], [], [], [], []]
def am_ac (i k : Nat) : Bool := (am_acs.getD (am_ow i) []).contains k
def am_nws : List (List (Nat × Nat)) := [[], [], [], [], [], [], [], [], [], [], [(9, 8), (16, 0), (23, 5), (30, 2), (37, 1), (49, 4), (58, 7), (67, 3), (76, 9), (83, 6)], [], [], [], [], [], [], [], [(7, 10), (10, 11)]]
def am_nw (i k : Nat) : Option Nat := (am_nws.getD (am_ow i) []).lookup k
def am_ggs : List (List Nat) := [[], [], [], [15], [9], [], [], [9], [9], [], [], [], [], [], [], [], [], [], []]
def am_gg (i k : Nat) : Bool := (am_ggs.getD (am_ow i) []).contains k
def am_kis : List (List (Nat × Int32)) := [[], [(61, 1000000)], [], [], [], [], [], [], [], [], [(335, 65535)], [(211, 1000000)], [], [], [], [], [], [], []]
def am_ki (i k : Nat) : Option Int32 := (am_kis.getD (am_ow i) []).lookup k
def am_kls : List (List (Nat × Int64)) := [[], [], [], [(130, 1000)], [], [], [], [], [], [(22, 255)], [], [(156, 4), (178, 2), (180, 11), (186, -3), (188, 3), (190, 47), (192, 59), (194, 1000), (196, 12), (225, 5), (241, 65535), (249, 60), (254, 999), (287, -1), (304, 8), (309, 255)], [], [], [], [], [], [], [(128, 4294967295)]]
def am_kl (i k : Nat) : Option Int64 := (am_kls.getD (am_ow i) []).lookup k
def am_kss : List (List (Nat × Nat)) := [[], [], [], [], [], [], [(38, 0), (54, 1), (74, 2), (76, 3), (78, 4), (80, 5), (82, 6)], [], [], [], [], [], [], [], [], [], [], [], []]
def am_ks (i k : Nat) : Option Nat := (am_kss.getD (am_ow i) []).lookup k
def am_sts : List String := ["prize ", " if ", "months", "far", "kind", "tongue", "weight"]
def am_sks : List Nat := [38, 54, 74, 76, 78, 80, 82]
def am_slen : List Nat := [6, 4, 6, 3, 4, 6, 6]
def am_sbyt : List (List Int32) := [[112, 114, 105, 122, 101, 32], [32, 105, 102, 32], [109, 111, 110, 116, 104, 115], [102, 97, 114], [107, 105, 110, 100], [116, 111, 110, 103, 117, 101], [119, 101, 105, 103, 104, 116]]
def am_Tf (ci : Nat) : u_T := match ci with
  | 0 => TX0
  | 1 => TX1
  | 2 => TX2
  | 3 => TX3
  | 4 => TX4
  | 5 => TX5
  | 6 => TX6
  | 7 => TX7
  | 8 => TX8
  | 9 => TX9
  | 10 => TX10
  | _ => TX11
def am_tf (ci : Nat) : Nat → FieldType := match ci with
  | 0 => tyX0
  | 1 => tyX1
  | 2 => tyX2
  | 3 => tyX3
  | 4 => tyX4
  | 5 => tyX5
  | 6 => tyX6
  | 7 => tyX7
  | 8 => tyX8
  | 9 => tyX9
  | 10 => tyX10
  | _ => tyX11
def am_nf (ci : Nat) : Nat := [8, 15, 8, 12, 5, 6, 8, 5, 12, 3, 12, 59].getD ci 0
end
section
def am_pick : List Nat → List Cond → List Cond
  | [], _ => []
  | g :: gs, l => match l.drop g with
    | [] => []
    | c :: l' => c :: am_pick gs l'
theorem am_pick_mem : ∀ (gs : List Nat) (l : List Cond), ∀ w ∈ am_pick gs l, w ∈ l
  | [], _, w, h => by simp [am_pick] at h
  | g :: gs, l, w, h => by
    unfold am_pick at h
    cases hd : l.drop g with
    | nil => rw [hd] at h; simp at h
    | cons c l' =>
      rw [hd] at h
      rcases List.mem_cons.mp h with rfl | h
      · exact List.mem_of_mem_drop (i := g) (by rw [hd]; exact List.mem_cons_self)
      · exact List.mem_of_mem_drop (i := g) (by rw [hd]; exact List.mem_cons_of_mem _ (am_pick_mem gs l' w h))
theorem am_pick_of {α : Type} {l : List α} {f : α → Cond} {gs : List Nat} {t : List Cond} (h : l.map f = am_pick gs t) : ∀ q ∈ l, f q ∈ t := fun q hq => am_pick_mem gs t _ (by rw [← h]; exact List.mem_map_of_mem hq)
theorem am_pick_1 {w : Cond} {gs : List Nat} {t : List Cond} (h : [w] = am_pick gs t) : w ∈ t := am_pick_mem gs t _ (by rw [← h]; exact List.mem_cons_self)
theorem am_look {α : Type} {l : List (Nat × α)} {k : Nat} {v : α} (h : l.lookup k = some v) : (k, v) ∈ l := by
  induction l with
  | nil => cases h
  | cons q r ih =>
    rw [List.lookup_cons] at h
    split at h
    · rename_i e
      cases h
      have e2 : k = q.1 := by simpa using e
      rw [e2]
      exact List.mem_cons_self
    · exact List.mem_cons_of_mem _ (ih h)
set_option maxRecDepth 100000 in
set_option maxHeartbeats 4000000 in
theorem am_kc : (am_ms.take 210).map (fun q => Cond.code q.1 q.2.1 q.2.2.1 q.2.2.2.1) = am_pick [66, 7, 58, 49, 27, 44, 53, 23, 22, 43, 17, 68, 2, 2, 4, 3, 2, 3, 4, 2, 3, 3, 2, 3, 3, 3, 3, 3, 2, 2, 3, 3, 3, 3, 3, 2, 2, 3, 3, 3, 3, 2, 7, 3, 2, 3, 3, 3, 3, 3, 3, 3, 2, 2, 5, 3, 3, 3, 3, 3, 3, 3, 3, 3, 2, 5, 3, 3, 3, 3, 3, 6, 3, 2, 4, 3, 4, 3, 3, 3, 3, 3, 2, 4, 2, 3, 6, 3, 3, 4, 4, 3, 2, 6, 3, 5, 4, 4, 4, 3, 4, 3, 5, 4, 4, 3, 4, 3, 4, 3, 3, 5, 3, 2, 2, 4, 22, 3, 3, 4, 4, 3, 8, 3, 3, 4, 3, 4, 2, 3, 3, 3, 3, 3, 3, 3, 3, 4, 182, 2, 3, 2, 3, 3, 3, 3, 4, 3, 5, 4, 3, 6, 3, 3, 4, 3, 4, 2, 3, 3, 3, 3, 3, 3, 3, 2, 5, 4, 3, 3, 3, 3, 3, 3, 3, 3, 3, 3, 3, 3, 3, 3, 3, 3, 3, 4, 3, 3, 3, 3, 3, 3, 3, 3, 5, 3, 3, 2, 3, 3, 3, 2, 3, 3, 3, 3, 2, 3, 3, 3] lw_tbl := by rfl
set_option maxRecDepth 100000 in
set_option maxHeartbeats 4000000 in
theorem am_kf0 : (am_fls.getD 0 []).map (fun q => Cond.fieldLink (am_cn 0) q.1 (am_Tf q.2.1 q.2.2).1 (am_Tf q.2.1 q.2.2).2.1 (am_Tf q.2.1 q.2.2).2.2.1) = am_pick [135, 2, 2, 3, 3, 2, 2, 1] lw_tbl := by rfl
set_option maxRecDepth 100000 in
set_option maxHeartbeats 4000000 in
theorem am_kf1 : (am_fls.getD 1 []).map (fun q => Cond.fieldLink (am_cn 1) q.1 (am_Tf q.2.1 q.2.2).1 (am_Tf q.2.1 q.2.2).2.1 (am_Tf q.2.1 q.2.2).2.2.1) = am_pick [80, 1, 1, 1, 1, 47, 9, 3, 5, 101, 0, 0, 0, 0, 2, 0, 0, 0, 0, 0, 0, 0, 0, 0] lw_tbl := by rfl
set_option maxRecDepth 100000 in
set_option maxHeartbeats 4000000 in
theorem am_kf2 : (am_fls.getD 2 []).map (fun q => Cond.fieldLink (am_cn 2) q.1 (am_Tf q.2.1 q.2.2).1 (am_Tf q.2.1 q.2.2).2.1 (am_Tf q.2.1 q.2.2).2.2.1) = am_pick [213, 1, 1, 3, 2, 1, 1, 2] lw_tbl := by rfl
set_option maxRecDepth 100000 in
set_option maxHeartbeats 4000000 in
theorem am_kf3 : (am_fls.getD 3 []).map (fun q => Cond.fieldLink (am_cn 3) q.1 (am_Tf q.2.1 q.2.2).1 (am_Tf q.2.1 q.2.2).2.1 (am_Tf q.2.1 q.2.2).2.2.1) = am_pick [95, 4, 42, 17, 30, 25, 14, 30, 95, 0, 0, 0, 0, 0, 0, 0, 0, 0, 0, 0] lw_tbl := by rfl
set_option maxRecDepth 100000 in
set_option maxHeartbeats 4000000 in
theorem am_kf4 : (am_fls.getD 4 []).map (fun q => Cond.fieldLink (am_cn 4) q.1 (am_Tf q.2.1 q.2.2).1 (am_Tf q.2.1 q.2.2).2.1 (am_Tf q.2.1 q.2.2).2.2.1) = am_pick [96, 2, 58, 104, 49, 0, 0, 0, 1] lw_tbl := by rfl
set_option maxRecDepth 100000 in
set_option maxHeartbeats 4000000 in
theorem am_kf5 : (am_fls.getD 5 []).map (fun q => Cond.fieldLink (am_cn 5) q.1 (am_Tf q.2.1 q.2.2).1 (am_Tf q.2.1 q.2.2).2.1 (am_Tf q.2.1 q.2.2).2.2.1) = am_pick [185, 0, 0, 0, 0, 1] lw_tbl := by rfl
set_option maxRecDepth 100000 in
set_option maxHeartbeats 4000000 in
theorem am_kf6 : (am_fls.getD 6 []).map (fun q => Cond.fieldLink (am_cn 6) q.1 (am_Tf q.2.1 q.2.2).1 (am_Tf q.2.1 q.2.2).2.1 (am_Tf q.2.1 q.2.2).2.2.1) = am_pick [421, 0, 0, 0, 0, 0, 0, 1] lw_tbl := by rfl
set_option maxRecDepth 100000 in
set_option maxHeartbeats 4000000 in
theorem am_kf7 : (am_fls.getD 7 []).map (fun q => Cond.fieldLink (am_cn 7) q.1 (am_Tf q.2.1 q.2.2).1 (am_Tf q.2.1 q.2.2).2.1 (am_Tf q.2.1 q.2.2).2.2.1) = am_pick [139, 2, 4, 5, 6, 53, 1, 2, 2, 2, 3, 2, 84, 19, 0, 0, 0, 0] lw_tbl := by rfl
set_option maxRecDepth 100000 in
set_option maxHeartbeats 4000000 in
theorem am_kf8 : (am_fls.getD 8 []).map (fun q => Cond.fieldLink (am_cn 8) q.1 (am_Tf q.2.1 q.2.2).1 (am_Tf q.2.1 q.2.2).2.1 (am_Tf q.2.1 q.2.2).2.2.1) = am_pick [78, 2, 1, 1, 1, 1, 0, 0, 0, 0, 0, 3] lw_tbl := by rfl
set_option maxRecDepth 100000 in
set_option maxHeartbeats 4000000 in
theorem am_kf9 : (am_fls.getD 9 []).map (fun q => Cond.fieldLink (am_cn 9) q.1 (am_Tf q.2.1 q.2.2).1 (am_Tf q.2.1 q.2.2).2.1 (am_Tf q.2.1 q.2.2).2.2.1) = am_pick [403, 0, 1] lw_tbl := by rfl
set_option maxRecDepth 100000 in
set_option maxHeartbeats 4000000 in
theorem am_kf10 : (am_fls.getD 10 []).map (fun q => Cond.fieldLink (am_cn 10) q.1 (am_Tf q.2.1 q.2.2).1 (am_Tf q.2.1 q.2.2).2.1 (am_Tf q.2.1 q.2.2).2.2.1) = am_pick [79, 17, 3, 35, 2, 3, 3, 2, 2, 4, 30, 2, 26, 2, 3, 2, 3, 170, 1, 20, 1, 17, 0, 0, 0, 0, 0, 0, 0, 0, 0, 0, 0] lw_tbl := by rfl
set_option maxRecDepth 100000 in
set_option maxHeartbeats 4000000 in
theorem am_kf11 : (am_fls.getD 11 []).map (fun q => Cond.fieldLink (am_cn 11) q.1 (am_Tf q.2.1 q.2.2).1 (am_Tf q.2.1 q.2.2).2.1 (am_Tf q.2.1 q.2.2).2.2.1) = am_pick [1041, 0, 0, 0, 0, 0, 0, 0, 0, 0, 0, 0, 0, 0, 0, 0, 0, 0, 0, 0, 0, 0, 0, 0, 0, 0, 0, 0, 0, 0, 0, 0, 0, 0, 0, 0, 0, 0, 0, 0, 0, 0, 0, 0, 0, 0, 0, 0, 0, 0, 0, 0, 0, 0, 0, 0, 0, 0, 0] lw_tbl := by rfl
theorem am_kfs : ∀ (o : Nat), ∀ q ∈ am_fls.getD o [], Cond.fieldLink (am_cn o) q.1 (am_Tf q.2.1 q.2.2).1 (am_Tf q.2.1 q.2.2).2.1 (am_Tf q.2.1 q.2.2).2.2.1 ∈ lw_tbl := fun o => match o with
  | 0 => am_pick_of am_kf0
  | 1 => am_pick_of am_kf1
  | 2 => am_pick_of am_kf2
  | 3 => am_pick_of am_kf3
  | 4 => am_pick_of am_kf4
  | 5 => am_pick_of am_kf5
  | 6 => am_pick_of am_kf6
  | 7 => am_pick_of am_kf7
  | 8 => am_pick_of am_kf8
  | 9 => am_pick_of am_kf9
  | 10 => am_pick_of am_kf10
  | 11 => am_pick_of am_kf11
  | 12 => fun q hq => by cases hq
  | 13 => fun q hq => by cases hq
  | 14 => fun q hq => by cases hq
  | 15 => fun q hq => by cases hq
  | 16 => fun q hq => by cases hq
  | 17 => fun q hq => by cases hq
  | 18 => fun q hq => by cases hq
  | n + 19 => fun q hq => by cases hq
theorem am_kfb : (am_fls.all fun l => l.all fun q => decide (q.2.2 < am_nf q.2.1) && decide (q.2.1 < 12)) = true := by decide +kernel
set_option maxRecDepth 100000 in
set_option maxHeartbeats 4000000 in
theorem am_km1 : ((am_cls.getD 1 []).filter (fun q => !q.2.2)).map (fun q => Cond.methodLink (am_cn 1) q.1 (am_y q.2.1)) = am_pick [594, 3, 10, 3, 2, 3, 3, 3, 3, 3, 3, 3, 2, 4, 15] lw_tbl := by rfl
set_option maxRecDepth 100000 in
set_option maxHeartbeats 4000000 in
theorem am_km2 : ((am_cls.getD 2 []).filter (fun q => !q.2.2)).map (fun q => Cond.methodLink (am_cn 2) q.1 (am_y q.2.1)) = am_pick [769] lw_tbl := by rfl
set_option maxRecDepth 100000 in
set_option maxHeartbeats 4000000 in
theorem am_km3 : ((am_cls.getD 3 []).filter (fun q => !q.2.2)).map (fun q => Cond.methodLink (am_cn 3) q.1 (am_y q.2.1)) = am_pick [799, 0, 3, 0, 0, 2, 6, 0, 0, 4, 28, 9, 4, 4] lw_tbl := by rfl
set_option maxRecDepth 100000 in
set_option maxHeartbeats 4000000 in
theorem am_km4 : ((am_cls.getD 4 []).filter (fun q => !q.2.2)).map (fun q => Cond.methodLink (am_cn 4) q.1 (am_y q.2.1)) = am_pick [721, 0] lw_tbl := by rfl
set_option maxRecDepth 100000 in
set_option maxHeartbeats 4000000 in
theorem am_km5 : ((am_cls.getD 5 []).filter (fun q => !q.2.2)).map (fun q => Cond.methodLink (am_cn 5) q.1 (am_y q.2.1)) = am_pick [732, 267] lw_tbl := by rfl
set_option maxRecDepth 100000 in
set_option maxHeartbeats 4000000 in
theorem am_km6 : ((am_cls.getD 6 []).filter (fun q => !q.2.2)).map (fun q => Cond.methodLink (am_cn 6) q.1 (am_y q.2.1)) = am_pick [891, 59, 4, 4, 3, 0, 2, 5, 31, 3] lw_tbl := by rfl
set_option maxRecDepth 100000 in
set_option maxHeartbeats 4000000 in
theorem am_km7 : ((am_cls.getD 7 []).filter (fun q => !q.2.2)).map (fun q => Cond.methodLink (am_cn 7) q.1 (am_y q.2.1)) = am_pick [572, 3, 151, 15, 39, 0, 0] lw_tbl := by rfl
set_option maxRecDepth 100000 in
set_option maxHeartbeats 4000000 in
theorem am_km9 : ((am_cls.getD 9 []).filter (fun q => !q.2.2)).map (fun q => Cond.methodLink (am_cn 9) q.1 (am_y q.2.1)) = am_pick [895, 9, 37, 3, 7] lw_tbl := by rfl
set_option maxRecDepth 100000 in
set_option maxHeartbeats 4000000 in
theorem am_km10 : ((am_cls.getD 10 []).filter (fun q => !q.2.2)).map (fun q => Cond.methodLink (am_cn 10) q.1 (am_y q.2.1)) = am_pick [254, 53, 23, 22, 133, 2, 4, 2, 10, 4, 2, 7, 2, 7, 11, 2, 2, 3, 3, 3, 21, 14, 50, 7, 11, 7, 7, 3, 0, 3, 15, 6, 15, 8, 7, 7, 11, 2, 14, 23, 8, 4, 4, 0, 3, 4, 8, 5, 4, 8, 8, 91, 3, 8, 3, 0, 6, 23, 3] lw_tbl := by rfl
set_option maxRecDepth 100000 in
set_option maxHeartbeats 4000000 in
theorem am_km11 : ((am_cls.getD 11 []).filter (fun q => !q.2.2)).map (fun q => Cond.methodLink (am_cn 11) q.1 (am_y q.2.1)) = am_pick [1223, 3, 2, 2, 3, 13, 28, 8, 3, 4, 3, 2, 3, 19, 3, 13, 7, 3, 3, 7, 7, 11, 3, 7, 3, 12, 3, 19, 13, 3, 3, 2, 3, 3, 3, 2, 7, 3, 3] lw_tbl := by rfl
set_option maxRecDepth 100000 in
set_option maxHeartbeats 4000000 in
theorem am_km14 : ((am_cls.getD 14 []).filter (fun q => !q.2.2)).map (fun q => Cond.methodLink (am_cn 14) q.1 (am_y q.2.1)) = am_pick [899, 9, 3, 7] lw_tbl := by rfl
set_option maxRecDepth 100000 in
set_option maxHeartbeats 4000000 in
theorem am_km15 : ((am_cls.getD 15 []).filter (fun q => !q.2.2)).map (fun q => Cond.methodLink (am_cn 15) q.1 (am_y q.2.1)) = am_pick [916] lw_tbl := by rfl
set_option maxRecDepth 100000 in
set_option maxHeartbeats 4000000 in
theorem am_km18 : ((am_cls.getD 18 []).filter (fun q => !q.2.2)).map (fun q => Cond.methodLink (am_cn 18) q.1 (am_y q.2.1)) = am_pick [64, 420, 21, 4, 10, 10, 7, 3, 35, 3, 73, 11, 7, 7, 16, 3, 3, 22, 8, 7, 7, 11, 13, 3, 37, 4, 9, 8, 19, 8, 104, 27, 3, 3, 13, 181, 21, 3, 8, 5, 4, 3, 6, 7, 28, 3, 3, 3, 12, 4, 7, 15, 7, 7, 3, 11, 11, 4, 11, 3, 3, 3, 7, 5, 33, 14, 3, 3] lw_tbl := by rfl
theorem am_kms : ∀ (o : Nat), ∀ q ∈ (am_cls.getD o []).filter (fun q => !q.2.2), Cond.methodLink (am_cn o) q.1 (am_y q.2.1) ∈ lw_tbl := fun o => match o with
  | 0 => fun q hq => by cases hq
  | 1 => am_pick_of am_km1
  | 2 => am_pick_of am_km2
  | 3 => am_pick_of am_km3
  | 4 => am_pick_of am_km4
  | 5 => am_pick_of am_km5
  | 6 => am_pick_of am_km6
  | 7 => am_pick_of am_km7
  | 8 => fun q hq => by cases hq
  | 9 => am_pick_of am_km9
  | 10 => am_pick_of am_km10
  | 11 => am_pick_of am_km11
  | 12 => fun q hq => by cases hq
  | 13 => fun q hq => by cases hq
  | 14 => am_pick_of am_km14
  | 15 => am_pick_of am_km15
  | 16 => fun q hq => by cases hq
  | 17 => fun q hq => by cases hq
  | 18 => am_pick_of am_km18
  | n + 19 => fun q hq => by cases hq
def am_nlk : List (Nat × Nat × Nat) := [(10, 11, 1), (10, 18, 2), (10, 25, 3), (10, 32, 4), (10, 78, 9), (10, 85, 10), (8, 52, 16), (7, 63, 36), (1, 152, 12), (1, 155, 16), (5, 41, 16), (2, 42, 36), (3, 78, 92)]
set_option maxRecDepth 100000 in
set_option maxHeartbeats 4000000 in
theorem am_kn : am_nlk.map (fun q => Cond.methodLinkNest (am_cn q.1) q.2.1 (am_y q.2.2) "DriftCards") = am_pick [72, 58, 49, 27, 189, 17, 86, 74, 70, 0, 83, 36, 40] lw_tbl := by rfl
theorem am_kbb : (am_cls.all fun l => l.all fun q => decide (q.2.1 < 210)) = true := by decide +kernel
theorem am_knb : ((List.range 19).all fun o => (am_cls.getD o []).all fun q => !q.2.2 || am_nlk.contains (o, q.1, q.2.1)) = true := by decide +kernel
def am_sta : List Nat := [12, 13, 14, 16, 19, 22, 28, 29, 35, 36, 41, 44, 52, 53, 64, 73, 82, 84, 90, 92, 113, 114, 115, 121, 122, 128, 139, 140, 141, 146, 157, 165, 197, 201, 206]
set_option maxRecDepth 100000 in
set_option maxHeartbeats 4000000 in
theorem am_sta_k : am_sta.map (fun j => Cond.static (am_y j)) = am_pick [490, 2, 4, 6, 11, 10, 22, 2, 22, 2, 18, 14, 30, 2, 44, 39, 36, 7, 28, 6, 99, 2, 4, 44, 8, 24, 222, 3, 2, 20, 50, 30, 132, 14, 18] lw_tbl := by rfl
def am_ins : List Nat := [0, 1, 2, 3, 4, 5, 6, 7, 8, 9, 10, 11, 15, 17, 18, 20, 21, 23, 24, 25, 26, 27, 30, 31, 32, 33, 34, 37, 38, 39, 40, 42, 43, 45, 46, 47, 48, 49, 50, 51, 54, 55, 56, 57, 58, 59, 60, 61, 62, 63, 65, 66, 67, 68, 69, 70, 71, 72, 74, 75, 76, 77, 78, 79, 80, 81, 83, 85, 86, 87, 88, 89, 91, 93, 94, 95, 96, 97, 98, 99, 100, 101, 102, 103, 104, 105, 106, 107, 108, 109, 110, 111, 112, 116, 117, 118, 119, 120, 123, 124, 125, 126, 127, 129, 130, 131, 132, 133, 134, 135, 136, 137, 138, 142, 143, 144, 145, 147, 148, 149, 150, 151, 152, 153, 154, 155, 156, 158, 159, 160, 161, 162, 163, 164, 166, 167, 168, 169, 170, 171, 172, 173, 174, 175, 176, 177, 178, 179, 180, 181, 182, 183, 184, 185, 186, 187, 188, 189, 190, 191, 192, 193, 194, 195, 196, 198, 199, 200, 202, 203, 204, 205, 207, 208, 209]
set_option maxRecDepth 100000 in
set_option maxHeartbeats 4000000 in
theorem am_ins_k : am_ins.map (fun j => Cond.instanceMethod (am_y j)) = am_pick [65, 7, 58, 49, 27, 44, 53, 23, 22, 43, 17, 67, 14, 6, 4, 6, 3, 6, 3, 3, 3, 3, 9, 3, 3, 3, 4, 8, 3, 3, 3, 10, 4, 6, 2, 4, 2, 3, 4, 3, 11, 2, 3, 3, 3, 3, 3, 3, 3, 3, 8, 3, 3, 3, 3, 3, 6, 3, 7, 3, 4, 3, 3, 3, 3, 3, 7, 6, 6, 3, 3, 4, 8, 9, 3, 5, 4, 4, 4, 3, 4, 3, 5, 4, 4, 3, 4, 3, 4, 3, 3, 5, 3, 33, 3, 3, 4, 5, 15, 3, 4, 4, 3, 6, 4, 3, 2, 3, 3, 3, 3, 5, 181, 14, 3, 2, 3, 8, 5, 4, 3, 6, 4, 2, 5, 3, 4, 6, 3, 2, 3, 3, 3, 4, 7, 4, 4, 2, 4, 3, 3, 2, 4, 2, 4, 2, 3, 4, 3, 2, 4, 3, 2, 4, 4, 3, 2, 3, 3, 3, 4, 2, 5, 4, 3, 6, 3, 3, 6, 2, 4, 3, 5, 3, 3] lw_tbl := by rfl
def am_sel : List Nat := [34, 43, 45, 47, 50, 51, 54, 120, 126, 130, 131, 142, 143, 152, 154, 155, 156, 158, 159, 164, 168, 170, 171, 172, 174, 176, 179, 180, 182, 183, 186, 187, 192, 195, 196, 198, 199, 200, 202, 204, 205, 11, 15, 17, 18, 20, 21, 23, 24, 25, 26, 27, 30, 31, 32, 33, 37, 38, 39, 40, 42, 46, 48, 49, 55, 56, 57, 58, 59, 60, 61, 62, 63, 65, 66, 67, 68, 69, 70, 71, 72, 74, 75, 76, 77, 78, 79, 80, 81, 83, 85, 86, 87, 88, 89, 91, 93, 94, 95, 96, 97, 98, 99, 100, 101, 102, 103, 104, 105, 106, 107, 108, 109, 110, 111, 112, 116, 117, 118, 119, 123, 124, 125, 127, 129, 132, 133, 134, 135, 136, 138, 144, 145, 147, 148, 149, 150, 151, 153, 160, 161, 162, 163, 166, 167, 169, 173, 175, 177, 178, 181, 184, 185, 188, 189, 190, 191, 193, 194, 203, 207, 208, 209]
set_option maxRecDepth 100000 in
set_option maxHeartbeats 4000000 in
theorem am_sel_k : am_sel.map (fun j => Cond.selects (am_y j).cls (am_y j) (am_y j)) = am_pick [0, 0, 0, 0, 0, 0, 0, 0, 0, 0, 0, 0, 0, 0, 0, 0, 0, 0, 0, 0, 0, 0, 0, 0, 0, 0, 0, 0, 0, 0, 0, 0, 0, 0, 0, 0, 0, 0, 0, 0, 0, 446, 14, 6, 4, 6, 3, 6, 3, 3, 3, 3, 9, 3, 3, 3, 13, 3, 3, 3, 10, 14, 7, 3, 23, 3, 3, 3, 3, 3, 3, 3, 3, 8, 3, 3, 3, 3, 3, 6, 3, 7, 3, 4, 3, 3, 3, 3, 3, 7, 6, 6, 3, 3, 4, 8, 9, 3, 5, 4, 4, 4, 3, 4, 3, 5, 4, 4, 3, 4, 3, 4, 3, 3, 5, 3, 33, 3, 3, 4, 21, 3, 4, 8, 6, 11, 3, 3, 3, 3, 187, 21, 3, 8, 5, 4, 3, 6, 7, 28, 3, 3, 3, 12, 4, 7, 15, 7, 7, 3, 11, 11, 4, 11, 3, 3, 3, 7, 5, 33, 14, 3, 3] lw_tbl := by rfl
def am_ini : List Nat := [18, 10, 8, 0, 5, 2, 1, 4, 7, 3, 9, 6, 11, 16, 13, 12, 14, 15, 17]
set_option maxRecDepth 100000 in
set_option maxHeartbeats 4000000 in
theorem am_ini_k : am_ini.map (fun j => Cond.initialized (am_cn j)) = am_pick [41, 0, 0, 0, 0, 0, 0, 0, 0, 0, 0, 0, 0, 0, 1, 0, 0, 0, 0] lw_tbl := by rfl
set_option maxRecDepth 100000 in
set_option maxHeartbeats 4000000 in
theorem am_ly0 : u_ws RX0 TX0 8 = am_pick [162, 1, 1, 1, 1, 1, 1, 1] lw_tbl := by rfl
set_option maxRecDepth 100000 in
set_option maxHeartbeats 4000000 in
theorem am_ly1 : u_ws RX1 TX1 15 = am_pick [275, 1, 1, 1, 1, 1, 1, 1, 1, 1, 1, 1, 1, 1, 1] lw_tbl := by rfl
set_option maxRecDepth 100000 in
set_option maxHeartbeats 4000000 in
theorem am_ly2 : u_ws RX2 TX2 8 = am_pick [235, 1, 1, 1, 1, 1, 1, 1] lw_tbl := by rfl
set_option maxRecDepth 100000 in
set_option maxHeartbeats 4000000 in
theorem am_ly3 : u_ws RX3 TX3 12 = am_pick [372, 1, 1, 1, 1, 1, 1, 1, 1, 1, 1, 1] lw_tbl := by rfl
set_option maxRecDepth 100000 in
set_option maxHeartbeats 4000000 in
theorem am_ly4 : u_ws RX4 TX4 5 = am_pick [319, 1, 1, 1, 1] lw_tbl := by rfl
set_option maxRecDepth 100000 in
set_option maxHeartbeats 4000000 in
theorem am_ly5 : u_ws RX5 TX5 6 = am_pick [194, 1, 1, 1, 1, 1] lw_tbl := by rfl
set_option maxRecDepth 100000 in
set_option maxHeartbeats 4000000 in
theorem am_ly6 : u_ws RX6 TX6 8 = am_pick [431, 1, 1, 1, 1, 1, 1, 1] lw_tbl := by rfl
set_option maxRecDepth 100000 in
set_option maxHeartbeats 4000000 in
theorem am_ly7 : u_ws RX7 TX7 5 = am_pick [342, 1, 1, 1, 1] lw_tbl := by rfl
set_option maxRecDepth 100000 in
set_option maxHeartbeats 4000000 in
theorem am_ly8 : u_ws RX8 TX8 12 = am_pick [102, 1, 1, 1, 1, 1, 1, 1, 1, 1, 1, 1] lw_tbl := by rfl
set_option maxRecDepth 100000 in
set_option maxHeartbeats 4000000 in
theorem am_ly9 : u_ws RX9 TX9 3 = am_pick [408, 1, 1] lw_tbl := by rfl
set_option maxRecDepth 100000 in
set_option maxHeartbeats 4000000 in
theorem am_ly10 : u_ws RX10 TX10 12 = am_pick [460, 1, 1, 1, 1, 1, 1, 1, 1, 1, 1, 1] lw_tbl := by rfl
set_option maxRecDepth 100000 in
set_option maxHeartbeats 4000000 in
theorem am_ly11 : u_ws RX11 TX11 59 = am_pick [1100, 1, 1, 1, 1, 1, 1, 1, 1, 1, 1, 1, 1, 1, 1, 1, 1, 1, 1, 1, 1, 1, 1, 1, 1, 1, 1, 1, 1, 1, 1, 1, 1, 1, 1, 1, 1, 1, 1, 1, 1, 1, 1, 1, 1, 1, 1, 1, 1, 1, 1, 1, 1, 1, 1, 1, 1, 1, 1] lw_tbl := by rfl
def am_inq : List Nat := [10, 8, 0, 5, 2, 1, 4, 7, 3, 9, 6, 11]
set_option maxRecDepth 100000 in
set_option maxHeartbeats 4000000 in
theorem am_inq_k : am_inq.map (fun j => Cond.instantiable (am_cn j) (am_nf j)) = am_pick [63, 7, 58, 49, 27, 44, 53, 23, 22, 43, 17, 619] lw_tbl := by rfl
set_option maxRecDepth 100000 in
set_option maxHeartbeats 4000000 in
theorem am_kw10 : (am_nws.getD 10 []).map (fun q => Cond.classLink (am_cn 10) q.1 (am_cn q.2)) = am_pick [70, 58, 49, 27, 44, 53, 23, 22, 43, 17] lw_tbl := by rfl
set_option maxRecDepth 100000 in
set_option maxHeartbeats 4000000 in
theorem am_kw18 : (am_nws.getD 18 []).map (fun q => Cond.classLink (am_cn 18) q.1 (am_cn q.2)) = am_pick [62, 972] lw_tbl := by rfl
theorem am_kws : ∀ (o : Nat), ∀ q ∈ am_nws.getD o [], Cond.classLink (am_cn o) q.1 (am_cn q.2) ∈ lw_tbl := fun o => match o with
  | 0 => fun q hq => by cases hq
  | 1 => fun q hq => by cases hq
  | 2 => fun q hq => by cases hq
  | 3 => fun q hq => by cases hq
  | 4 => fun q hq => by cases hq
  | 5 => fun q hq => by cases hq
  | 6 => fun q hq => by cases hq
  | 7 => fun q hq => by cases hq
  | 8 => fun q hq => by cases hq
  | 9 => fun q hq => by cases hq
  | 10 => am_pick_of am_kw10
  | 11 => fun q hq => by cases hq
  | 12 => fun q hq => by cases hq
  | 13 => fun q hq => by cases hq
  | 14 => fun q hq => by cases hq
  | 15 => fun q hq => by cases hq
  | 16 => fun q hq => by cases hq
  | 17 => fun q hq => by cases hq
  | 18 => am_pick_of am_kw18
  | n + 19 => fun q hq => by cases hq
set_option maxRecDepth 100000 in
set_option maxHeartbeats 4000000 in
theorem am_kg3 : (am_ggs.getD 3 []).map (fun q => Cond.classLink (am_cn 3) q "[[I") = am_pick [359] lw_tbl := by rfl
set_option maxRecDepth 100000 in
set_option maxHeartbeats 4000000 in
theorem am_kg4 : (am_ggs.getD 4 []).map (fun q => Cond.classLink (am_cn 4) q "[[I") = am_pick [312] lw_tbl := by rfl
set_option maxRecDepth 100000 in
set_option maxHeartbeats 4000000 in
theorem am_kg7 : (am_ggs.getD 7 []).map (fun q => Cond.classLink (am_cn 7) q "[[I") = am_pick [336] lw_tbl := by rfl
set_option maxRecDepth 100000 in
set_option maxHeartbeats 4000000 in
theorem am_kg8 : (am_ggs.getD 8 []).map (fun q => Cond.classLink (am_cn 8) q "[[I") = am_pick [76] lw_tbl := by rfl
theorem am_kgs : ∀ (o : Nat), ∀ q ∈ am_ggs.getD o [], Cond.classLink (am_cn o) q "[[I" ∈ lw_tbl := fun o => match o with
  | 0 => fun q hq => by cases hq
  | 1 => fun q hq => by cases hq
  | 2 => fun q hq => by cases hq
  | 3 => am_pick_of am_kg3
  | 4 => am_pick_of am_kg4
  | 5 => fun q hq => by cases hq
  | 6 => fun q hq => by cases hq
  | 7 => am_pick_of am_kg7
  | 8 => am_pick_of am_kg8
  | 9 => fun q hq => by cases hq
  | 10 => fun q hq => by cases hq
  | 11 => fun q hq => by cases hq
  | 12 => fun q hq => by cases hq
  | 13 => fun q hq => by cases hq
  | 14 => fun q hq => by cases hq
  | 15 => fun q hq => by cases hq
  | 16 => fun q hq => by cases hq
  | 17 => fun q hq => by cases hq
  | 18 => fun q hq => by cases hq
  | n + 19 => fun q hq => by cases hq
set_option maxRecDepth 100000 in
set_option maxHeartbeats 4000000 in
theorem am_kci1 : (am_kis.getD 1 []).map (fun q => Cond.constant (am_cn 1) q.1 q.2) = am_pick [604] lw_tbl := by rfl
set_option maxRecDepth 100000 in
set_option maxHeartbeats 4000000 in
theorem am_kci10 : (am_kis.getD 10 []).map (fun q => Cond.constant (am_cn 10) q.1 q.2) = am_pick [695] lw_tbl := by rfl
set_option maxRecDepth 100000 in
set_option maxHeartbeats 4000000 in
theorem am_kci11 : (am_kis.getD 11 []).map (fun q => Cond.constant (am_cn 11) q.1 q.2) = am_pick [1297] lw_tbl := by rfl
theorem am_kcis : ∀ (o : Nat), ∀ q ∈ am_kis.getD o [], Cond.constant (am_cn o) q.1 q.2 ∈ lw_tbl := fun o => match o with
  | 0 => fun q hq => by cases hq
  | 1 => am_pick_of am_kci1
  | 2 => fun q hq => by cases hq
  | 3 => fun q hq => by cases hq
  | 4 => fun q hq => by cases hq
  | 5 => fun q hq => by cases hq
  | 6 => fun q hq => by cases hq
  | 7 => fun q hq => by cases hq
  | 8 => fun q hq => by cases hq
  | 9 => fun q hq => by cases hq
  | 10 => am_pick_of am_kci10
  | 11 => am_pick_of am_kci11
  | 12 => fun q hq => by cases hq
  | 13 => fun q hq => by cases hq
  | 14 => fun q hq => by cases hq
  | 15 => fun q hq => by cases hq
  | 16 => fun q hq => by cases hq
  | 17 => fun q hq => by cases hq
  | 18 => fun q hq => by cases hq
  | n + 19 => fun q hq => by cases hq
set_option maxRecDepth 100000 in
set_option maxHeartbeats 4000000 in
theorem am_kcl3 : (am_kls.getD 3 []).map (fun q => Cond.constantLong (am_cn 3) q.1 q.2) = am_pick [827] lw_tbl := by rfl
set_option maxRecDepth 100000 in
set_option maxHeartbeats 4000000 in
theorem am_kcl9 : (am_kls.getD 9 []).map (fun q => Cond.constantLong (am_cn 9) q.1 q.2) = am_pick [881] lw_tbl := by rfl
set_option maxRecDepth 100000 in
set_option maxHeartbeats 4000000 in
theorem am_kcl11 : (am_kls.getD 11 []).map (fun q => Cond.constantLong (am_cn 11) q.1 q.2) = am_pick [1226, 22, 0, 7, 0, 4, 8, 0, 0, 12, 47, 0, 4, 72, 36, 0] lw_tbl := by rfl
set_option maxRecDepth 100000 in
set_option maxHeartbeats 4000000 in
theorem am_kcl18 : (am_kls.getD 18 []).map (fun q => Cond.constantLong (am_cn 18) q.1 q.2) = am_pick [1515] lw_tbl := by rfl
theorem am_kcls : ∀ (o : Nat), ∀ q ∈ am_kls.getD o [], Cond.constantLong (am_cn o) q.1 q.2 ∈ lw_tbl := fun o => match o with
  | 0 => fun q hq => by cases hq
  | 1 => fun q hq => by cases hq
  | 2 => fun q hq => by cases hq
  | 3 => am_pick_of am_kcl3
  | 4 => fun q hq => by cases hq
  | 5 => fun q hq => by cases hq
  | 6 => fun q hq => by cases hq
  | 7 => fun q hq => by cases hq
  | 8 => fun q hq => by cases hq
  | 9 => am_pick_of am_kcl9
  | 10 => fun q hq => by cases hq
  | 11 => am_pick_of am_kcl11
  | 12 => fun q hq => by cases hq
  | 13 => fun q hq => by cases hq
  | 14 => fun q hq => by cases hq
  | 15 => fun q hq => by cases hq
  | 16 => fun q hq => by cases hq
  | 17 => fun q hq => by cases hq
  | 18 => am_pick_of am_kcl18
  | n + 19 => fun q hq => by cases hq
set_option maxRecDepth 100000 in
set_option maxHeartbeats 4000000 in
theorem am_ko0 : (am_ois.getD 0 []).map (fun q => Cond.methodLink (am_cn 0) q objectInit) = am_pick [134] lw_tbl := by rfl
set_option maxRecDepth 100000 in
set_option maxHeartbeats 4000000 in
theorem am_ko1 : (am_ois.getD 1 []).map (fun q => Cond.methodLink (am_cn 1) q objectInit) = am_pick [257] lw_tbl := by rfl
set_option maxRecDepth 100000 in
set_option maxHeartbeats 4000000 in
theorem am_ko2 : (am_ois.getD 2 []).map (fun q => Cond.methodLink (am_cn 2) q objectInit) = am_pick [212] lw_tbl := by rfl
set_option maxRecDepth 100000 in
set_option maxHeartbeats 4000000 in
theorem am_ko3 : (am_ois.getD 3 []).map (fun q => Cond.methodLink (am_cn 3) q objectInit) = am_pick [358] lw_tbl := by rfl
set_option maxRecDepth 100000 in
set_option maxHeartbeats 4000000 in
theorem am_ko4 : (am_ois.getD 4 []).map (fun q => Cond.methodLink (am_cn 4) q objectInit) = am_pick [311] lw_tbl := by rfl
set_option maxRecDepth 100000 in
set_option maxHeartbeats 4000000 in
theorem am_ko5 : (am_ois.getD 5 []).map (fun q => Cond.methodLink (am_cn 5) q objectInit) = am_pick [184] lw_tbl := by rfl
set_option maxRecDepth 100000 in
set_option maxHeartbeats 4000000 in
theorem am_ko6 : (am_ois.getD 6 []).map (fun q => Cond.methodLink (am_cn 6) q objectInit) = am_pick [420] lw_tbl := by rfl
set_option maxRecDepth 100000 in
set_option maxHeartbeats 4000000 in
theorem am_ko7 : (am_ois.getD 7 []).map (fun q => Cond.methodLink (am_cn 7) q objectInit) = am_pick [335] lw_tbl := by rfl
set_option maxRecDepth 100000 in
set_option maxHeartbeats 4000000 in
theorem am_ko8 : (am_ois.getD 8 []).map (fun q => Cond.methodLink (am_cn 8) q objectInit) = am_pick [75] lw_tbl := by rfl
set_option maxRecDepth 100000 in
set_option maxHeartbeats 4000000 in
theorem am_ko9 : (am_ois.getD 9 []).map (fun q => Cond.methodLink (am_cn 9) q objectInit) = am_pick [402] lw_tbl := by rfl
set_option maxRecDepth 100000 in
set_option maxHeartbeats 4000000 in
theorem am_ko10 : (am_ois.getD 10 []).map (fun q => Cond.methodLink (am_cn 10) q objectInit) = am_pick [67] lw_tbl := by rfl
set_option maxRecDepth 100000 in
set_option maxHeartbeats 4000000 in
theorem am_ko11 : (am_ois.getD 11 []).map (fun q => Cond.methodLink (am_cn 11) q objectInit) = am_pick [1040] lw_tbl := by rfl
theorem am_kos : ∀ (o : Nat), ∀ q ∈ am_ois.getD o [], Cond.methodLink (am_cn o) q objectInit ∈ lw_tbl := fun o => match o with
  | 0 => am_pick_of am_ko0
  | 1 => am_pick_of am_ko1
  | 2 => am_pick_of am_ko2
  | 3 => am_pick_of am_ko3
  | 4 => am_pick_of am_ko4
  | 5 => am_pick_of am_ko5
  | 6 => am_pick_of am_ko6
  | 7 => am_pick_of am_ko7
  | 8 => am_pick_of am_ko8
  | 9 => am_pick_of am_ko9
  | 10 => am_pick_of am_ko10
  | 11 => am_pick_of am_ko11
  | 12 => fun q hq => by cases hq
  | 13 => fun q hq => by cases hq
  | 14 => fun q hq => by cases hq
  | 15 => fun q hq => by cases hq
  | 16 => fun q hq => by cases hq
  | 17 => fun q hq => by cases hq
  | 18 => fun q hq => by cases hq
  | n + 19 => fun q hq => by cases hq
set_option maxRecDepth 100000 in
set_option maxHeartbeats 4000000 in
theorem am_ka1 : (am_acs.getD 1 []).map (fun q => Cond.methodLink (am_cn 1) q arraycopyName) = am_pick [601] lw_tbl := by rfl
set_option maxRecDepth 100000 in
set_option maxHeartbeats 4000000 in
theorem am_ka3 : (am_acs.getD 3 []).map (fun q => Cond.methodLink (am_cn 3) q arraycopyName) = am_pick [861] lw_tbl := by rfl
set_option maxRecDepth 100000 in
set_option maxHeartbeats 4000000 in
theorem am_ka4 : (am_acs.getD 4 []).map (fun q => Cond.methodLink (am_cn 4) q arraycopyName) = am_pick [723] lw_tbl := by rfl
theorem am_kas : ∀ (o : Nat), ∀ q ∈ am_acs.getD o [], Cond.methodLink (am_cn o) q arraycopyName ∈ lw_tbl := fun o => match o with
  | 0 => fun q hq => by cases hq
  | 1 => am_pick_of am_ka1
  | 2 => fun q hq => by cases hq
  | 3 => am_pick_of am_ka3
  | 4 => am_pick_of am_ka4
  | 5 => fun q hq => by cases hq
  | 6 => fun q hq => by cases hq
  | 7 => fun q hq => by cases hq
  | 8 => fun q hq => by cases hq
  | 9 => fun q hq => by cases hq
  | 10 => fun q hq => by cases hq
  | 11 => fun q hq => by cases hq
  | 12 => fun q hq => by cases hq
  | 13 => fun q hq => by cases hq
  | 14 => fun q hq => by cases hq
  | 15 => fun q hq => by cases hq
  | 16 => fun q hq => by cases hq
  | 17 => fun q hq => by cases hq
  | 18 => fun q hq => by cases hq
  | n + 19 => fun q hq => by cases hq
set_option maxRecDepth 100000 in
set_option maxHeartbeats 4000000 in
theorem am_s1 : Cond.instanceMethod objectInit ∈ lw_tbl := am_pick_1 (gs := [68]) (by rfl)
set_option maxRecDepth 100000 in
set_option maxHeartbeats 4000000 in
theorem am_s2 : Cond.code objectInit ⟨#[0xb1]⟩ 1 none ∈ lw_tbl := am_pick_1 (gs := [69]) (by rfl)
set_option maxRecDepth 100000 in
set_option maxHeartbeats 4000000 in
theorem am_s3 : Cond.native arraycopyName ∈ lw_tbl := am_pick_1 (gs := [603]) (by rfl)
set_option maxRecDepth 100000 in
set_option maxHeartbeats 4000000 in
theorem am_s4 : Cond.static arraycopyName ∈ lw_tbl := am_pick_1 (gs := [602]) (by rfl)
set_option maxRecDepth 100000 in
set_option maxHeartbeats 4000000 in
theorem am_s5 : Cond.initialized "java/lang/System" ∈ lw_tbl := am_pick_1 (gs := [55]) (by rfl)
set_option maxRecDepth 100000 in
set_option maxHeartbeats 4000000 in
theorem am_s6 : Cond.arrayClass .int ∈ lw_tbl := am_pick_1 (gs := [127]) (by rfl)
set_option maxRecDepth 100000 in
set_option maxHeartbeats 4000000 in
theorem am_s7 : Cond.arrayClass .boolean ∈ lw_tbl := am_pick_1 (gs := [128]) (by rfl)
set_option maxRecDepth 100000 in
set_option maxHeartbeats 4000000 in
theorem am_s8 : Cond.arrayOver (.array .int) ∈ lw_tbl := am_pick_1 (gs := [77]) (by rfl)
def am_nas : List Nat := [0, 0, 0, 0, 0, 1, 3, 4, 7, 0, 0, 5, 2, 2, 3, 5, 2, 3, 4, 1, 3, 3, 1, 3, 3, 4, 1, 6, 2, 2, 1, 3, 7, 1, 2, 2, 2, 2, 3, 3, 5, 2, 1, 0, 1, 1, 1, 1, 1, 2, 2, 4, 1, 1, 0, 1, 5, 2, 1, 2, 1, 3, 5, 5, 1, 6, 1, 1, 2, 2, 0, 2, 4, 2, 1, 1, 1, 1, 1, 2, 1, 1, 1, 3, 1, 1, 2, 1, 0, 0, 2, 1, 2, 0, 1, 0, 0, 0, 1, 1, 4, 5, 0, 0, 2, 2, 0, 1, 1, 0, 0, 1, 0, 2, 2, 3, 1, 1, 0, 0, 2, 1, 1, 0, 0, 1, 1, 2, 3, 0, 1, 1, 1, 2, 1, 0, 0, 0, 5, 2, 3, 1, 2, 3, 3, 4, 1, 3, 3, 1, 6, 2, 1, 3, 2, 5, 3, 2, 4, 2, 5, 2, 3, 5, 1, 1, 1, 2, 1, 2, 2, 2, 4, 1, 1, 1, 1, 1, 1, 1, 1, 3, 0, 4, 2, 1, 1, 1, 0, 0, 1, 4, 5, 2, 0, 0, 2, 2, 0, 1, 0, 1, 1, 1, 1, 3, 3, 1, 2, 1, 1]
def am_na (j : Nat) : Nat := am_nas.getD j 0
set_option maxRecDepth 100000 in
set_option maxHeartbeats 4000000 in
theorem am_own : am_ms.map (fun q => q.1.cls) = am_ms.map (fun q => am_cn q.2.2.2.2.1) := by rfl
theorem am_cnp : ((List.range 19).all fun o => decide (am_cn o ≠ "java/lang/invoke/MethodHandle") && decide (am_cn o ≠ "java/lang/invoke/VarHandle")) = true := by decide +kernel
theorem am_pln : (am_ms.all fun q => plainFor q.1) = true := by decide +kernel
theorem am_par : am_ms.map (fun q => (parseMethodDescriptor q.1.desc).map (fun d => d.parameters.length)) = am_nas.map some := by decide +kernel
end
section
/-! ===== an abstract machine: cells are numbered, a memory of ints and of longs, references are numbers of cells ===== -/
abbrev am_M : Type := Nat → Nat → Int32
abbrev am_N : Type := Nat → Nat → Int64
/-- a cell's shape: an array (0 int, 1 boolean, 2 rows that lie behind it) of a length, or an object of a kind with its references -/
abbrev am_E : Type := (Nat × Nat) ⊕ (Nat × List (Option Nat))
abbrev am_V : Type := List Value
abbrev am_Q : Type := Option Value → am_M → am_N → Prop
def am_up (M : am_M) (k j : Nat) (x : Int32) : am_M := fun a b => if a = k then (if b = j then x else M a b) else M a b
def am_upL (N : am_N) (k j : Nat) (x : Int64) : am_N := fun a b => if a = k then (if b = j then x else N a b) else N a b
def am_upR (M : am_M) (k : Nat) (f : Nat → Int32) : am_M := fun a => if a = k then f else M a
def am_tbl : List Cond := lw_tbl.filter goodWord
theorem am_tbl_in {w : Cond} (h : w ∈ lw_tbl) (hg : goodWord w = true) : w ∈ am_tbl := List.mem_filter.mpr ⟨h, hg⟩
def am_in (i pc : Nat) : Option (Instr × Nat) := match decode (am_c i) pc with
  | .ok x => some x
  | .error _ => none
theorem am_in_dec {i pc : Nat} {x : Instr × Nat} (h : am_in i pc = some x) : decode (am_c i) pc = .ok x := by
  unfold am_in at h
  split at h
  · rename_i y hy
    cases h
    exact hy
  · cases h
def am_wide (v : Value) : Bool := match v with
  | .long _ => true
  | .double _ => true
  | _ => false
theorem am_wide_c {v : Value} (h : am_wide v = false) : v.category = 1 := by cases v <;> first | rfl | cases h
def am_unk (v : Value) : Bool := match v with
  | .retAddr _ => true
  | _ => false
def am_set (L : am_V) (i : Nat) (v : Value) : am_V := (match i with
  | 0 => L
  | j + 1 => match L[j]? with
    | some (.long _) => L.set j (.retAddr 0)
    | some (.double _) => L.set j (.retAddr 0)
    | _ => L).set i v
def am_set2 (L : am_V) (i : Nat) (v : Value) : am_V := (am_set L i v).set (i + 1) (.retAddr 0)
theorem am_set_len (L : am_V) (i : Nat) (v : Value) : (am_set L i v).length = L.length := by
  unfold am_set
  rw [List.length_set]
  split
  · rfl
  · split <;> simp
theorem am_set_ne {L : am_V} {i : Nat} {v : Value} {j : Nat} {w : Value} (hj : j ≠ i) (h : (am_set L i v)[j]? = some w) (hw : am_unk w = false) : L[j]? = some w ∧ ¬ (j + 1 = i ∧ w.category = 2) := by
  unfold am_set at h
  rw [List.getElem?_set_ne (fun q => hj q.symm)] at h
  cases i with
  | zero => exact ⟨h, fun q => absurd q.1 (by omega)⟩
  | succ k =>
    have aux : ∀ (l : am_V), (l = L ∧ (∀ z, L[k]? = some z → z.category = 1)) ∨ l = L.set k (.retAddr 0) → l[j]? = some w → L[j]? = some w ∧ ¬ (j + 1 = k + 1 ∧ w.category = 2) := by
      rintro l (⟨rfl, hz⟩ | rfl) h1
      · refine ⟨h1, fun q => ?_⟩
        have e : j = k := by omega
        subst e
        have := hz w h1
        omega
      · by_cases e : j = k
        · subst e
          exfalso
          by_cases hl : j < L.length
          · rw [List.getElem?_set_self hl] at h1
            cases h1
            cases hw
          · rw [List.getElem?_eq_none (by rw [List.length_set]; omega)] at h1
            cases h1
        · rw [List.getElem?_set_ne (fun q => e q.symm)] at h1
          exact ⟨h1, fun q => e (by omega)⟩
    refine aux _ ?_ h
    show ((match L[k]? with
    | some (.long _) => L.set k (.retAddr 0)
    | some (.double _) => L.set k (.retAddr 0)
    | _ => L) = L ∧ (∀ z, L[k]? = some z → z.category = 1)) ∨ (match L[k]? with
    | some (.long _) => L.set k (.retAddr 0)
    | some (.double _) => L.set k (.retAddr 0)
    | _ => L) = L.set k (.retAddr 0)
    cases hk : L[k]? with
    | none => exact Or.inl ⟨rfl, fun z hz => by cases hz⟩
    | some z => cases z <;> first | exact Or.inr rfl | exact Or.inl ⟨rfl, fun z hz => by cases hz; rfl⟩
theorem am_set_self {L : am_V} {i : Nat} {v : Value} (h : i < L.length) : (am_set L i v)[i]? = some v := by
  have h2 : i < (match i with
  | 0 => L
  | j + 1 => match L[j]? with
    | some (.long _) => L.set j (.retAddr 0)
    | some (.double _) => L.set j (.retAddr 0)
    | _ => L).length := by
    have h3 := am_set_len L i v
    unfold am_set at h3
    rw [List.length_set] at h3
    omega
  unfold am_set
  rw [List.getElem?_set_self h2]
/-! addresses, values, locals -/
def am_ad (B : Nat) (sp : Nat → Nat) (k : Nat) : Nat := if k < 1000000 then B + k else sp k
def am_cv (B : Nat) (sp : Nat → Nat) (fz : Value) (v : Value) : Value := match v with
  | .ref k => .ref (am_ad B sp k)
  | .retAddr _ => fz
  | v => v
theorem am_cv_cat {B : Nat} {sp : Nat → Nat} {fz : Value} (hf : fz.category = 1) (v : Value) : (am_cv B sp fz v).category = v.category := by
  cases v <;> first | rfl | exact hf
def am_lv (cv : Value → Value) (ls : Array Slot) (L : am_V) : Prop := lv_wf ls ∧ ls.size = L.length ∧ ∀ (i : Nat) (v : Value), L[i]? = some v → am_unk v = false → ls[i]? = some (.val (cv v))
def am_prs (cv : Value → Value) (L : am_V) : List (Nat × Value) := (List.range L.length).filterMap fun i => match L[i]? with
  | some v => if am_unk v then none else some (i, cv v)
  | none => none
theorem am_prs_in {cv : Value → Value} {L : am_V} {i : Nat} {v : Value} (h : L[i]? = some v) (hu : am_unk v = false) : (i, cv v) ∈ am_prs cv L := by
  refine List.mem_filterMap.mpr ⟨i, List.mem_range.mpr (List.getElem?_eq_some_iff.mp h).1, ?_⟩
  simp [h, hu]
theorem am_prs_of {cv : Value → Value} {L : am_V} {q : Nat × Value} (h : q ∈ am_prs cv L) : ∃ v, L[q.1]? = some v ∧ am_unk v = false ∧ q.2 = cv v := by
  obtain ⟨i, -, hi⟩ := List.mem_filterMap.mp h
  cases hk : L[i]? with
  | none => simp [hk] at hi
  | some v =>
    by_cases hu : am_unk v = true
    · simp [hk, hu] at hi
    · simp [hk, hu] at hi
      subst hi
      exact ⟨v, hk, by simpa using hu, rfl⟩
theorem am_lv.has {cv : Value → Value} {ls : Array Slot} {L : am_V} (h : am_lv cv ls L) : lv_has ls L.length (am_prs cv L) := by
  refine ⟨h.2.1, h.1, fun q hq => ?_⟩
  obtain ⟨v, h1, h2, h3⟩ := am_prs_of hq
  rw [h3]
  exact h.2.2 _ v h1 h2
theorem am_lv.st1 {cv : Value → Value} (hc : ∀ v, (cv v).category = v.category) {ls : Array Slot} {L : am_V} {i : Nat} {v : Value} (h : lv_has ls L.length ((i, cv v) :: (am_prs cv L).filter (fun q => !(q.1 == i) && !(q.1 + 1 == i && q.2.category == 2)))) (hi : i < L.length) : am_lv cv ls (am_set L i v) := by
  refine ⟨h.2.1, h.1.trans (am_set_len L i v).symm, fun j w hj hw => ?_⟩
  by_cases e : j = i
  · subst e
    rw [am_set_self hi] at hj
    cases hj
    exact h.2.2 (j, cv v) List.mem_cons_self
  · obtain ⟨h1, h2⟩ := am_set_ne e hj hw
    refine h.2.2 (j, cv w) (List.mem_cons_of_mem _ (List.mem_filter.mpr ⟨am_prs_in h1 hw, ?_⟩))
    have hcat := hc w
    by_cases e2 : j + 1 = i
    · have hn : ¬ w.category = 2 := fun q => h2 ⟨e2, q⟩
      simp [e, e2, hcat, hn]
    · simp [e, e2]
theorem am_lv.st2 {cv : Value → Value} (hc : ∀ v, (cv v).category = v.category) {ls : Array Slot} {L : am_V} {i : Nat} {v : Value} (h : lv_has ls L.length ((i, cv v) :: (am_prs cv L).filter (fun q => !(q.1 == i) && (!(q.1 == i + 1) && !(q.1 + 1 == i && q.2.category == 2))))) (hi : i < L.length) : am_lv cv ls (am_set2 L i v) := by
  refine ⟨h.2.1, by unfold am_set2; rw [List.length_set, am_set_len]; exact h.1, fun j w hj hw => ?_⟩
  unfold am_set2 at hj
  by_cases e1 : j = i + 1
  · subst e1
    exfalso
    by_cases hl : i + 1 < (am_set L i v).length
    · rw [List.getElem?_set_self hl] at hj
      cases hj
      cases hw
    · rw [List.getElem?_eq_none (by rw [List.length_set]; omega)] at hj
      cases hj
  · rw [List.getElem?_set_ne (fun q => e1 q.symm)] at hj
    by_cases e : j = i
    · subst e
      rw [am_set_self hi] at hj
      cases hj
      exact h.2.2 (j, cv v) List.mem_cons_self
    · obtain ⟨h1, h2⟩ := am_set_ne e hj hw
      refine h.2.2 (j, cv w) (List.mem_cons_of_mem _ (List.mem_filter.mpr ⟨am_prs_in h1 hw, ?_⟩))
      have hcat := hc w
      by_cases e2 : j + 1 = i
      · have hn : ¬ w.category = 2 := fun q => h2 ⟨e2, q⟩
        simp [e, e1, e2, hcat, hn]
      · simp [e, e1, e2]
theorem am_lv.forget {cv : Value → Value} {ls : Array Slot} {L : am_V} (h : am_lv cv ls L) (j : Nat) : am_lv cv ls (L.set j (.retAddr 0)) := by
  refine ⟨h.1, by rw [List.length_set]; exact h.2.1, fun i v hi hu => ?_⟩
  by_cases e : i = j
  · subst e
    exfalso
    by_cases hl : i < L.length
    · rw [List.getElem?_set_self hl] at hi
      cases hi
      cases hu
    · rw [List.getElem?_eq_none (by rw [List.length_set]; omega)] at hi
      cases hi
  · rw [List.getElem?_set_ne (fun q => e q.symm)] at hi
    exact h.2.2 i v hi hu
/-! a method's locals at its start -/
def am_ent : am_V → am_V
  | [] => []
  | .long x :: r => .long x :: .retAddr 0 :: am_ent r
  | .double x :: r => .double x :: .retAddr 0 :: am_ent r
  | v :: r => v :: am_ent r
def am_en (i : Nat) (As : am_V) : am_V := am_ent As ++ List.replicate (am_mx i - (am_ent As).length) (.retAddr 0)
theorem am_ent_args {cv : Value → Value} (hc : ∀ v, (cv v).category = v.category) : ∀ (As : am_V) (b j : Nat) (v : Value), (am_ent As)[j]? = some v → am_unk v = false → (b + j, cv v) ∈ lv_args b (As.map cv)
  | [], b, j, v, h, _ => by simp [am_ent] at h
  | a :: r, b, j, v, h, hu => by
    have one : a.category = 1 → (am_ent (a :: r)) = a :: am_ent r := fun hq => by cases a <;> first | rfl | cases hq
    have two : a.category = 2 → (am_ent (a :: r)) = a :: .retAddr 0 :: am_ent r := fun hq => by cases a <;> first | rfl | cases hq
    rw [List.map_cons, lv_args]
    rcases lv_cat a with hq | hq
    · rw [one hq] at h
      cases j with
      | zero =>
        cases h
        exact List.mem_cons_self
      | succ j =>
        rw [List.getElem?_cons_succ] at h
        have := am_ent_args hc r (b + 1) j v h hu
        rw [show b + (j + 1) = b + 1 + j by omega]
        refine List.mem_cons_of_mem _ ?_
        rw [if_neg (by rw [hc, hq]; decide)]
        exact this
    · rw [two hq] at h
      match j, h with
      | 0, h =>
        cases h
        exact List.mem_cons_self
      | 1, h =>
        cases h
        cases hu
      | j + 2, h =>
        rw [List.getElem?_cons_succ, List.getElem?_cons_succ] at h
        have := am_ent_args hc r (b + 2) j v h hu
        rw [show b + (j + 2) = b + 2 + j by omega]
        refine List.mem_cons_of_mem _ ?_
        rw [if_pos (by rw [hc, hq])]
        exact this
theorem am_ent_len {cv : Value → Value} (hc : ∀ v, (cv v).category = v.category) : ∀ As : am_V, (am_ent As).length = (lg_sl (As.map cv)).length
  | [] => rfl
  | a :: r => by
    have ih := am_ent_len hc r
    have h1 : (lg_sl ((a :: r).map cv)).length = (if (cv a).category = 2 then 2 else 1) + (lg_sl (r.map cv)).length := by
      simp only [lg_sl, List.map_cons, List.flatMap_cons, List.length_append]
      split <;> rfl
    rw [h1, hc, ← ih]
    cases a <;> simp [am_ent, Value.category] <;> omega
theorem am_lv.entry {cv : Value → Value} (hc : ∀ v, (cv v).category = v.category) {i : Nat} {As : am_V} (hn : (am_ent As).length ≤ am_mx i) : am_lv cv ((lg_sl (As.map cv) ++ List.replicate (am_mx i - (lg_sl (As.map cv)).length) Slot.unset).toArray) (am_en i As) := by
  have hlen := am_ent_len hc As
  obtain ⟨h1, h2, h3⟩ := lv_entry (As.map cv) (n := am_mx i) (by omega)
  refine ⟨h2, by rw [h1]; unfold am_en; simp; omega, fun j v hj hu => ?_⟩
  unfold am_en at hj
  by_cases hl : j < (am_ent As).length
  · rw [List.getElem?_append_left hl] at hj
    have := am_ent_args hc As 0 j v hj hu
    rw [Nat.zero_add] at this
    exact h3 _ this
  · rw [List.getElem?_append_right (by omega)] at hj
    rw [List.getElem?_replicate] at hj
    split at hj
    · cases hj
      cases hu
    · cases hj
theorem am_en_len {i : Nat} {As : am_V} (hn : (am_ent As).length ≤ am_mx i) : (am_en i As).length = am_mx i := by
  unfold am_en
  simp
  omega
def am_ln (ins : Instr) : Nat := match ins with
  | .bipush _ => 2
  | .sipush _ => 3
  | .iload _ => 2
  | .lload _ => 2
  | .aload _ => 2
  | .istore _ => 2
  | .lstore _ => 2
  | .astore _ => 2
  | .iinc _ _ => 3
  | _ => 1
def am_q (ins : Instr) (L S : am_V) : Option (am_V × am_V) := match ins with
  | .iconst k => some (L, .int (Int32.ofInt k) :: S)
  | .bipush k => some (L, .int (Int8.ofInt k).toInt32 :: S)
  | .sipush k => some (L, .int (Int16.ofInt k).toInt32 :: S)
  | .lconst k => some (L, .long (Int64.ofNat (k : Nat)) :: S)
  | .iload k => (match L[k]? with
    | some (.int x) => some (L, .int x :: S)
    | _ => none)
  | .iload_n k => (match L[(k : Nat)]? with
    | some (.int x) => some (L, .int x :: S)
    | _ => none)
  | .lload k => (match L[k]? with
    | some (.long x) => some (L, .long x :: S)
    | _ => none)
  | .lload_n k => (match L[(k : Nat)]? with
    | some (.long x) => some (L, .long x :: S)
    | _ => none)
  | .aload k => (match L[k]? with
    | some (.ref x) => some (L, .ref x :: S)
    | _ => none)
  | .aload_n k => (match L[(k : Nat)]? with
    | some (.ref x) => some (L, .ref x :: S)
    | _ => none)
  | .istore k => (match S with
    | .int x :: T => if k < L.length then some (am_set L k (.int x), T) else none
    | _ => none)
  | .istore_n k => (match S with
    | .int x :: T => if (k : Nat) < L.length then some (am_set L k (.int x), T) else none
    | _ => none)
  | .astore k => (match S with
    | .ref x :: T => if k < L.length then some (am_set L k (.ref x), T) else none
    | _ => none)
  | .astore_n k => (match S with
    | .ref x :: T => if (k : Nat) < L.length then some (am_set L k (.ref x), T) else none
    | _ => none)
  | .lstore k => (match S with
    | .long x :: T => if k + 1 < L.length then some (am_set2 L k (.long x), T) else none
    | _ => none)
  | .lstore_n k => (match S with
    | .long x :: T => if (k : Nat) + 1 < L.length then some (am_set2 L k (.long x), T) else none
    | _ => none)
  | .iinc k n => (match L[k]? with
    | some (.int x) => some (am_set L k (.int (x + Int32.ofInt n)), S)
    | _ => none)
  | .iadd => (match S with
    | .int y :: .int x :: T => some (L, .int (x + y) :: T)
    | _ => none)
  | .isub => (match S with
    | .int y :: .int x :: T => some (L, .int (x - y) :: T)
    | _ => none)
  | .imul => (match S with
    | .int y :: .int x :: T => some (L, .int (x * y) :: T)
    | _ => none)
  | .iand => (match S with
    | .int y :: .int x :: T => some (L, .int (x &&& y) :: T)
    | _ => none)
  | .ior => (match S with
    | .int y :: .int x :: T => some (L, .int (x ||| y) :: T)
    | _ => none)
  | .ishl => (match S with
    | .int y :: .int x :: T => some (L, .int (x <<< (y &&& 31)) :: T)
    | _ => none)
  | .ishr => (match S with
    | .int y :: .int x :: T => some (L, .int (x >>> (y &&& 31)) :: T)
    | _ => none)
  | .ladd => (match S with
    | .long y :: .long x :: T => some (L, .long (x + y) :: T)
    | _ => none)
  | .lsub => (match S with
    | .long y :: .long x :: T => some (L, .long (x - y) :: T)
    | _ => none)
  | .lmul => (match S with
    | .long y :: .long x :: T => some (L, .long (x * y) :: T)
    | _ => none)
  | .land => (match S with
    | .long y :: .long x :: T => some (L, .long (x &&& y) :: T)
    | _ => none)
  | .lor => (match S with
    | .long y :: .long x :: T => some (L, .long (x ||| y) :: T)
    | _ => none)
  | .iushr => (match S with
    | .int y :: .int x :: T => some (L, .int ((x.toUInt32 >>> (y.toUInt32 &&& Int32.toUInt32 31)).toInt32) :: T)
    | _ => none)
  | .lshl => (match S with
    | .int y :: .long x :: T => some (L, .long (x <<< (y.toInt64 &&& 63)) :: T)
    | _ => none)
  | .lshr => (match S with
    | .int y :: .long x :: T => some (L, .long (x >>> (y.toInt64 &&& 63)) :: T)
    | _ => none)
  | .idiv => (match S with
    | .int y :: .int x :: T => if y = 0 then none else some (L, .int (x / y) :: T)
    | _ => none)
  | .irem => (match S with
    | .int y :: .int x :: T => if y = 0 then none else some (L, .int (x - x / y * y) :: T)
    | _ => none)
  | .ldiv => (match S with
    | .long y :: .long x :: T => if y = 0 then none else some (L, .long (x / y) :: T)
    | _ => none)
  | .ineg => (match S with
    | .int x :: T => some (L, .int (-x) :: T)
    | _ => none)
  | .i2l => (match S with
    | .int x :: T => some (L, .long x.toInt64 :: T)
    | _ => none)
  | .l2i => (match S with
    | .long x :: T => some (L, .int x.toInt32 :: T)
    | _ => none)
  | .i2c => (match S with
    | .int x :: T => some (L, .int ((x.toUInt32 % 65536).toInt32) :: T)
    | _ => none)
  | .lcmp => (match S with
    | .long y :: .long x :: T => some (L, .int (lg_cmp x y) :: T)
    | _ => none)
  | .dup => (match S with
    | v :: T => if am_wide v then none else some (L, v :: v :: T)
    | _ => none)
  | .pop => (match S with
    | v :: T => if am_wide v then none else some (L, T)
    | _ => none)
  | .dup_x1 => (match S with
    | v :: w :: T => if am_wide v || am_wide w then none else some (L, v :: w :: v :: T)
    | _ => none)
  | .dup2 => (match S with
    | v :: w :: T => if am_wide v || am_wide w then none else some (L, v :: w :: v :: w :: T)
    | _ => none)
  | _ => none
section AMQ
variable {p : Program} {l : Launch} {e : Env} {R : Room} {s : State} {m : MethodId} {args : Array Value} {below : List Frame} {meth : Method} {c : Code} {H : Heap} {locs : List Loc} {cells slots : Nat} {Q : State → Prop}
variable {cc : ByteArray} {pc : Nat} {ls : Array Slot} {B : Nat} {sp : Nat → Nat} {fz : Value} {L S L' S' : am_V}
theorem am_W_iconst (hf : fz.category = 1) (hx : p.tables.exec = Jvm.exec) (hb : c.code = cc) {k : Int} (hd : decode cc pc = .ok (.iconst k, am_ln (.iconst k))) (h : am_q (.iconst k) L S = some (L', S')) (hl : am_lv (am_cv B sp fz) ls L) (kk : ∀ ls2 : Array Slot, am_lv (am_cv B sp fz) ls2 L' → L'.length = L.length → W p l e R s m args below meth c H locs cells slots Q (F0 m (pc + am_ln (.iconst k)) ls2 (S'.map (am_cv B sp fz)))) : W p l e R s m args below meth c H locs cells slots Q (F0 m pc ls (S.map (am_cv B sp fz))) := by
  simp only [am_q] at h
  cases h
  exact lv_iconst hx hb hd rfl (kk ls hl rfl)
theorem am_W_bipush (hf : fz.category = 1) (hx : p.tables.exec = Jvm.exec) (hb : c.code = cc) {k : Int} (hd : decode cc pc = .ok (.bipush k, am_ln (.bipush k))) (h : am_q (.bipush k) L S = some (L', S')) (hl : am_lv (am_cv B sp fz) ls L) (kk : ∀ ls2 : Array Slot, am_lv (am_cv B sp fz) ls2 L' → L'.length = L.length → W p l e R s m args below meth c H locs cells slots Q (F0 m (pc + am_ln (.bipush k)) ls2 (S'.map (am_cv B sp fz)))) : W p l e R s m args below meth c H locs cells slots Q (F0 m pc ls (S.map (am_cv B sp fz))) := by
  simp only [am_q] at h
  cases h
  exact lv_bipush hx hb hd rfl (kk ls hl rfl)
theorem am_W_sipush (hf : fz.category = 1) (hx : p.tables.exec = Jvm.exec) (hb : c.code = cc) {k : Int} (hd : decode cc pc = .ok (.sipush k, am_ln (.sipush k))) (h : am_q (.sipush k) L S = some (L', S')) (hl : am_lv (am_cv B sp fz) ls L) (kk : ∀ ls2 : Array Slot, am_lv (am_cv B sp fz) ls2 L' → L'.length = L.length → W p l e R s m args below meth c H locs cells slots Q (F0 m (pc + am_ln (.sipush k)) ls2 (S'.map (am_cv B sp fz)))) : W p l e R s m args below meth c H locs cells slots Q (F0 m pc ls (S.map (am_cv B sp fz))) := by
  simp only [am_q] at h
  cases h
  exact lv_sipush hx hb hd rfl (kk ls hl rfl)
theorem am_W_lconst (hf : fz.category = 1) (hx : p.tables.exec = Jvm.exec) (hb : c.code = cc) {k : Fin 2} (hd : decode cc pc = .ok (.lconst k, am_ln (.lconst k))) (h : am_q (.lconst k) L S = some (L', S')) (hl : am_lv (am_cv B sp fz) ls L) (kk : ∀ ls2 : Array Slot, am_lv (am_cv B sp fz) ls2 L' → L'.length = L.length → W p l e R s m args below meth c H locs cells slots Q (F0 m (pc + am_ln (.lconst k)) ls2 (S'.map (am_cv B sp fz)))) : W p l e R s m args below meth c H locs cells slots Q (F0 m pc ls (S.map (am_cv B sp fz))) := by
  simp only [am_q] at h
  cases h
  exact lv_lconst hx hb hd rfl (kk ls hl rfl)
theorem am_W_iload (hf : fz.category = 1) (hx : p.tables.exec = Jvm.exec) (hb : c.code = cc) {k : Nat} (hd : decode cc pc = .ok (.iload k, am_ln (.iload k))) (h : am_q (.iload k) L S = some (L', S')) (hl : am_lv (am_cv B sp fz) ls L) (kk : ∀ ls2 : Array Slot, am_lv (am_cv B sp fz) ls2 L' → L'.length = L.length → W p l e R s m args below meth c H locs cells slots Q (F0 m (pc + am_ln (.iload k)) ls2 (S'.map (am_cv B sp fz)))) : W p l e R s m args below meth c H locs cells slots Q (F0 m pc ls (S.map (am_cv B sp fz))) := by
  simp only [am_q] at h
  split at h
  · rename_i x hk
    cases h
    exact lv_iload hx hb hd (hl.2.2 _ _ hk rfl) (kk ls hl rfl)
  · cases h
theorem am_W_iload_n (hf : fz.category = 1) (hx : p.tables.exec = Jvm.exec) (hb : c.code = cc) {k : Fin 4} (hd : decode cc pc = .ok (.iload_n k, am_ln (.iload_n k))) (h : am_q (.iload_n k) L S = some (L', S')) (hl : am_lv (am_cv B sp fz) ls L) (kk : ∀ ls2 : Array Slot, am_lv (am_cv B sp fz) ls2 L' → L'.length = L.length → W p l e R s m args below meth c H locs cells slots Q (F0 m (pc + am_ln (.iload_n k)) ls2 (S'.map (am_cv B sp fz)))) : W p l e R s m args below meth c H locs cells slots Q (F0 m pc ls (S.map (am_cv B sp fz))) := by
  simp only [am_q] at h
  split at h
  · rename_i x hk
    cases h
    exact lv_iload_n hx hb hd rfl (hl.2.2 _ _ hk rfl) (kk ls hl rfl)
  · cases h
theorem am_W_lload (hf : fz.category = 1) (hx : p.tables.exec = Jvm.exec) (hb : c.code = cc) {k : Nat} (hd : decode cc pc = .ok (.lload k, am_ln (.lload k))) (h : am_q (.lload k) L S = some (L', S')) (hl : am_lv (am_cv B sp fz) ls L) (kk : ∀ ls2 : Array Slot, am_lv (am_cv B sp fz) ls2 L' → L'.length = L.length → W p l e R s m args below meth c H locs cells slots Q (F0 m (pc + am_ln (.lload k)) ls2 (S'.map (am_cv B sp fz)))) : W p l e R s m args below meth c H locs cells slots Q (F0 m pc ls (S.map (am_cv B sp fz))) := by
  simp only [am_q] at h
  split at h
  · rename_i x hk
    cases h
    exact lv_lload hx hb hd (hl.2.2 _ _ hk rfl) (kk ls hl rfl)
  · cases h
theorem am_W_lload_n (hf : fz.category = 1) (hx : p.tables.exec = Jvm.exec) (hb : c.code = cc) {k : Fin 4} (hd : decode cc pc = .ok (.lload_n k, am_ln (.lload_n k))) (h : am_q (.lload_n k) L S = some (L', S')) (hl : am_lv (am_cv B sp fz) ls L) (kk : ∀ ls2 : Array Slot, am_lv (am_cv B sp fz) ls2 L' → L'.length = L.length → W p l e R s m args below meth c H locs cells slots Q (F0 m (pc + am_ln (.lload_n k)) ls2 (S'.map (am_cv B sp fz)))) : W p l e R s m args below meth c H locs cells slots Q (F0 m pc ls (S.map (am_cv B sp fz))) := by
  simp only [am_q] at h
  split at h
  · rename_i x hk
    cases h
    exact lv_lload_n hx hb hd rfl (hl.2.2 _ _ hk rfl) (kk ls hl rfl)
  · cases h
theorem am_W_aload (hf : fz.category = 1) (hx : p.tables.exec = Jvm.exec) (hb : c.code = cc) {k : Nat} (hd : decode cc pc = .ok (.aload k, am_ln (.aload k))) (h : am_q (.aload k) L S = some (L', S')) (hl : am_lv (am_cv B sp fz) ls L) (kk : ∀ ls2 : Array Slot, am_lv (am_cv B sp fz) ls2 L' → L'.length = L.length → W p l e R s m args below meth c H locs cells slots Q (F0 m (pc + am_ln (.aload k)) ls2 (S'.map (am_cv B sp fz)))) : W p l e R s m args below meth c H locs cells slots Q (F0 m pc ls (S.map (am_cv B sp fz))) := by
  simp only [am_q] at h
  split at h
  · rename_i x hk
    cases h
    exact lv_aload hx hb hd (hl.2.2 _ _ hk rfl) (kk ls hl rfl)
  · cases h
theorem am_W_aload_n (hf : fz.category = 1) (hx : p.tables.exec = Jvm.exec) (hb : c.code = cc) {k : Fin 4} (hd : decode cc pc = .ok (.aload_n k, am_ln (.aload_n k))) (h : am_q (.aload_n k) L S = some (L', S')) (hl : am_lv (am_cv B sp fz) ls L) (kk : ∀ ls2 : Array Slot, am_lv (am_cv B sp fz) ls2 L' → L'.length = L.length → W p l e R s m args below meth c H locs cells slots Q (F0 m (pc + am_ln (.aload_n k)) ls2 (S'.map (am_cv B sp fz)))) : W p l e R s m args below meth c H locs cells slots Q (F0 m pc ls (S.map (am_cv B sp fz))) := by
  simp only [am_q] at h
  split at h
  · rename_i x hk
    cases h
    exact lv_aload_n hx hb hd rfl (hl.2.2 _ _ hk rfl) (kk ls hl rfl)
  · cases h
theorem am_W_istore (hf : fz.category = 1) (hx : p.tables.exec = Jvm.exec) (hb : c.code = cc) {k : Nat} (hd : decode cc pc = .ok (.istore k, am_ln (.istore k))) (h : am_q (.istore k) L S = some (L', S')) (hl : am_lv (am_cv B sp fz) ls L) (kk : ∀ ls2 : Array Slot, am_lv (am_cv B sp fz) ls2 L' → L'.length = L.length → W p l e R s m args below meth c H locs cells slots Q (F0 m (pc + am_ln (.istore k)) ls2 (S'.map (am_cv B sp fz)))) : W p l e R s m args below meth c H locs cells slots Q (F0 m pc ls (S.map (am_cv B sp fz))) := by
  simp only [am_q] at h
  split at h
  · rename_i x T
    split at h
    · rename_i hk
      cases h
      exact lv_istore hx hb hd hl.has hk rfl (fun ls2 h2 => kk ls2 (am_lv.st1 (am_cv_cat hf) h2 hk) (am_set_len _ _ _))
    · cases h
  · cases h
theorem am_W_istore_n (hf : fz.category = 1) (hx : p.tables.exec = Jvm.exec) (hb : c.code = cc) {k : Fin 4} (hd : decode cc pc = .ok (.istore_n k, am_ln (.istore_n k))) (h : am_q (.istore_n k) L S = some (L', S')) (hl : am_lv (am_cv B sp fz) ls L) (kk : ∀ ls2 : Array Slot, am_lv (am_cv B sp fz) ls2 L' → L'.length = L.length → W p l e R s m args below meth c H locs cells slots Q (F0 m (pc + am_ln (.istore_n k)) ls2 (S'.map (am_cv B sp fz)))) : W p l e R s m args below meth c H locs cells slots Q (F0 m pc ls (S.map (am_cv B sp fz))) := by
  simp only [am_q] at h
  split at h
  · rename_i x T
    split at h
    · rename_i hk
      cases h
      exact lv_istore_n hx hb hd rfl hl.has hk rfl (fun ls2 h2 => kk ls2 (am_lv.st1 (am_cv_cat hf) h2 hk) (am_set_len _ _ _))
    · cases h
  · cases h
theorem am_W_astore (hf : fz.category = 1) (hx : p.tables.exec = Jvm.exec) (hb : c.code = cc) {k : Nat} (hd : decode cc pc = .ok (.astore k, am_ln (.astore k))) (h : am_q (.astore k) L S = some (L', S')) (hl : am_lv (am_cv B sp fz) ls L) (kk : ∀ ls2 : Array Slot, am_lv (am_cv B sp fz) ls2 L' → L'.length = L.length → W p l e R s m args below meth c H locs cells slots Q (F0 m (pc + am_ln (.astore k)) ls2 (S'.map (am_cv B sp fz)))) : W p l e R s m args below meth c H locs cells slots Q (F0 m pc ls (S.map (am_cv B sp fz))) := by
  simp only [am_q] at h
  split at h
  · rename_i x T
    split at h
    · rename_i hk
      cases h
      exact lv_astore hx hb hd hl.has hk rfl (fun ls2 h2 => kk ls2 (am_lv.st1 (am_cv_cat hf) h2 hk) (am_set_len _ _ _))
    · cases h
  · cases h
theorem am_W_astore_n (hf : fz.category = 1) (hx : p.tables.exec = Jvm.exec) (hb : c.code = cc) {k : Fin 4} (hd : decode cc pc = .ok (.astore_n k, am_ln (.astore_n k))) (h : am_q (.astore_n k) L S = some (L', S')) (hl : am_lv (am_cv B sp fz) ls L) (kk : ∀ ls2 : Array Slot, am_lv (am_cv B sp fz) ls2 L' → L'.length = L.length → W p l e R s m args below meth c H locs cells slots Q (F0 m (pc + am_ln (.astore_n k)) ls2 (S'.map (am_cv B sp fz)))) : W p l e R s m args below meth c H locs cells slots Q (F0 m pc ls (S.map (am_cv B sp fz))) := by
  simp only [am_q] at h
  split at h
  · rename_i x T
    split at h
    · rename_i hk
      cases h
      exact lv_astore_n hx hb hd rfl hl.has hk rfl (fun ls2 h2 => kk ls2 (am_lv.st1 (am_cv_cat hf) h2 hk) (am_set_len _ _ _))
    · cases h
  · cases h
theorem am_W_lstore (hf : fz.category = 1) (hx : p.tables.exec = Jvm.exec) (hb : c.code = cc) {k : Nat} (hd : decode cc pc = .ok (.lstore k, am_ln (.lstore k))) (h : am_q (.lstore k) L S = some (L', S')) (hl : am_lv (am_cv B sp fz) ls L) (kk : ∀ ls2 : Array Slot, am_lv (am_cv B sp fz) ls2 L' → L'.length = L.length → W p l e R s m args below meth c H locs cells slots Q (F0 m (pc + am_ln (.lstore k)) ls2 (S'.map (am_cv B sp fz)))) : W p l e R s m args below meth c H locs cells slots Q (F0 m pc ls (S.map (am_cv B sp fz))) := by
  simp only [am_q] at h
  split at h
  · rename_i x T
    split at h
    · rename_i hk
      cases h
      exact lv_lstore hx hb hd hl.has hk rfl (fun ls2 h2 => kk ls2 (am_lv.st2 (am_cv_cat hf) h2 (by omega)) (by unfold am_set2; rw [List.length_set, am_set_len]))
    · cases h
  · cases h
theorem am_W_lstore_n (hf : fz.category = 1) (hx : p.tables.exec = Jvm.exec) (hb : c.code = cc) {k : Fin 4} (hd : decode cc pc = .ok (.lstore_n k, am_ln (.lstore_n k))) (h : am_q (.lstore_n k) L S = some (L', S')) (hl : am_lv (am_cv B sp fz) ls L) (kk : ∀ ls2 : Array Slot, am_lv (am_cv B sp fz) ls2 L' → L'.length = L.length → W p l e R s m args below meth c H locs cells slots Q (F0 m (pc + am_ln (.lstore_n k)) ls2 (S'.map (am_cv B sp fz)))) : W p l e R s m args below meth c H locs cells slots Q (F0 m pc ls (S.map (am_cv B sp fz))) := by
  simp only [am_q] at h
  split at h
  · rename_i x T
    split at h
    · rename_i hk
      cases h
      exact lv_lstore_n hx hb hd rfl hl.has hk rfl (fun ls2 h2 => kk ls2 (am_lv.st2 (am_cv_cat hf) h2 (by omega)) (by unfold am_set2; rw [List.length_set, am_set_len]))
    · cases h
  · cases h
theorem am_W_iinc (hf : fz.category = 1) (hx : p.tables.exec = Jvm.exec) (hb : c.code = cc) {k : Nat} {n : Int} (hd : decode cc pc = .ok (.iinc k n, am_ln (.iinc k n))) (h : am_q (.iinc k n) L S = some (L', S')) (hl : am_lv (am_cv B sp fz) ls L) (kk : ∀ ls2 : Array Slot, am_lv (am_cv B sp fz) ls2 L' → L'.length = L.length → W p l e R s m args below meth c H locs cells slots Q (F0 m (pc + am_ln (.iinc k n)) ls2 (S'.map (am_cv B sp fz)))) : W p l e R s m args below meth c H locs cells slots Q (F0 m pc ls (S.map (am_cv B sp fz))) := by
  simp only [am_q] at h
  split at h
  · rename_i x hk
    cases h
    have hin : (k, Value.int x) ∈ am_prs (am_cv B sp fz) L := am_prs_in (cv := am_cv B sp fz) hk rfl
    obtain ⟨j, hj⟩ := List.getElem?_of_mem hin
    have hkl : k < L.length := (List.getElem?_eq_some_iff.mp hk).1
    exact lv_iinc hx hb hd hl.has hj rfl hkl rfl (fun ls2 h2 => kk ls2 (am_lv.st1 (am_cv_cat hf) h2 hkl) (am_set_len _ _ _))
  · cases h
theorem am_W_iadd (hf : fz.category = 1) (hx : p.tables.exec = Jvm.exec) (hb : c.code = cc)  (hd : decode cc pc = .ok (.iadd, am_ln (.iadd))) (h : am_q (.iadd) L S = some (L', S')) (hl : am_lv (am_cv B sp fz) ls L) (kk : ∀ ls2 : Array Slot, am_lv (am_cv B sp fz) ls2 L' → L'.length = L.length → W p l e R s m args below meth c H locs cells slots Q (F0 m (pc + am_ln (.iadd)) ls2 (S'.map (am_cv B sp fz)))) : W p l e R s m args below meth c H locs cells slots Q (F0 m pc ls (S.map (am_cv B sp fz))) := by
  simp only [am_q] at h
  split at h
  · cases h
    exact lv_iadd hx hb hd (kk ls hl rfl)
  · cases h
theorem am_W_isub (hf : fz.category = 1) (hx : p.tables.exec = Jvm.exec) (hb : c.code = cc)  (hd : decode cc pc = .ok (.isub, am_ln (.isub))) (h : am_q (.isub) L S = some (L', S')) (hl : am_lv (am_cv B sp fz) ls L) (kk : ∀ ls2 : Array Slot, am_lv (am_cv B sp fz) ls2 L' → L'.length = L.length → W p l e R s m args below meth c H locs cells slots Q (F0 m (pc + am_ln (.isub)) ls2 (S'.map (am_cv B sp fz)))) : W p l e R s m args below meth c H locs cells slots Q (F0 m pc ls (S.map (am_cv B sp fz))) := by
  simp only [am_q] at h
  split at h
  · cases h
    exact lv_isub hx hb hd (kk ls hl rfl)
  · cases h
theorem am_W_imul (hf : fz.category = 1) (hx : p.tables.exec = Jvm.exec) (hb : c.code = cc)  (hd : decode cc pc = .ok (.imul, am_ln (.imul))) (h : am_q (.imul) L S = some (L', S')) (hl : am_lv (am_cv B sp fz) ls L) (kk : ∀ ls2 : Array Slot, am_lv (am_cv B sp fz) ls2 L' → L'.length = L.length → W p l e R s m args below meth c H locs cells slots Q (F0 m (pc + am_ln (.imul)) ls2 (S'.map (am_cv B sp fz)))) : W p l e R s m args below meth c H locs cells slots Q (F0 m pc ls (S.map (am_cv B sp fz))) := by
  simp only [am_q] at h
  split at h
  · cases h
    exact lv_imul hx hb hd (kk ls hl rfl)
  · cases h
theorem am_W_iand (hf : fz.category = 1) (hx : p.tables.exec = Jvm.exec) (hb : c.code = cc)  (hd : decode cc pc = .ok (.iand, am_ln (.iand))) (h : am_q (.iand) L S = some (L', S')) (hl : am_lv (am_cv B sp fz) ls L) (kk : ∀ ls2 : Array Slot, am_lv (am_cv B sp fz) ls2 L' → L'.length = L.length → W p l e R s m args below meth c H locs cells slots Q (F0 m (pc + am_ln (.iand)) ls2 (S'.map (am_cv B sp fz)))) : W p l e R s m args below meth c H locs cells slots Q (F0 m pc ls (S.map (am_cv B sp fz))) := by
  simp only [am_q] at h
  split at h
  · cases h
    exact lv_iand hx hb hd (kk ls hl rfl)
  · cases h
theorem am_W_ior (hf : fz.category = 1) (hx : p.tables.exec = Jvm.exec) (hb : c.code = cc)  (hd : decode cc pc = .ok (.ior, am_ln (.ior))) (h : am_q (.ior) L S = some (L', S')) (hl : am_lv (am_cv B sp fz) ls L) (kk : ∀ ls2 : Array Slot, am_lv (am_cv B sp fz) ls2 L' → L'.length = L.length → W p l e R s m args below meth c H locs cells slots Q (F0 m (pc + am_ln (.ior)) ls2 (S'.map (am_cv B sp fz)))) : W p l e R s m args below meth c H locs cells slots Q (F0 m pc ls (S.map (am_cv B sp fz))) := by
  simp only [am_q] at h
  split at h
  · cases h
    exact lv_ior hx hb hd (kk ls hl rfl)
  · cases h
theorem am_W_ishl (hf : fz.category = 1) (hx : p.tables.exec = Jvm.exec) (hb : c.code = cc)  (hd : decode cc pc = .ok (.ishl, am_ln (.ishl))) (h : am_q (.ishl) L S = some (L', S')) (hl : am_lv (am_cv B sp fz) ls L) (kk : ∀ ls2 : Array Slot, am_lv (am_cv B sp fz) ls2 L' → L'.length = L.length → W p l e R s m args below meth c H locs cells slots Q (F0 m (pc + am_ln (.ishl)) ls2 (S'.map (am_cv B sp fz)))) : W p l e R s m args below meth c H locs cells slots Q (F0 m pc ls (S.map (am_cv B sp fz))) := by
  simp only [am_q] at h
  split at h
  · cases h
    exact lv_ishl hx hb hd (kk ls hl rfl)
  · cases h
theorem am_W_ishr (hf : fz.category = 1) (hx : p.tables.exec = Jvm.exec) (hb : c.code = cc)  (hd : decode cc pc = .ok (.ishr, am_ln (.ishr))) (h : am_q (.ishr) L S = some (L', S')) (hl : am_lv (am_cv B sp fz) ls L) (kk : ∀ ls2 : Array Slot, am_lv (am_cv B sp fz) ls2 L' → L'.length = L.length → W p l e R s m args below meth c H locs cells slots Q (F0 m (pc + am_ln (.ishr)) ls2 (S'.map (am_cv B sp fz)))) : W p l e R s m args below meth c H locs cells slots Q (F0 m pc ls (S.map (am_cv B sp fz))) := by
  simp only [am_q] at h
  split at h
  · cases h
    exact lv_ishr hx hb hd (kk ls hl rfl)
  · cases h
theorem am_W_lcmp (hf : fz.category = 1) (hx : p.tables.exec = Jvm.exec) (hb : c.code = cc)  (hd : decode cc pc = .ok (.lcmp, am_ln (.lcmp))) (h : am_q (.lcmp) L S = some (L', S')) (hl : am_lv (am_cv B sp fz) ls L) (kk : ∀ ls2 : Array Slot, am_lv (am_cv B sp fz) ls2 L' → L'.length = L.length → W p l e R s m args below meth c H locs cells slots Q (F0 m (pc + am_ln (.lcmp)) ls2 (S'.map (am_cv B sp fz)))) : W p l e R s m args below meth c H locs cells slots Q (F0 m pc ls (S.map (am_cv B sp fz))) := by
  simp only [am_q] at h
  split at h
  · cases h
    exact W.lcmp hx hb hd (kk ls hl rfl)
  · cases h
theorem am_W_ladd (hf : fz.category = 1) (hx : p.tables.exec = Jvm.exec) (hb : c.code = cc)  (hd : decode cc pc = .ok (.ladd, am_ln (.ladd))) (h : am_q (.ladd) L S = some (L', S')) (hl : am_lv (am_cv B sp fz) ls L) (kk : ∀ ls2 : Array Slot, am_lv (am_cv B sp fz) ls2 L' → L'.length = L.length → W p l e R s m args below meth c H locs cells slots Q (F0 m (pc + am_ln (.ladd)) ls2 (S'.map (am_cv B sp fz)))) : W p l e R s m args below meth c H locs cells slots Q (F0 m pc ls (S.map (am_cv B sp fz))) := by
  simp only [am_q] at h
  split at h
  · cases h
    exact lv_ladd hx hb hd (kk ls hl rfl)
  · cases h
theorem am_W_lsub (hf : fz.category = 1) (hx : p.tables.exec = Jvm.exec) (hb : c.code = cc)  (hd : decode cc pc = .ok (.lsub, am_ln (.lsub))) (h : am_q (.lsub) L S = some (L', S')) (hl : am_lv (am_cv B sp fz) ls L) (kk : ∀ ls2 : Array Slot, am_lv (am_cv B sp fz) ls2 L' → L'.length = L.length → W p l e R s m args below meth c H locs cells slots Q (F0 m (pc + am_ln (.lsub)) ls2 (S'.map (am_cv B sp fz)))) : W p l e R s m args below meth c H locs cells slots Q (F0 m pc ls (S.map (am_cv B sp fz))) := by
  simp only [am_q] at h
  split at h
  · cases h
    exact lv_lsub hx hb hd (kk ls hl rfl)
  · cases h
theorem am_W_lmul (hf : fz.category = 1) (hx : p.tables.exec = Jvm.exec) (hb : c.code = cc)  (hd : decode cc pc = .ok (.lmul, am_ln (.lmul))) (h : am_q (.lmul) L S = some (L', S')) (hl : am_lv (am_cv B sp fz) ls L) (kk : ∀ ls2 : Array Slot, am_lv (am_cv B sp fz) ls2 L' → L'.length = L.length → W p l e R s m args below meth c H locs cells slots Q (F0 m (pc + am_ln (.lmul)) ls2 (S'.map (am_cv B sp fz)))) : W p l e R s m args below meth c H locs cells slots Q (F0 m pc ls (S.map (am_cv B sp fz))) := by
  simp only [am_q] at h
  split at h
  · cases h
    exact lv_lmul hx hb hd (kk ls hl rfl)
  · cases h
theorem am_W_land (hf : fz.category = 1) (hx : p.tables.exec = Jvm.exec) (hb : c.code = cc)  (hd : decode cc pc = .ok (.land, am_ln (.land))) (h : am_q (.land) L S = some (L', S')) (hl : am_lv (am_cv B sp fz) ls L) (kk : ∀ ls2 : Array Slot, am_lv (am_cv B sp fz) ls2 L' → L'.length = L.length → W p l e R s m args below meth c H locs cells slots Q (F0 m (pc + am_ln (.land)) ls2 (S'.map (am_cv B sp fz)))) : W p l e R s m args below meth c H locs cells slots Q (F0 m pc ls (S.map (am_cv B sp fz))) := by
  simp only [am_q] at h
  split at h
  · cases h
    exact lv_land hx hb hd (kk ls hl rfl)
  · cases h
theorem am_W_lor (hf : fz.category = 1) (hx : p.tables.exec = Jvm.exec) (hb : c.code = cc)  (hd : decode cc pc = .ok (.lor, am_ln (.lor))) (h : am_q (.lor) L S = some (L', S')) (hl : am_lv (am_cv B sp fz) ls L) (kk : ∀ ls2 : Array Slot, am_lv (am_cv B sp fz) ls2 L' → L'.length = L.length → W p l e R s m args below meth c H locs cells slots Q (F0 m (pc + am_ln (.lor)) ls2 (S'.map (am_cv B sp fz)))) : W p l e R s m args below meth c H locs cells slots Q (F0 m pc ls (S.map (am_cv B sp fz))) := by
  simp only [am_q] at h
  split at h
  · cases h
    exact lv_lor hx hb hd (kk ls hl rfl)
  · cases h
theorem am_W_iushr (hf : fz.category = 1) (hx : p.tables.exec = Jvm.exec) (hb : c.code = cc)  (hd : decode cc pc = .ok (.iushr, am_ln (.iushr))) (h : am_q (.iushr) L S = some (L', S')) (hl : am_lv (am_cv B sp fz) ls L) (kk : ∀ ls2 : Array Slot, am_lv (am_cv B sp fz) ls2 L' → L'.length = L.length → W p l e R s m args below meth c H locs cells slots Q (F0 m (pc + am_ln (.iushr)) ls2 (S'.map (am_cv B sp fz)))) : W p l e R s m args below meth c H locs cells slots Q (F0 m pc ls (S.map (am_cv B sp fz))) := by
  simp only [am_q] at h
  split at h
  · cases h
    exact lv_iushr hx hb hd rfl (kk ls hl rfl)
  · cases h
theorem am_W_lshl (hf : fz.category = 1) (hx : p.tables.exec = Jvm.exec) (hb : c.code = cc)  (hd : decode cc pc = .ok (.lshl, am_ln (.lshl))) (h : am_q (.lshl) L S = some (L', S')) (hl : am_lv (am_cv B sp fz) ls L) (kk : ∀ ls2 : Array Slot, am_lv (am_cv B sp fz) ls2 L' → L'.length = L.length → W p l e R s m args below meth c H locs cells slots Q (F0 m (pc + am_ln (.lshl)) ls2 (S'.map (am_cv B sp fz)))) : W p l e R s m args below meth c H locs cells slots Q (F0 m pc ls (S.map (am_cv B sp fz))) := by
  simp only [am_q] at h
  split at h
  · cases h
    exact lv_lshl hx hb hd rfl (kk ls hl rfl)
  · cases h
theorem am_W_lshr (hf : fz.category = 1) (hx : p.tables.exec = Jvm.exec) (hb : c.code = cc)  (hd : decode cc pc = .ok (.lshr, am_ln (.lshr))) (h : am_q (.lshr) L S = some (L', S')) (hl : am_lv (am_cv B sp fz) ls L) (kk : ∀ ls2 : Array Slot, am_lv (am_cv B sp fz) ls2 L' → L'.length = L.length → W p l e R s m args below meth c H locs cells slots Q (F0 m (pc + am_ln (.lshr)) ls2 (S'.map (am_cv B sp fz)))) : W p l e R s m args below meth c H locs cells slots Q (F0 m pc ls (S.map (am_cv B sp fz))) := by
  simp only [am_q] at h
  split at h
  · cases h
    exact lv_lshr hx hb hd rfl (kk ls hl rfl)
  · cases h
theorem am_W_i2l (hf : fz.category = 1) (hx : p.tables.exec = Jvm.exec) (hb : c.code = cc)  (hd : decode cc pc = .ok (.i2l, am_ln (.i2l))) (h : am_q (.i2l) L S = some (L', S')) (hl : am_lv (am_cv B sp fz) ls L) (kk : ∀ ls2 : Array Slot, am_lv (am_cv B sp fz) ls2 L' → L'.length = L.length → W p l e R s m args below meth c H locs cells slots Q (F0 m (pc + am_ln (.i2l)) ls2 (S'.map (am_cv B sp fz)))) : W p l e R s m args below meth c H locs cells slots Q (F0 m pc ls (S.map (am_cv B sp fz))) := by
  simp only [am_q] at h
  split at h
  · cases h
    exact lv_i2l hx hb hd rfl (kk ls hl rfl)
  · cases h
theorem am_W_l2i (hf : fz.category = 1) (hx : p.tables.exec = Jvm.exec) (hb : c.code = cc)  (hd : decode cc pc = .ok (.l2i, am_ln (.l2i))) (h : am_q (.l2i) L S = some (L', S')) (hl : am_lv (am_cv B sp fz) ls L) (kk : ∀ ls2 : Array Slot, am_lv (am_cv B sp fz) ls2 L' → L'.length = L.length → W p l e R s m args below meth c H locs cells slots Q (F0 m (pc + am_ln (.l2i)) ls2 (S'.map (am_cv B sp fz)))) : W p l e R s m args below meth c H locs cells slots Q (F0 m pc ls (S.map (am_cv B sp fz))) := by
  simp only [am_q] at h
  split at h
  · cases h
    exact lv_l2i hx hb hd rfl (kk ls hl rfl)
  · cases h
theorem am_W_i2c (hf : fz.category = 1) (hx : p.tables.exec = Jvm.exec) (hb : c.code = cc)  (hd : decode cc pc = .ok (.i2c, am_ln (.i2c))) (h : am_q (.i2c) L S = some (L', S')) (hl : am_lv (am_cv B sp fz) ls L) (kk : ∀ ls2 : Array Slot, am_lv (am_cv B sp fz) ls2 L' → L'.length = L.length → W p l e R s m args below meth c H locs cells slots Q (F0 m (pc + am_ln (.i2c)) ls2 (S'.map (am_cv B sp fz)))) : W p l e R s m args below meth c H locs cells slots Q (F0 m pc ls (S.map (am_cv B sp fz))) := by
  simp only [am_q] at h
  split at h
  · cases h
    exact lv_i2c hx hb hd rfl (kk ls hl rfl)
  · cases h
theorem am_W_ineg (hf : fz.category = 1) (hx : p.tables.exec = Jvm.exec) (hb : c.code = cc)  (hd : decode cc pc = .ok (.ineg, am_ln (.ineg))) (h : am_q (.ineg) L S = some (L', S')) (hl : am_lv (am_cv B sp fz) ls L) (kk : ∀ ls2 : Array Slot, am_lv (am_cv B sp fz) ls2 L' → L'.length = L.length → W p l e R s m args below meth c H locs cells slots Q (F0 m (pc + am_ln (.ineg)) ls2 (S'.map (am_cv B sp fz)))) : W p l e R s m args below meth c H locs cells slots Q (F0 m pc ls (S.map (am_cv B sp fz))) := by
  simp only [am_q] at h
  split at h
  · cases h
    exact lv_ineg hx hb hd (kk ls hl rfl)
  · cases h
theorem am_W_idiv (hf : fz.category = 1) (hx : p.tables.exec = Jvm.exec) (hb : c.code = cc)  (hd : decode cc pc = .ok (.idiv, am_ln (.idiv))) (h : am_q (.idiv) L S = some (L', S')) (hl : am_lv (am_cv B sp fz) ls L) (kk : ∀ ls2 : Array Slot, am_lv (am_cv B sp fz) ls2 L' → L'.length = L.length → W p l e R s m args below meth c H locs cells slots Q (F0 m (pc + am_ln (.idiv)) ls2 (S'.map (am_cv B sp fz)))) : W p l e R s m args below meth c H locs cells slots Q (F0 m pc ls (S.map (am_cv B sp fz))) := by
  simp only [am_q] at h
  split at h
  · split at h
    · cases h
    · rename_i hz
      cases h
      exact lv_idiv hx hb hd hz (kk ls hl rfl)
  · cases h
theorem am_W_irem (hf : fz.category = 1) (hx : p.tables.exec = Jvm.exec) (hb : c.code = cc)  (hd : decode cc pc = .ok (.irem, am_ln (.irem))) (h : am_q (.irem) L S = some (L', S')) (hl : am_lv (am_cv B sp fz) ls L) (kk : ∀ ls2 : Array Slot, am_lv (am_cv B sp fz) ls2 L' → L'.length = L.length → W p l e R s m args below meth c H locs cells slots Q (F0 m (pc + am_ln (.irem)) ls2 (S'.map (am_cv B sp fz)))) : W p l e R s m args below meth c H locs cells slots Q (F0 m pc ls (S.map (am_cv B sp fz))) := by
  simp only [am_q] at h
  split at h
  · split at h
    · cases h
    · rename_i hz
      cases h
      exact lv_irem hx hb hd hz (kk ls hl rfl)
  · cases h
theorem am_W_ldiv (hf : fz.category = 1) (hx : p.tables.exec = Jvm.exec) (hb : c.code = cc)  (hd : decode cc pc = .ok (.ldiv, am_ln (.ldiv))) (h : am_q (.ldiv) L S = some (L', S')) (hl : am_lv (am_cv B sp fz) ls L) (kk : ∀ ls2 : Array Slot, am_lv (am_cv B sp fz) ls2 L' → L'.length = L.length → W p l e R s m args below meth c H locs cells slots Q (F0 m (pc + am_ln (.ldiv)) ls2 (S'.map (am_cv B sp fz)))) : W p l e R s m args below meth c H locs cells slots Q (F0 m pc ls (S.map (am_cv B sp fz))) := by
  simp only [am_q] at h
  split at h
  · split at h
    · cases h
    · rename_i hz
      cases h
      exact lv_ldiv hx hb hd hz (kk ls hl rfl)
  · cases h
theorem am_W_dup (hf : fz.category = 1) (hx : p.tables.exec = Jvm.exec) (hb : c.code = cc)  (hd : decode cc pc = .ok (.dup, am_ln (.dup))) (h : am_q (.dup) L S = some (L', S')) (hl : am_lv (am_cv B sp fz) ls L) (kk : ∀ ls2 : Array Slot, am_lv (am_cv B sp fz) ls2 L' → L'.length = L.length → W p l e R s m args below meth c H locs cells slots Q (F0 m (pc + am_ln (.dup)) ls2 (S'.map (am_cv B sp fz)))) : W p l e R s m args below meth c H locs cells slots Q (F0 m pc ls (S.map (am_cv B sp fz))) := by
  simp only [am_q] at h
  split at h
  · rename_i v T
    split at h
    · cases h
    · rename_i hz
      cases h
      exact lv_dup hx hb hd (by rw [am_cv_cat hf]; exact am_wide_c (by simpa using hz)) (kk ls hl rfl)
  · cases h
theorem am_W_pop (hf : fz.category = 1) (hx : p.tables.exec = Jvm.exec) (hb : c.code = cc)  (hd : decode cc pc = .ok (.pop, am_ln (.pop))) (h : am_q (.pop) L S = some (L', S')) (hl : am_lv (am_cv B sp fz) ls L) (kk : ∀ ls2 : Array Slot, am_lv (am_cv B sp fz) ls2 L' → L'.length = L.length → W p l e R s m args below meth c H locs cells slots Q (F0 m (pc + am_ln (.pop)) ls2 (S'.map (am_cv B sp fz)))) : W p l e R s m args below meth c H locs cells slots Q (F0 m pc ls (S.map (am_cv B sp fz))) := by
  simp only [am_q] at h
  split at h
  · rename_i v T
    split at h
    · cases h
    · rename_i hz
      cases h
      exact lv_pop hx hb hd (by rw [am_cv_cat hf]; exact am_wide_c (by simpa using hz)) (kk ls hl rfl)
  · cases h
theorem am_W_dup_x1 (hf : fz.category = 1) (hx : p.tables.exec = Jvm.exec) (hb : c.code = cc)  (hd : decode cc pc = .ok (.dup_x1, am_ln (.dup_x1))) (h : am_q (.dup_x1) L S = some (L', S')) (hl : am_lv (am_cv B sp fz) ls L) (kk : ∀ ls2 : Array Slot, am_lv (am_cv B sp fz) ls2 L' → L'.length = L.length → W p l e R s m args below meth c H locs cells slots Q (F0 m (pc + am_ln (.dup_x1)) ls2 (S'.map (am_cv B sp fz)))) : W p l e R s m args below meth c H locs cells slots Q (F0 m pc ls (S.map (am_cv B sp fz))) := by
  simp only [am_q] at h
  split at h
  · rename_i v w T
    split at h
    · cases h
    · rename_i hz
      cases h
      simp only [Bool.or_eq_true, not_or, Bool.not_eq_true] at hz
      exact lv_dup_x1 hx hb hd (by rw [am_cv_cat hf]; exact am_wide_c hz.1) (by rw [am_cv_cat hf]; exact am_wide_c hz.2) (kk ls hl rfl)
  · cases h
theorem am_W_dup2 (hf : fz.category = 1) (hx : p.tables.exec = Jvm.exec) (hb : c.code = cc)  (hd : decode cc pc = .ok (.dup2, am_ln (.dup2))) (h : am_q (.dup2) L S = some (L', S')) (hl : am_lv (am_cv B sp fz) ls L) (kk : ∀ ls2 : Array Slot, am_lv (am_cv B sp fz) ls2 L' → L'.length = L.length → W p l e R s m args below meth c H locs cells slots Q (F0 m (pc + am_ln (.dup2)) ls2 (S'.map (am_cv B sp fz)))) : W p l e R s m args below meth c H locs cells slots Q (F0 m pc ls (S.map (am_cv B sp fz))) := by
  simp only [am_q] at h
  split at h
  · rename_i v w T
    split at h
    · cases h
    · rename_i hz
      cases h
      simp only [Bool.or_eq_true, not_or, Bool.not_eq_true] at hz
      exact lv_dup2_11 hx hb hd (by rw [am_cv_cat hf]; exact am_wide_c hz.1) (by rw [am_cv_cat hf]; exact am_wide_c hz.2) (kk ls hl rfl)
  · cases h
set_option maxHeartbeats 4000000 in
theorem am_W_all (hf : fz.category = 1) (hx : p.tables.exec = Jvm.exec) (hb : c.code = cc) {ins : Instr} (hd : decode cc pc = .ok (ins, am_ln (ins))) (h : am_q (ins) L S = some (L', S')) (hl : am_lv (am_cv B sp fz) ls L) (kk : ∀ ls2 : Array Slot, am_lv (am_cv B sp fz) ls2 L' → L'.length = L.length → W p l e R s m args below meth c H locs cells slots Q (F0 m (pc + am_ln (ins)) ls2 (S'.map (am_cv B sp fz)))) : W p l e R s m args below meth c H locs cells slots Q (F0 m pc ls (S.map (am_cv B sp fz))) := by
  cases ins with
  | iconst _ => exact am_W_iconst hf hx hb hd h hl kk
  | bipush _ => exact am_W_bipush hf hx hb hd h hl kk
  | sipush _ => exact am_W_sipush hf hx hb hd h hl kk
  | lconst _ => exact am_W_lconst hf hx hb hd h hl kk
  | iload _ => exact am_W_iload hf hx hb hd h hl kk
  | lload _ => exact am_W_lload hf hx hb hd h hl kk
  | aload _ => exact am_W_aload hf hx hb hd h hl kk
  | iload_n _ => exact am_W_iload_n hf hx hb hd h hl kk
  | lload_n _ => exact am_W_lload_n hf hx hb hd h hl kk
  | aload_n _ => exact am_W_aload_n hf hx hb hd h hl kk
  | istore _ => exact am_W_istore hf hx hb hd h hl kk
  | istore_n _ => exact am_W_istore_n hf hx hb hd h hl kk
  | astore _ => exact am_W_astore hf hx hb hd h hl kk
  | astore_n _ => exact am_W_astore_n hf hx hb hd h hl kk
  | lstore _ => exact am_W_lstore hf hx hb hd h hl kk
  | lstore_n _ => exact am_W_lstore_n hf hx hb hd h hl kk
  | iadd => exact am_W_iadd hf hx hb hd h hl kk
  | isub => exact am_W_isub hf hx hb hd h hl kk
  | imul => exact am_W_imul hf hx hb hd h hl kk
  | iand => exact am_W_iand hf hx hb hd h hl kk
  | ior => exact am_W_ior hf hx hb hd h hl kk
  | ishl => exact am_W_ishl hf hx hb hd h hl kk
  | ishr => exact am_W_ishr hf hx hb hd h hl kk
  | ladd => exact am_W_ladd hf hx hb hd h hl kk
  | lsub => exact am_W_lsub hf hx hb hd h hl kk
  | lmul => exact am_W_lmul hf hx hb hd h hl kk
  | land => exact am_W_land hf hx hb hd h hl kk
  | lor => exact am_W_lor hf hx hb hd h hl kk
  | iushr => exact am_W_iushr hf hx hb hd h hl kk
  | lshl => exact am_W_lshl hf hx hb hd h hl kk
  | lshr => exact am_W_lshr hf hx hb hd h hl kk
  | idiv => exact am_W_idiv hf hx hb hd h hl kk
  | irem => exact am_W_irem hf hx hb hd h hl kk
  | ldiv => exact am_W_ldiv hf hx hb hd h hl kk
  | ineg => exact am_W_ineg hf hx hb hd h hl kk
  | i2l => exact am_W_i2l hf hx hb hd h hl kk
  | l2i => exact am_W_l2i hf hx hb hd h hl kk
  | i2c => exact am_W_i2c hf hx hb hd h hl kk
  | lcmp => exact am_W_lcmp hf hx hb hd h hl kk
  | dup => exact am_W_dup hf hx hb hd h hl kk
  | pop => exact am_W_pop hf hx hb hd h hl kk
  | dup_x1 => exact am_W_dup_x1 hf hx hb hd h hl kk
  | dup2 => exact am_W_dup2 hf hx hb hd h hl kk
  | iinc _ _ => exact am_W_iinc hf hx hb hd h hl kk
  | _ => cases h
end AMQ
end
section
/-! ===== the world that the cells are; what holds in a method's frame; the machine's judgement SW ===== -/
def am_fv (B : Nat) (sp : Nat → Nat) (M : am_M) (N : am_N) (k : Nat) (t : FieldType) (j : Nat) (r : Option Nat) : Value := match t with
  | .int => .int (M k j)
  | .long => .long (N k j)
  | _ => va_rf (r.map (am_ad B sp))
def am_fs (B : Nat) (sp : Nat → Nat) (M : am_M) (N : am_N) (k ci : Nat) (rs : List (Option Nat)) : List Value := (List.range (am_nf ci)).map fun j => am_fv B sp M N k (am_tf ci j) j (rs.getD j none)
abbrev am_G : Type := ClassId × ClassId × ClassId
def am_ce (G : am_G) (B : Nat) (sp : Nat → Nat) (M : am_M) (N : am_N) (k : Nat) (e : am_E) : va_E := match e with
  | .inl (0, n) => .inl (G.1, n, .inl (M k))
  | .inl (1, n) => .inl (G.2.1, n, .inl (M k))
  | .inl (_, n) => .inl (G.2.2, n, .inr (.inr (.inr (.inr (fun j => some (am_ad B sp (k + 1 + j)))))))
  | .inr (ci, rs) => .inr (ci, am_fs B sp M N k ci rs)
def am_ws (G : am_G) (B : Nat) (sp : Nat → Nat) (sh : List am_E) (M : am_M) (N : am_N) : va_W := sh.mapIdx fun k e => (am_ad B sp k, am_ce G B sp M N k e)
theorem am_ws_get {G : am_G} {B : Nat} {sp : Nat → Nat} {sh : List am_E} {M : am_M} {N : am_N} {k : Nat} {e : am_E} (h : sh[k]? = some e) : (am_ws G B sp sh M N)[k]? = some (am_ad B sp k, am_ce G B sp M N k e) := by
  simp [am_ws, h]
theorem am_ce_eq {G : am_G} {B : Nat} {sp : Nat → Nat} {M M' : am_M} {N N' : am_N} {k : Nat} (h1 : M' k = M k) (h2 : N' k = N k) (e : am_E) : am_ce G B sp M' N' k e = am_ce G B sp M N k e := by
  match e with
  | .inl (0, n) => simp only [am_ce, h1]
  | .inl (1, n) => simp only [am_ce, h1]
  | .inl (t + 2, n) => rfl
  | .inr (ci, rs) => simp only [am_ce, am_fs, am_fv, h1, h2]
theorem am_ws_put {G : am_G} {B : Nat} {sp : Nat → Nat} {sh : List am_E} {M M' : am_M} {N N' : am_N} {k : Nat} {e : am_E} (h : sh[k]? = some e) (hM : ∀ a, a ≠ k → M' a = M a) (hN : ∀ a, a ≠ k → N' a = N a) (e' : am_E) : (am_ws G B sp sh M N).set k (am_ad B sp k, am_ce G B sp M' N' k e') = am_ws G B sp (sh.set k e') M' N' := by
  have hl : k < sh.length := (List.getElem?_eq_some_iff.mp h).1
  apply List.ext_getElem?
  intro j
  by_cases hj : j = k
  · subst hj
    rw [List.getElem?_set_self (by simp [am_ws, hl])]
    exact (am_ws_get (by rw [List.getElem?_set_self hl])).symm
  · rw [List.getElem?_set_ne (fun q => hj q.symm)]
    simp only [am_ws, List.getElem?_mapIdx]
    rw [List.getElem?_set_ne (fun q => hj q.symm)]
    cases sh[j]? with
    | none => rfl
    | some x => simp only [Option.map_some]; rw [am_ce_eq (hM j hj) (hN j hj)]
theorem am_ws_set {G : am_G} {B : Nat} {sp : Nat → Nat} {sh : List am_E} {M M' : am_M} {N N' : am_N} {k : Nat} {e : am_E} (h : sh[k]? = some e) (hM : ∀ a, a ≠ k → M' a = M a) (hN : ∀ a, a ≠ k → N' a = N a) : (am_ws G B sp sh M N).set k (am_ad B sp k, am_ce G B sp M' N' k e) = am_ws G B sp sh M' N' := by
  have h2 : sh.set k e = sh := by
    apply List.ext_getElem?
    intro j
    by_cases hj : j = k
    · subst hj
      rw [List.getElem?_set_self (List.getElem?_eq_some_iff.mp h).1, h]
    · rw [List.getElem?_set_ne (fun q => hj q.symm)]
  have := am_ws_put (G := G) (B := B) (sp := sp) h hM hN e
  rw [h2] at this
  exact this
theorem am_ws_push {G : am_G} {B : Nat} {sp : Nat → Nat} {sh : List am_E} {M M' : am_M} {N N' : am_N} (hM : ∀ a, a ≠ sh.length → M' a = M a) (hN : ∀ a, a ≠ sh.length → N' a = N a) (e : am_E) : am_ws G B sp (sh ++ [e]) M' N' = am_ws G B sp sh M N ++ [(am_ad B sp sh.length, am_ce G B sp M' N' sh.length e)] := by
  apply List.ext_getElem?
  intro j
  have hlen : (am_ws G B sp sh M N).length = sh.length := by simp [am_ws]
  by_cases hj : j < sh.length
  · rw [List.getElem?_append_left (by omega)]
    simp only [am_ws, List.getElem?_mapIdx]
    rw [List.getElem?_append_left hj]
    cases sh[j]? with
    | none => rfl
    | some x => simp only [Option.map_some]; rw [am_ce_eq (hM j (by omega)) (hN j (by omega))]
  · rw [List.getElem?_append_right (by omega), hlen]
    simp only [am_ws, List.getElem?_mapIdx]
    rw [List.getElem?_append_right (by omega)]
    by_cases h0 : j = sh.length
    · subst h0
      simp
    · have : 1 ≤ j - sh.length := by omega
      rw [List.getElem?_eq_none (by simpa using this), List.getElem?_eq_none (by simpa using this)]
      rfl
def am_A (B : Nat) : Nat → Prop := fun q => B ≤ q
def am_sz (sh : List am_E) : Nat := (sh.map fun e => match e with
  | .inl (_, n) => n
  | .inr (ci, _) => am_nf ci).sum
def am_tys (G : am_G) : List (ClassId × FieldType) := [(G.1, .int), (G.2.1, .boolean), (G.2.2, .array .int)]
def am_mom : List Int32 := [2, 2, 16, 16, 4095]
/-- what lies outside: the script, a static row, two statics, the texts, the links between nest mates -/
def am_Xt (B : Nat) (sp : Nat → Nat) (fz : Value) (Lx : Nat) (xs : Nat → Int32) (s : State) (H : Heap) : Prop :=
  fz.category = 1 ∧ (va_X (sp 1000000) Lx xs s H ∧ sp 1000000 < B) ∧ (va_Z "DriftCards" "MOST_OF_MARK" "[I" (.ref (sp 1000001)) (am_A B) s H ∧ va_T .int (sp 1000001) 5 (fun j => .int (am_mom.getD j 0)) (am_A B) s H) ∧
  va_Z "java/lang/String" "COMPACT_STRINGS" "Z" (.int 1) (am_A B) s H ∧ va_Z "jdk/internal/util/Preconditions" "SIOOBE_FORMATTER" "Ljava/util/function/BiFunction;" fz (am_A B) s H ∧
  vk_S 7 am_slen am_sbyt (fun j => sp (1000010 + j)) (fun j => sp (1000100 + j)) (am_A B) s H ∧ (∀ j, j < 7 → vk_R "DriftCards$Prizes" (am_sks.getD j 0) (am_sts.getD j "") (sp (1000010 + j)) s) ∧
  (∃ (comp cA : ClassId) (kA : Class), s.vm.findClass (FieldType.array .int).toString = some comp ∧ s.vm.classes[cA]? = some kA ∧ kA.kind = .array comp (.array .int) ∧ s.vm.findClass ("[" ++ (FieldType.array .int).toString) = some cA) ∧
  ∀ q ∈ am_nlk, va_Nw (.methodLinkNest (am_cn q.1) q.2.1 (am_y q.2.2) "DriftCards") s
theorem am_over_moved {s U : State} (hvm : s.vm.Alike U.vm) (h : ∃ (comp cA : ClassId) (kA : Class), s.vm.findClass (FieldType.array .int).toString = some comp ∧ s.vm.classes[cA]? = some kA ∧ kA.kind = .array comp (.array .int) ∧ s.vm.findClass ("[" ++ (FieldType.array .int).toString) = some cA) : ∃ (comp cA : ClassId) (kA : Class), U.vm.findClass (FieldType.array .int).toString = some comp ∧ U.vm.classes[cA]? = some kA ∧ kA.kind = .array comp (.array .int) ∧ U.vm.findClass ("[" ++ (FieldType.array .int).toString) = some cA := by
  obtain ⟨comp, cA, kA, h1, h2, h3, h4⟩ := h
  obtain ⟨k', hk', he⟩ := hvm.2.2 _ _ h2
  exact ⟨comp, cA, k', by rw [hvm.findClass]; exact h1, hk', by rw [he]; exact h3, by rw [hvm.findClass]; exact h4⟩
theorem am_Xt.pass {B : Nat} {sp : Nat → Nat} {fz : Value} {Lx : Nat} {xs : Nat → Int32} {s U : State} {H : Heap} {locs : List Loc} (h : am_Xt B sp fz Lx xs s s.heap) (hB : B ≤ s.heap.size) (hS : va_S (am_A B) s.heap H locs) (hU : U.heap = H) (hW : s.WarmedH U.vm) : am_Xt B sp fz Lx xs U U.heap := by
  obtain ⟨h0, ⟨h1, h1b⟩, ⟨h2, h3⟩, h4, h5, h6, h7, h8, h9⟩ := h
  have hal := hW.alike
  have hk : ∀ a : Nat, a < s.heap.size → ¬ am_A B a → U.heap[a]? = s.heap[a]? := fun a ha hn => by rw [hU]; exact hS.2.1 a ha hn
  exact ⟨h0, ⟨(h1.moved hal).kept (hk _ (by omega) (by show ¬ B ≤ _; omega)), h1b⟩, ⟨(h2.moved hal).kept hk, (h3.moved hal).kept hk⟩, (h4.moved hal).kept hk, (h5.moved hal).kept hk, (h6.moved hal).kept hk, fun j hj => (h7 j hj).warm hW, am_over_moved hal h8, fun q hq => va_Nw.warmM hW (h9 q hq)⟩
theorem am_Xt.blind {B : Nat} {sp : Nat → Nat} {fz : Value} {Lx : Nat} {xs : Nat → Int32} {s U : State} (h : am_Xt B sp fz Lx xs s s.heap) (hU : U.heap = s.heap) (hv : U.vm = s.vm) : am_Xt B sp fz Lx xs U U.heap := by
  obtain ⟨h0, ⟨h1, h1b⟩, ⟨h2, h3⟩, h4, h5, h6, h7, h8, h9⟩ := h
  have hal : s.vm.Alike U.vm := by rw [hv]; exact Vm.Alike.refl s.vm
  have hk : ∀ a : Nat, a < s.heap.size → ¬ am_A B a → U.heap[a]? = s.heap[a]? := fun a ha hn => by rw [hU]
  exact ⟨h0, ⟨(h1.moved hal).kept (by rw [hU]), h1b⟩, ⟨(h2.moved hal).kept hk, (h3.moved hal).kept hk⟩, (h4.moved hal).kept hk, (h5.moved hal).kept hk, (h6.moved hal).kept hk, fun j hj => (h7 j hj).same hv, am_over_moved hal h8, fun q hq => va_Nw.same rfl hv.symm (h9 q hq)⟩
/-- a method's frame: what does not change in it -/
def am_Cx (D : va_G) (G : am_G) (B : Nat) (sp : Nat → Nat) (fz : Value) (Lx : Nat) (xs : Nat → Int32) (i : Nat) (p : Program) (R : Room) (s : State) (m : MethodId) (args : Array Value) (meth : Method) (c : Code) : Prop :=
  p.tables.exec = Jvm.exec ∧ c.code = am_c i ∧ c.maxLocals = am_mx i ∧ s.vm.findClass (am_cn (am_ow i)) = some m.cls ∧ (∀ w ∈ am_tbl, w.before args s = true) ∧ meth.sig.returnType = am_rt i ∧ meth.locks = false ∧ meth.name = (am_y i).name ∧ va_K D vwCl (am_tys G) s ∧ am_Xt B sp fz Lx xs s s.heap ∧ B ≤ s.heap.size ∧ am_fr i ≤ R.frames ∧ am_lo i ≤ R.locals
def am_St (D : va_G) (G : am_G) (B : Nat) (sp : Nat → Nat) (fz : Value) (shE : List am_E) (i : Nat) (R : Room) (s : State) (H : Heap) (locs : List Loc) (ls : Array Slot) (cells slots : Nat) (L : am_V) (sh : List am_E) (M : am_M) (N : am_N) : Prop :=
  cells + shE.length ≤ R.cells + sh.length ∧ slots + am_sz shE ≤ R.slots + am_sz sh ∧ va_P D vwCl (am_ws G B sp sh M N) H ∧ va_D (am_A B) (am_ws G B sp sh M N) ∧ va_S (am_A B) s.heap H locs ∧ s.heap.size + cells ≤ B + sh.length ∧ am_lv (am_cv B sp fz) ls L ∧ L.length = am_mx i
def am_Qc (D : va_G) (G : am_G) (B : Nat) (sp : Nat → Nat) (fz : Value) (Q : am_Q) (shE : List am_E) : Array Value → State → Outcome → State → Prop := fun _ st oc t =>
  (∃ (r : Option Value) (M : am_M) (N : am_N), oc = .returned (r.map (am_cv B sp fz)) ∧ Q r M N ∧ va_P D vwCl (am_ws G B sp shE M N) t.heap ∧ va_D (am_A B) (am_ws G B sp shE M N)) ∧ va_F (am_A B) st t
/-- the machine, from here on, comes to the method's end with Q, and with the cells' shapes shE -/
def am_SW (l : Launch) (D : va_G) (G : am_G) (B : Nat) (sp : Nat → Nat) (fz : Value) (Lx : Nat) (xs : Nat → Int32) (Q : am_Q) (shE : List am_E) (i pc : Nat) (L S : am_V) (sh : List am_E) (M : am_M) (N : am_N) : Prop :=
  sh.length ≤ shE.length ∧ am_sz sh ≤ am_sz shE ∧
  ∀ (p : Program) (e : Env) (R : Room) (s : State) (m : MethodId) (args : Array Value) (below : List Frame) (meth : Method) (c : Code) (H : Heap) (locs : List Loc) (ls : Array Slot) (cells slots : Nat),
    am_Cx D G B sp fz Lx xs i p R s m args meth c → am_St D G B sp fz shE i R s H locs ls cells slots L sh M N →
    W p l e R s m args below meth c H locs cells slots (MQ below (am_Qc D G B sp fz Q shE) args s R.cells R.slots (am_A B)) (F0 m pc ls (S.map (am_cv B sp fz)))
section AMS
variable {l : Launch} {D : va_G} {G : am_G} {B : Nat} {sp : Nat → Nat} {fz : Value} {Lx : Nat} {xs : Nat → Int32} {Q : am_Q} {shE : List am_E} {i pc : Nat} {L S : am_V} {sh : List am_E} {M : am_M} {N : am_N}
theorem sw_q {ins : Instr} {L' S' : am_V} (hin : am_in i pc = some (ins, am_ln ins)) (h : am_q ins L S = some (L', S')) (k : am_SW l D G B sp fz Lx xs Q shE i (pc + am_ln ins) L' S' sh M N) : am_SW l D G B sp fz Lx xs Q shE i pc L S sh M N := by
  refine ⟨k.1, k.2.1, fun p e R s m args below meth c H locs ls cells slots C St => ?_⟩
  obtain ⟨a1, a2, a3, a4, a5, a6, a7, a8⟩ := St
  exact am_W_all C.2.2.2.2.2.2.2.2.2.1.1 C.1 C.2.1 (am_in_dec hin) h a7 (fun ls2 h2 h3 => k.2.2 p e R s m args below meth c H locs ls2 cells slots C ⟨a1, a2, a3, a4, a5, a6, h2, h3.trans a8⟩)
theorem sw_fg (j : Nat) (k : am_SW l D G B sp fz Lx xs Q shE i pc (L.set j (.retAddr 0)) S sh M N) : am_SW l D G B sp fz Lx xs Q shE i pc L S sh M N := by
  refine ⟨k.1, k.2.1, fun p e R s m args below meth c H locs ls cells slots C St => ?_⟩
  obtain ⟨a1, a2, a3, a4, a5, a6, a7, a8⟩ := St
  exact k.2.2 p e R s m args below meth c H locs ls cells slots C ⟨a1, a2, a3, a4, a5, a6, a7.forget j, by rw [List.length_set]; exact a8⟩
theorem sw_if_eq {x : Int32} {off : Int} (tgt : Nat) (hin : am_in i pc = some (.ifCond .eq off, 3)) (ht : (pc : Int) + off = (tgt : Int)) (kt : x = 0 → am_SW l D G B sp fz Lx xs Q shE i tgt L S sh M N) (kf : ¬ x = 0 → am_SW l D G B sp fz Lx xs Q shE i (pc + 3) L S sh M N) : am_SW l D G B sp fz Lx xs Q shE i pc L (.int x :: S) sh M N := by
  by_cases hc : x = 0
  · refine ⟨(kt hc).1, (kt hc).2.1, fun p e R s m args below meth c H locs ls cells slots C St => ?_⟩
    exact lv_if_eq C.1 C.2.1 (am_in_dec hin) ht (fun _ => (kt hc).2.2 p e R s m args below meth c H locs ls cells slots C St) (fun q => absurd hc (by first | exact q | exact fun z => z q))
  · refine ⟨(kf (by first | exact hc | exact Decidable.not_not.mp hc)).1, (kf (by first | exact hc | exact Decidable.not_not.mp hc)).2.1, fun p e R s m args below meth c H locs ls cells slots C St => ?_⟩
    exact lv_if_eq C.1 C.2.1 (am_in_dec hin) ht (fun q => absurd q hc) (fun q => (kf q).2.2 p e R s m args below meth c H locs ls cells slots C St)
theorem sw_icmp_eq {x y : Int32} {off : Int} (tgt : Nat) (hin : am_in i pc = some (.if_icmp .eq off, 3)) (ht : (pc : Int) + off = (tgt : Int)) (kt : x = y → am_SW l D G B sp fz Lx xs Q shE i tgt L S sh M N) (kf : ¬ x = y → am_SW l D G B sp fz Lx xs Q shE i (pc + 3) L S sh M N) : am_SW l D G B sp fz Lx xs Q shE i pc L (.int y :: .int x :: S) sh M N := by
  by_cases hc : x = y
  · refine ⟨(kt hc).1, (kt hc).2.1, fun p e R s m args below meth c H locs ls cells slots C St => ?_⟩
    exact lv_icmp_eq C.1 C.2.1 (am_in_dec hin) ht (fun _ => (kt hc).2.2 p e R s m args below meth c H locs ls cells slots C St) (fun q => absurd hc (by first | exact q | exact fun z => z q))
  · refine ⟨(kf (by first | exact hc | exact Decidable.not_not.mp hc)).1, (kf (by first | exact hc | exact Decidable.not_not.mp hc)).2.1, fun p e R s m args below meth c H locs ls cells slots C St => ?_⟩
    exact lv_icmp_eq C.1 C.2.1 (am_in_dec hin) ht (fun q => absurd q hc) (fun q => (kf q).2.2 p e R s m args below meth c H locs ls cells slots C St)
theorem sw_if_ne {x : Int32} {off : Int} (tgt : Nat) (hin : am_in i pc = some (.ifCond .ne off, 3)) (ht : (pc : Int) + off = (tgt : Int)) (kt : ¬ x = 0 → am_SW l D G B sp fz Lx xs Q shE i tgt L S sh M N) (kf : x = 0 → am_SW l D G B sp fz Lx xs Q shE i (pc + 3) L S sh M N) : am_SW l D G B sp fz Lx xs Q shE i pc L (.int x :: S) sh M N := by
  by_cases hc : ¬ x = 0
  · refine ⟨(kt hc).1, (kt hc).2.1, fun p e R s m args below meth c H locs ls cells slots C St => ?_⟩
    exact lv_if_ne C.1 C.2.1 (am_in_dec hin) ht (fun _ => (kt hc).2.2 p e R s m args below meth c H locs ls cells slots C St) (fun q => absurd hc (by first | exact q | exact fun z => z q))
  · refine ⟨(kf (by first | exact hc | exact Decidable.not_not.mp hc)).1, (kf (by first | exact hc | exact Decidable.not_not.mp hc)).2.1, fun p e R s m args below meth c H locs ls cells slots C St => ?_⟩
    exact lv_if_ne C.1 C.2.1 (am_in_dec hin) ht (fun q => absurd q hc) (fun q => (kf q).2.2 p e R s m args below meth c H locs ls cells slots C St)
theorem sw_icmp_ne {x y : Int32} {off : Int} (tgt : Nat) (hin : am_in i pc = some (.if_icmp .ne off, 3)) (ht : (pc : Int) + off = (tgt : Int)) (kt : ¬ x = y → am_SW l D G B sp fz Lx xs Q shE i tgt L S sh M N) (kf : x = y → am_SW l D G B sp fz Lx xs Q shE i (pc + 3) L S sh M N) : am_SW l D G B sp fz Lx xs Q shE i pc L (.int y :: .int x :: S) sh M N := by
  by_cases hc : ¬ x = y
  · refine ⟨(kt hc).1, (kt hc).2.1, fun p e R s m args below meth c H locs ls cells slots C St => ?_⟩
    exact lv_icmp_ne C.1 C.2.1 (am_in_dec hin) ht (fun _ => (kt hc).2.2 p e R s m args below meth c H locs ls cells slots C St) (fun q => absurd hc (by first | exact q | exact fun z => z q))
  · refine ⟨(kf (by first | exact hc | exact Decidable.not_not.mp hc)).1, (kf (by first | exact hc | exact Decidable.not_not.mp hc)).2.1, fun p e R s m args below meth c H locs ls cells slots C St => ?_⟩
    exact lv_icmp_ne C.1 C.2.1 (am_in_dec hin) ht (fun q => absurd q hc) (fun q => (kf q).2.2 p e R s m args below meth c H locs ls cells slots C St)
theorem sw_if_lt {x : Int32} {off : Int} (tgt : Nat) (hin : am_in i pc = some (.ifCond .lt off, 3)) (ht : (pc : Int) + off = (tgt : Int)) (kt : x < 0 → am_SW l D G B sp fz Lx xs Q shE i tgt L S sh M N) (kf : ¬ x < 0 → am_SW l D G B sp fz Lx xs Q shE i (pc + 3) L S sh M N) : am_SW l D G B sp fz Lx xs Q shE i pc L (.int x :: S) sh M N := by
  by_cases hc : x < 0
  · refine ⟨(kt hc).1, (kt hc).2.1, fun p e R s m args below meth c H locs ls cells slots C St => ?_⟩
    exact lv_if_lt C.1 C.2.1 (am_in_dec hin) ht (fun _ => (kt hc).2.2 p e R s m args below meth c H locs ls cells slots C St) (fun q => absurd hc (by first | exact q | exact fun z => z q))
  · refine ⟨(kf (by first | exact hc | exact Decidable.not_not.mp hc)).1, (kf (by first | exact hc | exact Decidable.not_not.mp hc)).2.1, fun p e R s m args below meth c H locs ls cells slots C St => ?_⟩
    exact lv_if_lt C.1 C.2.1 (am_in_dec hin) ht (fun q => absurd q hc) (fun q => (kf q).2.2 p e R s m args below meth c H locs ls cells slots C St)
theorem sw_icmp_lt {x y : Int32} {off : Int} (tgt : Nat) (hin : am_in i pc = some (.if_icmp .lt off, 3)) (ht : (pc : Int) + off = (tgt : Int)) (kt : x < y → am_SW l D G B sp fz Lx xs Q shE i tgt L S sh M N) (kf : ¬ x < y → am_SW l D G B sp fz Lx xs Q shE i (pc + 3) L S sh M N) : am_SW l D G B sp fz Lx xs Q shE i pc L (.int y :: .int x :: S) sh M N := by
  by_cases hc : x < y
  · refine ⟨(kt hc).1, (kt hc).2.1, fun p e R s m args below meth c H locs ls cells slots C St => ?_⟩
    exact lv_icmp_lt C.1 C.2.1 (am_in_dec hin) ht (fun _ => (kt hc).2.2 p e R s m args below meth c H locs ls cells slots C St) (fun q => absurd hc (by first | exact q | exact fun z => z q))
  · refine ⟨(kf (by first | exact hc | exact Decidable.not_not.mp hc)).1, (kf (by first | exact hc | exact Decidable.not_not.mp hc)).2.1, fun p e R s m args below meth c H locs ls cells slots C St => ?_⟩
    exact lv_icmp_lt C.1 C.2.1 (am_in_dec hin) ht (fun q => absurd q hc) (fun q => (kf q).2.2 p e R s m args below meth c H locs ls cells slots C St)
theorem sw_if_ge {x : Int32} {off : Int} (tgt : Nat) (hin : am_in i pc = some (.ifCond .ge off, 3)) (ht : (pc : Int) + off = (tgt : Int)) (kt : 0 ≤ x → am_SW l D G B sp fz Lx xs Q shE i tgt L S sh M N) (kf : ¬ 0 ≤ x → am_SW l D G B sp fz Lx xs Q shE i (pc + 3) L S sh M N) : am_SW l D G B sp fz Lx xs Q shE i pc L (.int x :: S) sh M N := by
  by_cases hc : 0 ≤ x
  · refine ⟨(kt hc).1, (kt hc).2.1, fun p e R s m args below meth c H locs ls cells slots C St => ?_⟩
    exact lv_if_ge C.1 C.2.1 (am_in_dec hin) ht (fun _ => (kt hc).2.2 p e R s m args below meth c H locs ls cells slots C St) (fun q => absurd hc (by first | exact q | exact fun z => z q))
  · refine ⟨(kf (by first | exact hc | exact Decidable.not_not.mp hc)).1, (kf (by first | exact hc | exact Decidable.not_not.mp hc)).2.1, fun p e R s m args below meth c H locs ls cells slots C St => ?_⟩
    exact lv_if_ge C.1 C.2.1 (am_in_dec hin) ht (fun q => absurd q hc) (fun q => (kf q).2.2 p e R s m args below meth c H locs ls cells slots C St)
theorem sw_icmp_ge {x y : Int32} {off : Int} (tgt : Nat) (hin : am_in i pc = some (.if_icmp .ge off, 3)) (ht : (pc : Int) + off = (tgt : Int)) (kt : y ≤ x → am_SW l D G B sp fz Lx xs Q shE i tgt L S sh M N) (kf : ¬ y ≤ x → am_SW l D G B sp fz Lx xs Q shE i (pc + 3) L S sh M N) : am_SW l D G B sp fz Lx xs Q shE i pc L (.int y :: .int x :: S) sh M N := by
  by_cases hc : y ≤ x
  · refine ⟨(kt hc).1, (kt hc).2.1, fun p e R s m args below meth c H locs ls cells slots C St => ?_⟩
    exact lv_icmp_ge C.1 C.2.1 (am_in_dec hin) ht (fun _ => (kt hc).2.2 p e R s m args below meth c H locs ls cells slots C St) (fun q => absurd hc (by first | exact q | exact fun z => z q))
  · refine ⟨(kf (by first | exact hc | exact Decidable.not_not.mp hc)).1, (kf (by first | exact hc | exact Decidable.not_not.mp hc)).2.1, fun p e R s m args below meth c H locs ls cells slots C St => ?_⟩
    exact lv_icmp_ge C.1 C.2.1 (am_in_dec hin) ht (fun q => absurd q hc) (fun q => (kf q).2.2 p e R s m args below meth c H locs ls cells slots C St)
theorem sw_if_gt {x : Int32} {off : Int} (tgt : Nat) (hin : am_in i pc = some (.ifCond .gt off, 3)) (ht : (pc : Int) + off = (tgt : Int)) (kt : 0 < x → am_SW l D G B sp fz Lx xs Q shE i tgt L S sh M N) (kf : ¬ 0 < x → am_SW l D G B sp fz Lx xs Q shE i (pc + 3) L S sh M N) : am_SW l D G B sp fz Lx xs Q shE i pc L (.int x :: S) sh M N := by
  by_cases hc : 0 < x
  · refine ⟨(kt hc).1, (kt hc).2.1, fun p e R s m args below meth c H locs ls cells slots C St => ?_⟩
    exact lv_if_gt C.1 C.2.1 (am_in_dec hin) ht (fun _ => (kt hc).2.2 p e R s m args below meth c H locs ls cells slots C St) (fun q => absurd hc (by first | exact q | exact fun z => z q))
  · refine ⟨(kf (by first | exact hc | exact Decidable.not_not.mp hc)).1, (kf (by first | exact hc | exact Decidable.not_not.mp hc)).2.1, fun p e R s m args below meth c H locs ls cells slots C St => ?_⟩
    exact lv_if_gt C.1 C.2.1 (am_in_dec hin) ht (fun q => absurd q hc) (fun q => (kf q).2.2 p e R s m args below meth c H locs ls cells slots C St)
theorem sw_icmp_gt {x y : Int32} {off : Int} (tgt : Nat) (hin : am_in i pc = some (.if_icmp .gt off, 3)) (ht : (pc : Int) + off = (tgt : Int)) (kt : y < x → am_SW l D G B sp fz Lx xs Q shE i tgt L S sh M N) (kf : ¬ y < x → am_SW l D G B sp fz Lx xs Q shE i (pc + 3) L S sh M N) : am_SW l D G B sp fz Lx xs Q shE i pc L (.int y :: .int x :: S) sh M N := by
  by_cases hc : y < x
  · refine ⟨(kt hc).1, (kt hc).2.1, fun p e R s m args below meth c H locs ls cells slots C St => ?_⟩
    exact lv_icmp_gt C.1 C.2.1 (am_in_dec hin) ht (fun _ => (kt hc).2.2 p e R s m args below meth c H locs ls cells slots C St) (fun q => absurd hc (by first | exact q | exact fun z => z q))
  · refine ⟨(kf (by first | exact hc | exact Decidable.not_not.mp hc)).1, (kf (by first | exact hc | exact Decidable.not_not.mp hc)).2.1, fun p e R s m args below meth c H locs ls cells slots C St => ?_⟩
    exact lv_icmp_gt C.1 C.2.1 (am_in_dec hin) ht (fun q => absurd q hc) (fun q => (kf q).2.2 p e R s m args below meth c H locs ls cells slots C St)
theorem sw_if_le {x : Int32} {off : Int} (tgt : Nat) (hin : am_in i pc = some (.ifCond .le off, 3)) (ht : (pc : Int) + off = (tgt : Int)) (kt : x ≤ 0 → am_SW l D G B sp fz Lx xs Q shE i tgt L S sh M N) (kf : ¬ x ≤ 0 → am_SW l D G B sp fz Lx xs Q shE i (pc + 3) L S sh M N) : am_SW l D G B sp fz Lx xs Q shE i pc L (.int x :: S) sh M N := by
  by_cases hc : x ≤ 0
  · refine ⟨(kt hc).1, (kt hc).2.1, fun p e R s m args below meth c H locs ls cells slots C St => ?_⟩
    exact lv_if_le C.1 C.2.1 (am_in_dec hin) ht (fun _ => (kt hc).2.2 p e R s m args below meth c H locs ls cells slots C St) (fun q => absurd hc (by first | exact q | exact fun z => z q))
  · refine ⟨(kf (by first | exact hc | exact Decidable.not_not.mp hc)).1, (kf (by first | exact hc | exact Decidable.not_not.mp hc)).2.1, fun p e R s m args below meth c H locs ls cells slots C St => ?_⟩
    exact lv_if_le C.1 C.2.1 (am_in_dec hin) ht (fun q => absurd q hc) (fun q => (kf q).2.2 p e R s m args below meth c H locs ls cells slots C St)
theorem sw_icmp_le {x y : Int32} {off : Int} (tgt : Nat) (hin : am_in i pc = some (.if_icmp .le off, 3)) (ht : (pc : Int) + off = (tgt : Int)) (kt : x ≤ y → am_SW l D G B sp fz Lx xs Q shE i tgt L S sh M N) (kf : ¬ x ≤ y → am_SW l D G B sp fz Lx xs Q shE i (pc + 3) L S sh M N) : am_SW l D G B sp fz Lx xs Q shE i pc L (.int y :: .int x :: S) sh M N := by
  by_cases hc : x ≤ y
  · refine ⟨(kt hc).1, (kt hc).2.1, fun p e R s m args below meth c H locs ls cells slots C St => ?_⟩
    exact lv_icmp_le C.1 C.2.1 (am_in_dec hin) ht (fun _ => (kt hc).2.2 p e R s m args below meth c H locs ls cells slots C St) (fun q => absurd hc (by first | exact q | exact fun z => z q))
  · refine ⟨(kf (by first | exact hc | exact Decidable.not_not.mp hc)).1, (kf (by first | exact hc | exact Decidable.not_not.mp hc)).2.1, fun p e R s m args below meth c H locs ls cells slots C St => ?_⟩
    exact lv_icmp_le C.1 C.2.1 (am_in_dec hin) ht (fun q => absurd q hc) (fun q => (kf q).2.2 p e R s m args below meth c H locs ls cells slots C St)
theorem sw_goto {off : Int} (tgt : Nat) (hin : am_in i pc = some (.goto off, 3)) (ht : (pc : Int) + off = (tgt : Int)) (k : am_SW l D G B sp fz Lx xs Q shE i tgt L S sh M N) : am_SW l D G B sp fz Lx xs Q shE i pc L S sh M N :=
  ⟨k.1, k.2.1, fun p e R s m args below meth c H locs ls cells slots C St => lv_goto C.1 C.2.1 (am_in_dec hin) ht (k.2.2 p e R s m args below meth c H locs ls cells slots C St)⟩
theorem sw_tsIn {dflt lo hi : Int} {offs : Array Int} {len : Nat} {x : Int32} {off : Int} (tgt : Nat) (hin : am_in i pc = some (.tableswitch dflt lo hi offs, len)) (h1 : ¬ x.toInt < lo) (h2 : ¬ hi < x.toInt) (ho : offs[(x.toInt - lo).toNat]? = some off) (ht : (pc : Int) + off = (tgt : Int)) (k : am_SW l D G B sp fz Lx xs Q shE i tgt L S sh M N) : am_SW l D G B sp fz Lx xs Q shE i pc L (.int x :: S) sh M N :=
  ⟨k.1, k.2.1, fun p e R s m args below meth c H locs ls cells slots C St => lv_tableIn C.1 C.2.1 (am_in_dec hin) h1 h2 ho ht (k.2.2 p e R s m args below meth c H locs ls cells slots C St)⟩
theorem sw_tsOut {dflt lo hi : Int} {offs : Array Int} {len : Nat} {x : Int32} (tgt : Nat) (hin : am_in i pc = some (.tableswitch dflt lo hi offs, len)) (h : x.toInt < lo ∨ hi < x.toInt) (ht : (pc : Int) + dflt = (tgt : Int)) (k : am_SW l D G B sp fz Lx xs Q shE i tgt L S sh M N) : am_SW l D G B sp fz Lx xs Q shE i pc L (.int x :: S) sh M N :=
  ⟨k.1, k.2.1, fun p e R s m args below meth c H locs ls cells slots C St => lv_tableOut C.1 C.2.1 (am_in_dec hin) h ht (k.2.2 p e R s m args below meth c H locs ls cells slots C St)⟩
theorem sw_ls {dflt : Int} {ps : Array (Int × Int)} {len : Nat} {x : Int32} {off : Int} (tgt : Nat) (hin : am_in i pc = some (.lookupswitch dflt ps, len)) (hp : (ps.toList.zip (ps.toList.drop 1)).all (fun (a, next) => a.1 < next.1) = true) (ho : Op.lookupswitch.offset ps.toList dflt x.toInt = off) (ht : (pc : Int) + off = (tgt : Int)) (k : am_SW l D G B sp fz Lx xs Q shE i tgt L S sh M N) : am_SW l D G B sp fz Lx xs Q shE i pc L (.int x :: S) sh M N :=
  ⟨k.1, k.2.1, fun p e R s m args below meth c H locs ls cells slots C St => lv_lookup C.1 C.2.1 (am_in_dec hin) hp ho ht (k.2.2 p e R s m args below meth c H locs ls cells slots C St)⟩
/-! answers -/
theorem sw_ret (hin : am_in i pc = some (.return_, 1)) (hr : am_rt i = none) (hq : Q none M N) : am_SW l D G B sp fz Lx xs Q sh i pc L [] sh M N := by
  refine ⟨Nat.le_refl _, Nat.le_refl _, fun p e R s m args below meth c H locs ls cells slots C St => ?_⟩
  obtain ⟨a1, a2, a3, a4, a5, a6, a7, a8⟩ := St
  refine W.widen (k := R.cells) (n := R.slots) (by omega) (by omega) ?_
  exact W.vret C.1 C.2.1 (C.2.2.2.2.2.1.trans hr) (fun t ht hW => ⟨⟨none, M, N, rfl, hq, by rw [ht]; exact a3, a4⟩, a5.F ht⟩) a5.2.2 (am_in_dec hin) C.2.2.2.2.2.2.1
theorem sw_iret {v : Int32} {ty : FieldType} (hin : am_in i pc = some (.ireturn, 1)) (hr : am_rt i = some ty) (hn : narrow ty (.int v) = .int v) (hq : Q (some (.int v)) M N) : am_SW l D G B sp fz Lx xs Q sh i pc L [.int v] sh M N := by
  refine ⟨Nat.le_refl _, Nat.le_refl _, fun p e R s m args below meth c H locs ls cells slots C St => ?_⟩
  obtain ⟨a1, a2, a3, a4, a5, a6, a7, a8⟩ := St
  refine W.widen (k := R.cells) (n := R.slots) (by omega) (by omega) ?_
  exact W.zret C.1 C.2.1 (C.2.2.2.2.2.1.trans hr) hn (fun t ht hW => ⟨⟨some (.int v), M, N, rfl, hq, by rw [ht]; exact a3, a4⟩, a5.F ht⟩) a5.2.2 (am_in_dec hin) C.2.2.2.2.2.2.1
theorem sw_lret {v : Int64} (hin : am_in i pc = some (.lreturn, 1)) (hr : am_rt i = some .long) (hq : Q (some (.long v)) M N) : am_SW l D G B sp fz Lx xs Q sh i pc L [.long v] sh M N := by
  refine ⟨Nat.le_refl _, Nat.le_refl _, fun p e R s m args below meth c H locs ls cells slots C St => ?_⟩
  obtain ⟨a1, a2, a3, a4, a5, a6, a7, a8⟩ := St
  refine W.widen (k := R.cells) (n := R.slots) (by omega) (by omega) ?_
  exact W.lret C.1 C.2.1 (C.2.2.2.2.2.1.trans hr) (fun t ht hW => ⟨⟨some (.long v), M, N, rfl, hq, by rw [ht]; exact a3, a4⟩, a5.F ht⟩) a5.2.2 (am_in_dec hin) C.2.2.2.2.2.2.1
end AMS
end
section
/-! ===== rules that read and write cells, and make them ===== -/
theorem am_vw : ∀ ci : Nat, ci < 12 → vwCl[ci]? = some (am_cn ci, am_Tf ci, am_nf ci)
  | 0, _ => rfl
  | 1, _ => rfl
  | 2, _ => rfl
  | 3, _ => rfl
  | 4, _ => rfl
  | 5, _ => rfl
  | 6, _ => rfl
  | 7, _ => rfl
  | 8, _ => rfl
  | 9, _ => rfl
  | 10, _ => rfl
  | 11, _ => rfl
  | n + 12, h => absurd h (by omega)
theorem am_lay_good {C : String} {T : u_T} {N : Nat} : ∀ w ∈ u_ws C T N, goodWord w = true := by
  intro w hw
  obtain ⟨k, -, rfl⟩ := List.mem_map.mp hw
  unfold u_lay
  split <;> rfl
theorem am_ly_of {C : String} {T : u_T} {N : Nat} {gs : List Nat} (h : u_ws C T N = am_pick gs lw_tbl) : ∀ w ∈ u_ws C T N, w ∈ am_tbl := fun w hw => am_tbl_in (am_pick_mem gs lw_tbl w (by rw [← h]; exact hw)) (am_lay_good w hw)
theorem am_ly : ∀ ci : Nat, ci < 12 → ∀ w ∈ u_ws (am_cn ci) (am_Tf ci) (am_nf ci), w ∈ am_tbl
  | 0, _ => am_ly_of am_ly0
  | 1, _ => am_ly_of am_ly1
  | 2, _ => am_ly_of am_ly2
  | 3, _ => am_ly_of am_ly3
  | 4, _ => am_ly_of am_ly4
  | 5, _ => am_ly_of am_ly5
  | 6, _ => am_ly_of am_ly6
  | 7, _ => am_ly_of am_ly7
  | 8, _ => am_ly_of am_ly8
  | 9, _ => am_ly_of am_ly9
  | 10, _ => am_ly_of am_ly10
  | 11, _ => am_ly_of am_ly11
  | n + 12, h => absurd h (by omega)
theorem am_tyok : ∀ ci : Nat, ci < 12 → ∀ k, k < am_nf ci → parseFieldDescriptor (am_Tf ci k).2.2.1 = some (am_tf ci k)
  | 0, _ => tyX0_ok
  | 1, _ => tyX1_ok
  | 2, _ => tyX2_ok
  | 3, _ => tyX3_ok
  | 4, _ => tyX4_ok
  | 5, _ => tyX5_ok
  | 6, _ => tyX6_ok
  | 7, _ => tyX7_ok
  | 8, _ => tyX8_ok
  | 9, _ => tyX9_ok
  | 10, _ => tyX10_ok
  | 11, _ => tyX11_ok
  | n + 12, h => absurd h (by omega)
theorem am_nmok : ∀ ci : Nat, ci < 12 → ∀ a, a < am_nf ci → ∀ b, b < am_nf ci → a ≠ b → (am_Tf ci a).2.1 ≠ (am_Tf ci b).2.1
  | 0, _ => nmX0
  | 1, _ => nmX1
  | 2, _ => nmX2
  | 3, _ => nmX3
  | 4, _ => nmX4
  | 5, _ => nmX5
  | 6, _ => nmX6
  | 7, _ => nmX7
  | 8, _ => nmX8
  | 9, _ => nmX9
  | 10, _ => nmX10
  | 11, _ => nmX11
  | n + 12, h => absurd h (by omega)
theorem am_fl_mem {i idx ci j : Nat} (h : am_fl i idx = some (ci, j)) : (idx, ci, j) ∈ am_fls.getD (am_ow i) [] := am_look h
theorem am_getD_mem {α : Type} {l : List (List α)} {o : Nat} {q : α} (h : q ∈ l.getD o []) : ∃ r ∈ l, q ∈ r := by
  by_cases hl : o < l.length
  · refine ⟨l[o], List.getElem_mem hl, ?_⟩
    simpa [List.getD, hl] using h
  · rw [List.getD, List.getElem?_eq_none (by omega)] at h
    cases h
theorem am_fl_b {i idx ci j : Nat} (h : am_fl i idx = some (ci, j)) : j < am_nf ci ∧ ci < 12 := by
  obtain ⟨r, hr, hq⟩ := am_getD_mem (am_fl_mem h)
  have h1 := List.all_eq_true.mp (List.all_eq_true.mp am_kfb r hr) _ hq
  simpa using h1
theorem am_fl_ok {i idx ci j : Nat} (h : am_fl i idx = some (ci, j)) : Cond.fieldLink (am_cn (am_ow i)) idx (am_Tf ci j).1 (am_Tf ci j).2.1 (am_Tf ci j).2.2.1 ∈ am_tbl := am_tbl_in (am_kfs (am_ow i) _ (am_fl_mem h)) rfl
def am_rd (M : am_M) (N : am_N) (k ci j : Nat) (rs : List (Option Nat)) : Option Value := match am_tf ci j with
  | .int => some (.int (M k j))
  | .long => some (.long (N k j))
  | _ => match rs.getD j none with
    | some t => some (.ref t)
    | none => none
theorem am_fs_get {B : Nat} {sp : Nat → Nat} {M : am_M} {N : am_N} {k ci j : Nat} {rs : List (Option Nat)} (h : j < am_nf ci) : (am_fs B sp M N k ci rs)[j]? = some (am_fv B sp M N k (am_tf ci j) j (rs.getD j none)) := by
  unfold am_fs
  rw [List.getElem?_map, List.getElem?_range h]
  rfl
theorem am_rd_fv {B : Nat} {sp : Nat → Nat} {fz : Value} {M : am_M} {N : am_N} {k ci j : Nat} {rs : List (Option Nat)} {v : Value} (h : am_rd M N k ci j rs = some v) : am_fv B sp M N k (am_tf ci j) j (rs.getD j none) = am_cv B sp fz v := by
  unfold am_rd at h
  unfold am_fv
  generalize am_tf ci j = ty at h ⊢
  cases ty
  case int => cases h; rfl
  case long => cases h; rfl
  all_goals
    dsimp only at h ⊢
    split at h
    · rename_i t ht
      cases h
      rw [ht]
      rfl
    · cases h
section AMH
variable {l : Launch} {D : va_G} {G : am_G} {B : Nat} {sp : Nat → Nat} {fz : Value} {Lx : Nat} {xs : Nat → Int32} {Q : am_Q} {shE : List am_E} {i pc : Nat} {L S : am_V} {sh : List am_E} {M : am_M} {N : am_N}
theorem sw_getf {k ci j idx : Nat} {rs : List (Option Nat)} {v : Value} (hin : am_in i pc = some (.getfield idx, 3)) (hf : am_fl i idx = some (ci, j)) (hk : sh[k]? = some (.inr (ci, rs))) (hv : am_rd M N k ci j rs = some v) (kk : am_SW l D G B sp fz Lx xs Q shE i (pc + 3) L (v :: S) sh M N) : am_SW l D G B sp fz Lx xs Q shE i pc L (.ref k :: S) sh M N := by
  refine ⟨kk.1, kk.2.1, fun p e R s m args below meth c H locs ls cells slots C St => ?_⟩
  have St' := St
  obtain ⟨a1, a2, a3, a4, a5, a6, a7, a8⟩ := St
  obtain ⟨hx, hb, hml, hown, hts, hr, hlk, hnm, hK, hX, hB, hfr, hlo⟩ := id C
  obtain ⟨hj, hci⟩ := am_fl_b hf
  exact va_get (D := D) (ci := ci) (v := am_cv B sp fz v) (C := am_cn ci) (T := am_Tf ci) (N := am_nf ci) (ref := (am_Tf ci j).1) hx hb hts (am_ly ci hci) hown hK a3 k (am_ws_get hk) (am_vw ci hci) j hj (hts _ (am_fl_ok hf)) (fun _ h => h) (by rw [am_fs_get hj, am_rd_fv (fz := fz) hv]) (am_in_dec hin) (kk.2.2 p e R s m args below meth c H locs ls cells slots C St')
theorem sw_puti {k ci j idx : Nat} {rs : List (Option Nat)} {x : Int32} (hin : am_in i pc = some (.putfield idx, 3)) (hf : am_fl i idx = some (ci, j)) (hk : sh[k]? = some (.inr (ci, rs))) (ht : am_tf ci j = .int) (hfin : (am_Tf ci j).2.2.2 = false) (kk : am_SW l D G B sp fz Lx xs Q shE i (pc + 3) L S sh (am_up M k j x) N) : am_SW l D G B sp fz Lx xs Q shE i pc L (.int x :: .ref k :: S) sh M N := by
  refine ⟨kk.1, kk.2.1, fun p e R s m args below meth c H locs ls cells slots C St => ?_⟩
  obtain ⟨a1, a2, a3, a4, a5, a6, a7, a8⟩ := St
  obtain ⟨hx, hb, hml, hown, hts, hr, hlk, hnm, hK, hX, hB, hfr, hlo⟩ := id C
  obtain ⟨hj, hci⟩ := am_fl_b hf
  have hfs : (am_fs B sp M N k ci rs).set j (.int x) = am_fs B sp (am_up M k j x) N k ci rs := by
    apply List.ext_getElem?
    intro q
    by_cases hq : q = j
    · subst hq
      rw [List.getElem?_set_self (by simp [am_fs, hj]), am_fs_get hj, ht]
      simp [am_fv, am_up]
    · rw [List.getElem?_set_ne (fun z => hq z.symm)]
      by_cases hl : q < am_nf ci
      · rw [am_fs_get hl, am_fs_get hl]
        simp only [am_fv, am_up, if_true, if_neg hq]
      · rw [List.getElem?_eq_none (by simp [am_fs]; omega), List.getElem?_eq_none (by simp [am_fs]; omega)]
  have he : (am_ws G B sp sh M N).set k (am_ad B sp k, .inr (ci, (am_fs B sp M N k ci rs).set j (.int x))) = am_ws G B sp sh (am_up M k j x) N := by
    rw [hfs]
    exact am_ws_set hk (fun a ha => by funext b; simp [am_up, ha]) (fun _ _ => rfl)
  refine va_put (D := D) (ci := ci) (v := .int x) (ty := .int) (C := am_cn ci) (T := am_Tf ci) (N := am_nf ci) (ref := (am_Tf ci j).1) hx hb hts (am_ly ci hci) (am_tf ci) (am_tyok ci hci) (am_nmok ci hci) hown hK a3 a4 a5 k (am_ws_get hk) (am_vw ci hci) j hj (hts _ (am_fl_ok hf)) (fun _ h => h) hfin (by rw [am_tyok ci hci j hj, ht]) rfl rfl (by simp [am_fs, hj]) (am_in_dec hin) (fun H1 locs1 hP hD hS => ?_)
  rw [he] at hP hD
  exact kk.2.2 p e R s m args below meth c H1 locs1 ls cells slots C ⟨a1, a2, hP, hD, hS, a6, a7, a8⟩
theorem sw_putl {k ci j idx : Nat} {rs : List (Option Nat)} {x : Int64} (hin : am_in i pc = some (.putfield idx, 3)) (hf : am_fl i idx = some (ci, j)) (hk : sh[k]? = some (.inr (ci, rs))) (ht : am_tf ci j = .long) (hfin : (am_Tf ci j).2.2.2 = false) (kk : am_SW l D G B sp fz Lx xs Q shE i (pc + 3) L S sh M (am_upL N k j x)) : am_SW l D G B sp fz Lx xs Q shE i pc L (.long x :: .ref k :: S) sh M N := by
  refine ⟨kk.1, kk.2.1, fun p e R s m args below meth c H locs ls cells slots C St => ?_⟩
  obtain ⟨a1, a2, a3, a4, a5, a6, a7, a8⟩ := St
  obtain ⟨hx, hb, hml, hown, hts, hr, hlk, hnm, hK, hX, hB, hfr, hlo⟩ := id C
  obtain ⟨hj, hci⟩ := am_fl_b hf
  have hfs : (am_fs B sp M N k ci rs).set j (.long x) = am_fs B sp M (am_upL N k j x) k ci rs := by
    apply List.ext_getElem?
    intro q
    by_cases hq : q = j
    · subst hq
      rw [List.getElem?_set_self (by simp [am_fs, hj]), am_fs_get hj, ht]
      simp [am_fv, am_upL]
    · rw [List.getElem?_set_ne (fun z => hq z.symm)]
      by_cases hl : q < am_nf ci
      · rw [am_fs_get hl, am_fs_get hl]
        simp only [am_fv, am_upL, if_true, if_neg hq]
      · rw [List.getElem?_eq_none (by simp [am_fs]; omega), List.getElem?_eq_none (by simp [am_fs]; omega)]
  have he : (am_ws G B sp sh M N).set k (am_ad B sp k, .inr (ci, (am_fs B sp M N k ci rs).set j (.long x))) = am_ws G B sp sh M (am_upL N k j x) := by
    rw [hfs]
    exact am_ws_set hk (fun _ _ => rfl) (fun a ha => by funext b; simp [am_upL, ha])
  refine va_put (D := D) (ci := ci) (v := .long x) (ty := .long) (C := am_cn ci) (T := am_Tf ci) (N := am_nf ci) (ref := (am_Tf ci j).1) hx hb hts (am_ly ci hci) (am_tf ci) (am_tyok ci hci) (am_nmok ci hci) hown hK a3 a4 a5 k (am_ws_get hk) (am_vw ci hci) j hj (hts _ (am_fl_ok hf)) (fun _ h => h) hfin (by rw [am_tyok ci hci j hj, ht]) rfl rfl (by simp [am_fs, hj]) (am_in_dec hin) (fun H1 locs1 hP hD hS => ?_)
  rw [he] at hP hD
  exact kk.2.2 p e R s m args below meth c H1 locs1 ls cells slots C ⟨a1, a2, hP, hD, hS, a6, a7, a8⟩
/-- a reference into a final field, in the constructor of its own class -/
theorem sw_putr {k ci j idx t : Nat} {rs : List (Option Nat)} (hin : am_in i pc = some (.putfield idx, 3)) (hf : am_fl i idx = some (ci, j)) (hk : sh[k]? = some (.inr (ci, rs))) (ht : refKind (am_tf ci j) = true) (hfin : (am_Tf ci j).2.2.2 = true) (hini : (am_y i).name = "<init>") (hdecl : (am_Tf ci j).1 = am_cn (am_ow i)) (hj2 : j < rs.length) (kk : am_SW l D G B sp fz Lx xs Q shE i (pc + 3) L S (sh.set k (.inr (ci, rs.set j (some t)))) M N) : am_SW l D G B sp fz Lx xs Q shE i pc L (.ref t :: .ref k :: S) sh M N := by
  have hz : am_sz (sh.set k (.inr (ci, rs.set j (some t)))) = am_sz sh := by
    unfold am_sz
    congr 1
    apply List.ext_getElem?
    intro q
    rw [List.getElem?_map, List.getElem?_map]
    by_cases hq : q = k
    · subst hq
      rw [List.getElem?_set_self (List.getElem?_eq_some_iff.mp hk).1, hk]
      rfl
    · rw [List.getElem?_set_ne (fun z => hq z.symm)]
  have hzl : (sh.set k (.inr (ci, rs.set j (some t)))).length = sh.length := List.length_set
  refine ⟨by rw [← hzl]; exact kk.1, by rw [← hz]; exact kk.2.1, fun p e R s m args below meth c H locs ls cells slots C St => ?_⟩
  obtain ⟨a1, a2, a3, a4, a5, a6, a7, a8⟩ := St
  obtain ⟨hx, hb, hml, hown, hts, hr, hlk, hnm, hK, hX, hB, hfr, hlo⟩ := id C
  obtain ⟨hj, hci⟩ := am_fl_b hf
  have hfs : (am_fs B sp M N k ci rs).set j (.ref (am_ad B sp t)) = am_fs B sp M N k ci (rs.set j (some t)) := by
    apply List.ext_getElem?
    intro q
    by_cases hq : q = j
    · subst hq
      have hg : (rs.set q (some t)).getD q none = some t := by simp [List.getD, hj2]
      rw [List.getElem?_set_self (by simp [am_fs, hj]), am_fs_get hj, hg]
      cases hty : am_tf ci q <;> rw [hty] at ht <;> first | rfl | cases ht
    · rw [List.getElem?_set_ne (fun z => hq z.symm)]
      by_cases hl : q < am_nf ci
      · have hg : (rs.set j (some t)).getD q none = rs.getD q none := by
          simp only [List.getD]
          rw [List.getElem?_set_ne (fun z => hq z.symm)]
        rw [am_fs_get hl, am_fs_get hl, hg]
      · rw [List.getElem?_eq_none (by simp [am_fs]; omega), List.getElem?_eq_none (by simp [am_fs]; omega)]
  have he : (am_ws G B sp sh M N).set k (am_ad B sp k, .inr (ci, (am_fs B sp M N k ci rs).set j (.ref (am_ad B sp t)))) = am_ws G B sp (sh.set k (.inr (ci, rs.set j (some t)))) M N := by
    rw [hfs]
    exact am_ws_put hk (fun _ _ => rfl) (fun _ _ => rfl) (.inr (ci, rs.set j (some t)))
  refine va_putF (D := D) (ci := ci) (v := .ref (am_ad B sp t)) (ty := am_tf ci j) (C := am_cn ci) (T := am_Tf ci) (N := am_nf ci) (ref := (am_Tf ci j).1) hx hb hts (am_ly ci hci) (am_tf ci) (am_tyok ci hci) (am_nmok ci hci) hown hK a3 a4 a5 k (am_ws_get hk) (am_vw ci hci) j hj (hts _ (am_fl_ok hf)) (fun _ h => h) hfin (hnm.trans hini) hdecl (am_tyok ci hci j hj) (by cases hty : am_tf ci j <;> rw [hty] at ht <;> first | rfl | cases ht) (by cases hty : am_tf ci j <;> rw [hty] at ht <;> first | rfl | cases ht) (by simp [am_fs, hj]) (am_in_dec hin) (fun H1 locs1 hP hD hS => ?_)
  rw [he] at hP hD
  exact kk.2.2 p e R s m args below meth c H1 locs1 ls cells slots C ⟨by rw [hzl]; exact a1, by rw [hz]; exact a2, hP, hD, hS, by rw [hzl]; exact a6, a7, a8⟩
theorem am_up_row (M : am_M) (k j : Nat) (x : Int32) : am_up M k j x k = upd (M k) j x := by
  funext b
  simp [am_up, upd]
theorem sw_iald {k n : Nat} {x : Int32} (hin : am_in i pc = some (.iaload, 1)) (hk : sh[k]? = some (.inl (0, n))) (hi : vp_in x n) (kk : am_SW l D G B sp fz Lx xs Q shE i (pc + 1) L (.int (M k x.toNatClampNeg) :: S) sh M N) : am_SW l D G B sp fz Lx xs Q shE i pc L (.int x :: .ref k :: S) sh M N := by
  refine ⟨kk.1, kk.2.1, fun p e R s m args below meth c H locs ls cells slots C St => ?_⟩
  exact va_iald C.1 C.2.1 C.2.2.2.2.2.2.2.2.1 St.2.2.1 k 0 (am_ws_get hk) rfl hi (am_in_dec hin) (kk.2.2 p e R s m args below meth c H locs ls cells slots C St)
theorem sw_zald {k n : Nat} {x : Int32} (hin : am_in i pc = some (.baload, 1)) (hk : sh[k]? = some (.inl (1, n))) (hi : vp_in x n) (kk : am_SW l D G B sp fz Lx xs Q shE i (pc + 1) L (.int (M k x.toNatClampNeg) :: S) sh M N) : am_SW l D G B sp fz Lx xs Q shE i pc L (.int x :: .ref k :: S) sh M N := by
  refine ⟨kk.1, kk.2.1, fun p e R s m args below meth c H locs ls cells slots C St => ?_⟩
  exact va_zald C.1 C.2.1 C.2.2.2.2.2.2.2.2.1 St.2.2.1 k 1 (am_ws_get hk) rfl hi (am_in_dec hin) (kk.2.2 p e R s m args below meth c H locs ls cells slots C St)
theorem sw_iast {k n : Nat} {x y : Int32} (hin : am_in i pc = some (.iastore, 1)) (hk : sh[k]? = some (.inl (0, n))) (hi : vp_in x n) (kk : am_SW l D G B sp fz Lx xs Q shE i (pc + 1) L S sh (am_up M k x.toNatClampNeg y) N) : am_SW l D G B sp fz Lx xs Q shE i pc L (.int y :: .int x :: .ref k :: S) sh M N := by
  refine ⟨kk.1, kk.2.1, fun p e R s m args below meth c H locs ls cells slots C St => ?_⟩
  obtain ⟨a1, a2, a3, a4, a5, a6, a7, a8⟩ := St
  refine va_iast C.1 C.2.1 C.2.2.2.2.2.2.2.2.1 a3 a4 a5 k 0 (am_ws_get hk) rfl hi (am_in_dec hin) (fun H1 locs1 hP hD hS => ?_)
  have he : (am_ws G B sp sh M N).set k (am_ad B sp k, .inl (G.1, n, .inl (upd (M k) x.toNatClampNeg y))) = am_ws G B sp sh (am_up M k x.toNatClampNeg y) N := by
    rw [← am_up_row]
    exact am_ws_set hk (fun a ha => by funext b; simp [am_up, ha]) (fun _ _ => rfl)
  rw [he] at hP hD
  exact kk.2.2 p e R s m args below meth c H1 locs1 ls cells slots C ⟨a1, a2, hP, hD, hS, a6, a7, a8⟩
theorem sw_zast {k n : Nat} {x y : Int32} (hin : am_in i pc = some (.bastore, 1)) (hk : sh[k]? = some (.inl (1, n))) (hi : vp_in x n) (kk : am_SW l D G B sp fz Lx xs Q shE i (pc + 1) L S sh (am_up M k x.toNatClampNeg (vp_nar .boolean y)) N) : am_SW l D G B sp fz Lx xs Q shE i pc L (.int y :: .int x :: .ref k :: S) sh M N := by
  refine ⟨kk.1, kk.2.1, fun p e R s m args below meth c H locs ls cells slots C St => ?_⟩
  obtain ⟨a1, a2, a3, a4, a5, a6, a7, a8⟩ := St
  refine va_zast C.1 C.2.1 C.2.2.2.2.2.2.2.2.1 a3 a4 a5 k 1 (am_ws_get hk) rfl hi (am_in_dec hin) (fun H1 locs1 hP hD hS => ?_)
  have he : (am_ws G B sp sh M N).set k (am_ad B sp k, .inl (G.2.1, n, .inl (upd (M k) x.toNatClampNeg (vp_nar .boolean y)))) = am_ws G B sp sh (am_up M k x.toNatClampNeg (vp_nar .boolean y)) N := by
    rw [← am_up_row]
    exact am_ws_set hk (fun a ha => by funext b; simp [am_up, ha]) (fun _ _ => rfl)
  rw [he] at hP hD
  exact kk.2.2 p e R s m args below meth c H1 locs1 ls cells slots C ⟨a1, a2, hP, hD, hS, a6, a7, a8⟩
theorem sw_aald {k n : Nat} {x : Int32} (hin : am_in i pc = some (.aaload, 1)) (hk : sh[k]? = some (.inl (2, n))) (hi : vp_in x n) (kk : am_SW l D G B sp fz Lx xs Q shE i (pc + 1) L (.ref (k + 1 + x.toNatClampNeg) :: S) sh M N) : am_SW l D G B sp fz Lx xs Q shE i pc L (.int x :: .ref k :: S) sh M N := by
  refine ⟨kk.1, kk.2.1, fun p e R s m args below meth c H locs ls cells slots C St => ?_⟩
  have hlt : x.toNatClampNeg < n := Nat.not_le.mp fun q => hi (Or.inr q)
  have hc := St.2.2.1 k _ (am_ws_get hk)
  exact W.aald (v := .ref (am_ad B sp (k + 1 + x.toNatClampNeg))) (ty := .array .int) C.1 C.2.1 hc ((C.2.2.2.2.2.2.2.2.1.2 2 _ rfl).1 n (fun j => va_rf (some (am_ad B sp (k + 1 + j))))) rfl (fun q => by cases q) (by show ¬ (x < 0 ∨ (arrV _ _ _).slots.size ≤ _); rw [arrV_size]; exact hi) (by show (arrV _ _ _).slots[_]? = _; rw [arrV_read _ _ hlt]; rfl) rfl rfl (am_in_dec hin) (kk.2.2 p e R s m args below meth c H locs ls cells slots C St)
theorem sw_alen {k t n : Nat} (hin : am_in i pc = some (.arraylength, 1)) (hk : sh[k]? = some (.inl (t, n))) (kk : am_SW l D G B sp fz Lx xs Q shE i (pc + 1) L (.int (Int32.ofNat n) :: S) sh M N) : am_SW l D G B sp fz Lx xs Q shE i pc L (.ref k :: S) sh M N := by
  refine ⟨kk.1, kk.2.1, fun p e R s m args below meth c H locs ls cells slots C St => ?_⟩
  match t, hk with
  | 0, hk => exact va_alen C.1 C.2.1 C.2.2.2.2.2.2.2.2.1 St.2.2.1 k 0 (am_ws_get hk) rfl rfl (am_in_dec hin) (kk.2.2 p e R s m args below meth c H locs ls cells slots C St)
  | 1, hk => exact va_alen C.1 C.2.1 C.2.2.2.2.2.2.2.2.1 St.2.2.1 k 1 (am_ws_get hk) rfl rfl (am_in_dec hin) (kk.2.2 p e R s m args below meth c H locs ls cells slots C St)
  | t + 2, hk => exact va_alen C.1 C.2.1 C.2.2.2.2.2.2.2.2.1 St.2.2.1 k 2 (am_ws_get hk) rfl rfl (am_in_dec hin) (kk.2.2 p e R s m args below meth c H locs ls cells slots C St)
/-- numbers of the pool -/
theorem sw_ldc {idx : Nat} {v : Int32} (hin : am_in i pc = some (.ldc idx, 2)) (hk : am_ki i idx = some v) (kk : am_SW l D G B sp fz Lx xs Q shE i (pc + 2) L (.int v :: S) sh M N) : am_SW l D G B sp fz Lx xs Q shE i pc L S sh M N :=
  ⟨kk.1, kk.2.1, fun p e R s m args below meth c H locs ls cells slots C St => lv_ldc C.1 C.2.1 C.2.2.2.1 (C.2.2.2.2.1 _ (am_tbl_in (am_kcis (am_ow i) (idx, v) (am_look hk)) rfl)) (am_in_dec hin) (kk.2.2 p e R s m args below meth c H locs ls cells slots C St)⟩
theorem sw_ldcw {idx : Nat} {v : Int32} (hin : am_in i pc = some (.ldc_w idx, 3)) (hk : am_ki i idx = some v) (kk : am_SW l D G B sp fz Lx xs Q shE i (pc + 3) L (.int v :: S) sh M N) : am_SW l D G B sp fz Lx xs Q shE i pc L S sh M N :=
  ⟨kk.1, kk.2.1, fun p e R s m args below meth c H locs ls cells slots C St => lv_ldcw C.1 C.2.1 C.2.2.2.1 (C.2.2.2.2.1 _ (am_tbl_in (am_kcis (am_ow i) (idx, v) (am_look hk)) rfl)) (am_in_dec hin) (kk.2.2 p e R s m args below meth c H locs ls cells slots C St)⟩
theorem sw_ldc2 {idx : Nat} {v : Int64} (hin : am_in i pc = some (.ldc2_w idx, 3)) (hk : am_kl i idx = some v) (kk : am_SW l D G B sp fz Lx xs Q shE i (pc + 3) L (.long v :: S) sh M N) : am_SW l D G B sp fz Lx xs Q shE i pc L S sh M N :=
  ⟨kk.1, kk.2.1, fun p e R s m args below meth c H locs ls cells slots C St => lv_ldc2 C.1 C.2.1 C.2.2.2.1 (C.2.2.2.2.1 _ (am_tbl_in (am_kcls (am_ow i) (idx, v) (am_look hk)) rfl)) (am_in_dec hin) (kk.2.2 p e R s m args below meth c H locs ls cells slots C St)⟩
end AMH
end
section
/-! ===== calls ===== -/
def am_wl (j : Nat) : List Cond := Cond.code (am_y j) (am_c j) (am_mx j) (am_rt j) :: am_tbl
set_option maxRecDepth 100000 in
theorem am_ms_len : am_ms.length = 211 := by rfl
theorem am_m_get {j : Nat} (hj : j < 211) : am_ms[j]? = some (am_m j) := by
  have h : j < am_ms.length := by rw [am_ms_len]; exact hj
  unfold am_m
  simp [List.getD, h]
theorem am_code_in {j : Nat} (hj : j < 210) : Cond.code (am_y j) (am_c j) (am_mx j) (am_rt j) ∈ am_tbl := by
  refine am_tbl_in (am_pick_of am_kc (am_m j) (List.mem_of_getElem? (i := j) ?_)) rfl
  rw [List.getElem?_take_of_lt hj]
  exact am_m_get (by omega)
theorem am_own_at {j : Nat} (hj : j < 211) : (am_y j).cls = am_cn (am_ow j) := by
  have h := congrArg (fun l : List String => l[j]?) am_own
  simp only [List.getElem?_map, am_m_get hj, Option.map_some, Option.some.injEq] at h
  exact h
theorem am_par_at {j : Nat} (hj : j < 211) : (parseMethodDescriptor (am_y j).desc).map (fun d => d.parameters.length) = some (am_na j) := by
  have h := congrArg (fun l : List (Option Nat) => l[j]?) am_par
  simp only [List.getElem?_map, am_m_get hj, Option.map_some] at h
  unfold am_na
  cases hq : am_nas[j]? with
  | none => rw [hq] at h; cases h
  | some n =>
    rw [hq] at h
    simp only [Option.map_some, Option.some.injEq] at h
    rw [List.getD, hq]
    exact h
theorem am_pln_at {j : Nat} (hj : j < 211) : plainFor (am_y j) = true := List.all_eq_true.mp am_pln (am_m j) (List.mem_of_getElem? (am_m_get hj))
theorem am_ow_lt {j : Nat} (hj : j < 211) : am_ow j < 19 := by
  have h : (am_ms.all fun q => decide (q.2.2.2.2.1 < 19)) = true := by decide +kernel
  simpa [am_ow] using List.all_eq_true.mp h (am_m j) (List.mem_of_getElem? (am_m_get hj))
theorem am_mh_at {j : Nat} (hj : j < 211) : (am_y j).cls ≠ "java/lang/invoke/MethodHandle" ∧ (am_y j).cls ≠ "java/lang/invoke/VarHandle" := by
  rw [am_own_at hj]
  have h := List.all_eq_true.mp am_cnp (am_ow j) (List.mem_range.mpr (am_ow_lt hj))
  simp only [Bool.and_eq_true, decide_eq_true_eq] at h
  exact h
theorem am_good {j : Nat} (hj : j < 210) : GoodIn am_tbl (am_wl j) := by
  intro w hw
  rcases List.mem_cons.mp hw with rfl | hw
  · exact ⟨am_code_in hj, good_of_word rfl⟩
  · exact ⟨hw, good_of_word (List.mem_filter.mp hw).2⟩
theorem am_cl_lt {i idx j : Nat} {b : Bool} (h : am_cl i idx = some (j, b)) : j < 210 := by
  obtain ⟨r, hr, hq⟩ := am_getD_mem (am_look h)
  simpa using List.all_eq_true.mp (List.all_eq_true.mp am_kbb r hr) _ hq
theorem am_cl_ok {i idx j : Nat} (h : am_cl i idx = some (j, false)) : Cond.methodLink (am_cn (am_ow i)) idx (am_y j) ∈ am_tbl := am_tbl_in (am_kms (am_ow i) (idx, j, false) (List.mem_filter.mpr ⟨am_look h, rfl⟩)) rfl
theorem am_cl_nest {i idx j : Nat} (hi : am_ow i < 19) (h : am_cl i idx = some (j, true)) : (am_ow i, idx, j) ∈ am_nlk := by
  have h1 := List.all_eq_true.mp (List.all_eq_true.mp am_knb (am_ow i) (List.mem_range.mpr hi)) _ (am_look h)
  simpa using h1
theorem am_sta_ok {j : Nat} (h : am_sta.contains j = true) : Cond.static (am_y j) ∈ am_tbl := am_tbl_in (am_pick_of am_sta_k j (by simpa using h)) rfl
theorem am_ins_ok {j : Nat} (h : am_ins.contains j = true) : Cond.instanceMethod (am_y j) ∈ am_tbl := am_tbl_in (am_pick_of am_ins_k j (by simpa using h)) rfl
theorem am_sel_ok {j : Nat} (h : am_sel.contains j = true) : Cond.selects (am_y j).cls (am_y j) (am_y j) ∈ am_tbl := am_tbl_in (am_pick_of am_sel_k j (by simpa using h)) rfl
theorem am_ini_ok {o : Nat} (h : am_ini.contains o = true) : Cond.initialized (am_cn o) ∈ am_tbl := am_tbl_in (am_pick_of am_ini_k o (by simpa using h)) rfl
def am_Pre (D : va_G) (G : am_G) (B : Nat) (sp : Nat → Nat) (fz : Value) (Lx : Nat) (xs : Nat → Int32) (sh : List am_E) (M : am_M) (N : am_N) (U : State) : Prop :=
  va_P D vwCl (am_ws G B sp sh M N) U.heap ∧ va_D (am_A B) (am_ws G B sp sh M N) ∧ U.heap.size ≤ B + sh.length ∧ va_K D vwCl (am_tys G) U ∧ am_Xt B sp fz Lx xs U U.heap ∧ B ≤ U.heap.size
section AMC
variable {l : Launch} {D : va_G} {G : am_G} {B : Nat} {sp : Nat → Nat} {fz : Value} {Lx : Nat} {xs : Nat → Int32} {Q : am_Q} {shE : List am_E} {i pc : Nat} {L S : am_V} {sh : List am_E} {M : am_M} {N : am_N}
theorem am_Pre.blind {Av : List Value} : FrameBlind (va_Pc Av (am_Pre D G B sp fz Lx xs sh M N)) := by
  intro a U g mk hp
  obtain ⟨h0, h1, h2, h3, h4, h5, h6⟩ := hp
  exact ⟨h0, h1, h2, h3, va_K.moved (u := U) (U := U.calling g mk a) (Vm.Alike.refl U.vm) h4, am_Xt.blind (s := U) (U := U.calling g mk a) h5 rfl rfl, h6⟩
theorem am_met {j : Nat} {As : am_V} {Q1 : am_Q} {sh1 : List am_E} (hj : j < 210) (hen : (am_ent As).length ≤ am_mx j) (k : am_SW l D G B sp fz Lx xs Q1 sh1 j 0 (am_en j As) [] sh M N) :
    Met l (am_y j) (am_wl j) { frames := am_fr j, cells := sh1.length - sh.length, slots := am_sz sh1 - am_sz sh, locals := am_lo j } (va_Pc (As.map (am_cv B sp fz)) (am_Pre D G B sp fz Lx xs sh M N)) (am_Qc D G B sp fz Q1 sh1) (sh1.length - sh.length) (am_sz sh1 - am_sz sh) (am_A B) := by
  refine va_MetF (cc := am_c j) (maxL := am_mx j) (ret := am_rt j) (am_pln_at (by omega)) rfl ?_
  intro p e s m args below meth c s₁ Bd hml hv
  obtain ⟨rfl, hP, hD, hsz, hK, hX, hB⟩ := hv
  have hts := atoms_spec (ws := am_wl j) Bd.pre
  have hown : s.vm.findClass (am_cn (am_ow j)) = some m.cls := by
    rw [← am_own_at (j := j) (by omega)]
    exact findClass_of_methodNamed Bd.named
  rw [lg_entry_eq]
  obtain ⟨k1, k2, k3⟩ := k
  refine k3 p e _ s m _ below meth c s.heap [] _ 0 0 ⟨Bd.exec, Bd.bytes, hml, hown, fun w hw => hts w (List.mem_cons_of_mem _ hw), Bd.returns, Bd.notSynchronized, (name_of_methodNamed Bd.named Bd.method).1, hK, hX, hB, Nat.le_refl _, Nat.le_refl _⟩ ⟨?_, ?_, hP, hD, va_S.rf, by omega, am_lv.entry (am_cv_cat hX.1) hen, am_en_len hen⟩
  · show 0 + sh1.length ≤ sh1.length - sh.length + sh.length
    omega
  · show 0 + am_sz sh1 ≤ am_sz sh1 - am_sz sh + am_sz sh
    omega
section AMW
variable {p : Program} {e : Env} {R : Room} {s : State} {m : MethodId} {args : Array Value} {below : List Frame} {meth : Method} {c : Code} {H : Heap} {locs : List Loc} {cells slots mc ms : Nat} {Qm : State → Prop} {ls : Array Slot} {st0 rest : List Value} {g : JFrame}
theorem am_size (k : H.size ≤ s.heap.size + cells → W p l e R s m args below meth c H locs cells slots Qm g) : W p l e R s m args below meth c H locs cells slots Qm g := fun T hT X => k (by rw [← hT]; exact X.same.2.2.1) T hT X
theorem am_callW {Qa : State → Outcome → State → Prop} {free : Addr → Prop} (hr : va_Run p l e R s m args below meth c H locs cells slots mc ms (F0 m pc ls st0) rest Qa free)
    (kk : ∀ (v : Option Value) (st₀ t : State) (L2 : List Loc), st₀.heap = H → Qa st₀ (.returned v) t → s.vm.Alike t.vm → (∀ q ∈ L2, free q.base) → W p l e R s m args below meth c t.heap (locs ++ L2) (cells + mc) (slots + ms) Qm (F0 m (pc + 3) ls (v.toList ++ rest))) : W p l e R s m args below meth c H locs cells slots Qm (F0 m pc ls st0) := by
  intro T hT X
  obtain ⟨v, st₀, t, T', L2, h0, X', hL, e1, e2, hq, st⟩ := hr T hT X
  obtain ⟨t2, a1, b1⟩ := kk v st₀ t L2 h0 hq (by rw [← e2]; exact X'.warmed.alike) hL T' e1 X'
  exact ⟨t2, st t2 a1, b1⟩
end AMW
theorem am_after {Q1 : am_Q} {sh1 : List am_E} {S0 : am_V} {Av : Array Value} (hle : sh.length ≤ sh1.length) (hlz : am_sz sh ≤ am_sz sh1) (k2 : ∀ (r : Option Value) (M1 : am_M) (N1 : am_N), Q1 r M1 N1 → am_SW l D G B sp fz Lx xs Q shE i (pc + 3) L (r.toList ++ S0) sh1 M1 N1)
    {p : Program} {e : Env} {R : Room} {s : State} {m : MethodId} {args : Array Value} {below : List Frame} {meth : Method} {c : Code} {H : Heap} {locs : List Loc} {ls : Array Slot} {cells slots : Nat} {st0 : List Value} (C : am_Cx D G B sp fz Lx xs i p R s m args meth c) (St : am_St D G B sp fz shE i R s H locs ls cells slots L sh M N)
    (hr : va_Run p l e R s m args below meth c H locs cells slots (sh1.length - sh.length) (am_sz sh1 - am_sz sh) (F0 m pc ls st0) (S0.map (am_cv B sp fz)) (am_Qc D G B sp fz Q1 sh1 Av) (am_A B)) :
    W p l e R s m args below meth c H locs cells slots (MQ below (am_Qc D G B sp fz Q shE) args s R.cells R.slots (am_A B)) (F0 m pc ls st0) := by
  obtain ⟨a1, a2, a3, a4, a5, a6, a7, a8⟩ := St
  refine am_callW hr (fun v st₀ t L2 h0 hq hvm hL => ?_)
  obtain ⟨⟨r, M1, N1, hrv, hq1, hP1, hD1⟩, hF⟩ := hq
  cases hrv
  have e9 : (r.map (am_cv B sp fz)).toList ++ S0.map (am_cv B sp fz) = (r.toList ++ S0).map (am_cv B sp fz) := by cases r <;> rfl
  rw [e9]
  have hS1 : va_S (am_A B) s.heap t.heap (locs ++ L2) := by
    refine ⟨Nat.le_trans a5.1 (by rw [← h0]; exact hF.1), fun q h1 h2 => ?_, fun q hq => ?_⟩
    · rw [hF.2 q (by rw [h0]; exact Nat.lt_of_lt_of_le h1 a5.1) h2, h0]
      exact a5.2.1 q h1 h2
    · rcases List.mem_append.mp hq with h | h
      · exact a5.2.2 q h
      · exact hL q h
  exact (k2 r M1 N1 hq1).2.2 p e R s m args below meth c t.heap (locs ++ L2) ls (cells + (sh1.length - sh.length)) (slots + (am_sz sh1 - am_sz sh)) C ⟨by omega, by omega, hP1, hD1, hS1, by omega, a7, a8⟩
theorem am_cat_map (hf : fz.category = 1) (S0 : am_V) : ((S0.map (am_cv B sp fz)).map fun v => v.category).sum = (S0.map fun v => v.category).sum := by
  rw [List.map_map]
  congr 1
  apply List.map_congr_left
  intro v _
  exact am_cv_cat hf v
theorem am_pre_of {p : Program} {R : Room} {s : State} {m : MethodId} {args : Array Value} {meth : Method} {c : Code} {H : Heap} {locs : List Loc} {ls : Array Slot} {cells slots : Nat} {Av : List Value} (C : am_Cx D G B sp fz Lx xs i p R s m args meth c) (St : am_St D G B sp fz shE i R s H locs ls cells slots L sh M N) (hsz : H.size ≤ s.heap.size + cells) : ∀ U : State, U.heap = H → s.WarmedH U.vm → va_Pc Av (am_Pre D G B sp fz Lx xs sh M N) Av.toArray U := by
  intro U hU hW
  obtain ⟨a1, a2, a3, a4, a5, a6, a7, a8⟩ := St
  obtain ⟨hx, hb, hml, hown, hts, hr, hlk, hnm, hK, hX, hB, hfr, hlo⟩ := C
  exact ⟨rfl, by rw [hU]; exact a3, a4, by rw [hU]; omega, va_K.moved hW.alike hK, am_Xt.pass hX hB a5 hU hW, by rw [hU]; exact Nat.le_trans hB a5.1⟩
/-- what the words and the room must be for a call of method j, with arguments As above S0 -/
def am_cok (i j : Nat) (As S0 : am_V) : Prop := As.length = am_na j + (if am_sta.contains j then 0 else 1) ∧ (am_ent As).length ≤ am_mx j ∧ am_fr j + 1 ≤ am_fr i ∧ 8 + (am_mx j + 11) + am_lo j ≤ am_lo i ∧ (S0.map fun v => v.category).sum ≤ 8 ∧ am_ini.contains (am_ow j) = true
theorem sw_callS {j idx : Nat} {As S0 : am_V} {Q1 : am_Q} {sh1 : List am_E} (hin : am_in i pc = some (.invokestatic idx, 3)) (hc : am_cl i idx = some (j, false)) (hst : am_sta.contains j = true) (hS : S = As.reverse ++ S0) (hok : am_cok i j As S0) (hE : sh1.length ≤ shE.length ∧ am_sz sh1 ≤ am_sz shE) (k1 : am_SW l D G B sp fz Lx xs Q1 sh1 j 0 (am_en j As) [] sh M N) (k2 : ∀ (r : Option Value) (M1 : am_M) (N1 : am_N), Q1 r M1 N1 → am_SW l D G B sp fz Lx xs Q shE i (pc + 3) L (r.toList ++ S0) sh1 M1 N1) : am_SW l D G B sp fz Lx xs Q shE i pc L S sh M N := by
  refine ⟨Nat.le_trans k1.1 hE.1, Nat.le_trans k1.2.1 hE.2, fun p e R s m args below meth c H locs ls cells slots C St => am_size fun hsz => ?_⟩
  have hj : j < 210 := am_cl_lt hc
  obtain ⟨o1, o2, o3, o4, o5, o6⟩ := hok
  rw [if_pos hst] at o1
  have hpre := am_pre_of (Av := As.map (am_cv B sp fz)) C St hsz
  have hC := id C
  obtain ⟨hx, hb, hml, hown, hts, hr, hlk, hnm, hK, hX, hB, hfr, hlo⟩ := C
  have a7 := St.2.2.2.2.2.2.1
  have a8 := St.2.2.2.2.2.2.2
  have a1 := St.1
  have a2 := St.2.1
  have hls : c.maxLocals = ls.size := by rw [hml, a7.2.1, a8]
  have hini : (Cond.initialized (am_y j).cls).before args s = true := by rw [am_own_at (j := j) (by omega)]; exact hts _ (am_ini_ok o6)
  refine am_after k1.1 k1.2.1 k2 hC St (va_runS (y := am_y j) (n := am_na j) (As := As.map (am_cv B sp fz)) ⟨hx, hb, hls, hown, hts⟩ (am_met hj o2 k1) ⟨callB_of (am_na j) hts (am_good hj) rfl rfl rfl hini (hts _ (am_cl_ok hc)) ⟨(am_mh_at (by omega)).1, (am_mh_at (by omega)).2, am_par_at (by omega)⟩ ⟨Nat.le_trans o3 hfr, Nat.le_trans o4 hlo⟩, hts _ (am_sta_ok hst)⟩ ⟨am_Pre.blind, hpre⟩ rfl ?_ rfl ?_ (lv_room ?_) (am_in_dec hin) ⟨?_, ?_⟩)
  · rw [List.length_map]; omega
  · show S.map _ = _
    rw [hS, List.map_append, List.map_reverse]
  · rw [am_cat_map hX.1]; exact o5
  · have := k1.1; omega
  · have := k1.2.1; omega
theorem sw_callSN {j idx : Nat} {As S0 : am_V} {Q1 : am_Q} {sh1 : List am_E} (hi : am_ow i < 19) (hin : am_in i pc = some (.invokestatic idx, 3)) (hc : am_cl i idx = some (j, true)) (hst : am_sta.contains j = true) (hS : S = As.reverse ++ S0) (hok : am_cok i j As S0) (hE : sh1.length ≤ shE.length ∧ am_sz sh1 ≤ am_sz shE) (k1 : am_SW l D G B sp fz Lx xs Q1 sh1 j 0 (am_en j As) [] sh M N) (k2 : ∀ (r : Option Value) (M1 : am_M) (N1 : am_N), Q1 r M1 N1 → am_SW l D G B sp fz Lx xs Q shE i (pc + 3) L (r.toList ++ S0) sh1 M1 N1) : am_SW l D G B sp fz Lx xs Q shE i pc L S sh M N := by
  refine ⟨Nat.le_trans k1.1 hE.1, Nat.le_trans k1.2.1 hE.2, fun p e R s m args below meth c H locs ls cells slots C St => am_size fun hsz => ?_⟩
  have hj : j < 210 := am_cl_lt hc
  obtain ⟨o1, o2, o3, o4, o5, o6⟩ := hok
  rw [if_pos hst] at o1
  have hpre := am_pre_of (Av := As.map (am_cv B sp fz)) C St hsz
  have hC := id C
  obtain ⟨hx, hb, hml, hown, hts, hr, hlk, hnm, hK, hX, hB, hfr, hlo⟩ := C
  have a7 := St.2.2.2.2.2.2.1
  have a8 := St.2.2.2.2.2.2.2
  have a1 := St.1
  have a2 := St.2.1
  have hls : c.maxLocals = ls.size := by rw [hml, a7.2.1, a8]
  have hini : (Cond.initialized (am_y j).cls).before args s = true := by rw [am_own_at (j := j) (by omega)]; exact hts _ (am_ini_ok o6)
  have hnl := hX.2.2.2.2.2.2.2.2 _ (am_cl_nest hi hc)
  refine am_after k1.1 k1.2.1 k2 hC St (va_runSN (y := am_y j) (n := am_na j) (host := "DriftCards") (As := As.map (am_cv B sp fz)) ⟨hx, hb, hls, hown, hts⟩ (am_met hj o2 k1) ⟨va_cnB (am_na j) hts (am_good hj) rfl rfl rfl hnl hini ⟨(am_mh_at (by omega)).1, (am_mh_at (by omega)).2, am_par_at (by omega)⟩ ⟨Nat.le_trans o3 hfr, Nat.le_trans o4 hlo⟩, hts _ (am_sta_ok hst), trivial⟩ ⟨am_Pre.blind, hpre⟩ rfl ?_ rfl ?_ (lv_room ?_) (am_in_dec hin) ⟨?_, ?_⟩)
  · rw [List.length_map]; omega
  · show S.map _ = _
    rw [hS, List.map_append, List.map_reverse]
  · rw [am_cat_map hX.1]; exact o5
  · have := k1.1; omega
  · have := k1.2.1; omega
/-- a call on an object of the world -/
theorem sw_callV {j idx b : Nat} {As S0 : am_V} {rs : List (Option Nat)} {Q1 : am_Q} {sh1 : List am_E} (hin : am_in i pc = some (.invokevirtual idx, 3)) (hc : am_cl i idx = some (j, false)) (hst : am_sta.contains j = false) (hin2 : am_ins.contains j = true) (hsel : am_sel.contains j = true) (hS : S = As.reverse ++ .ref b :: S0) (hb0 : sh[b]? = some (.inr (am_ow j, rs))) (how : am_ow j < 12) (hok : am_cok i j (.ref b :: As) S0) (hE : sh1.length ≤ shE.length ∧ am_sz sh1 ≤ am_sz shE) (k1 : am_SW l D G B sp fz Lx xs Q1 sh1 j 0 (am_en j (.ref b :: As)) [] sh M N) (k2 : ∀ (r : Option Value) (M1 : am_M) (N1 : am_N), Q1 r M1 N1 → am_SW l D G B sp fz Lx xs Q shE i (pc + 3) L (r.toList ++ S0) sh1 M1 N1) : am_SW l D G B sp fz Lx xs Q shE i pc L S sh M N := by
  refine ⟨Nat.le_trans k1.1 hE.1, Nat.le_trans k1.2.1 hE.2, fun p e R s m args below meth c H locs ls cells slots C St => am_size fun hsz => ?_⟩
  have hj : j < 210 := am_cl_lt hc
  obtain ⟨o1, o2, o3, o4, o5, o6⟩ := hok
  rw [hst] at o1
  have hpre := am_pre_of (Av := (.ref b :: As : am_V).map (am_cv B sp fz)) C St hsz
  have hC := id C
  obtain ⟨hx, hb, hml, hown, hts, hr, hlk, hnm, hK, hX, hB, hfr, hlo⟩ := C
  have a3 := St.2.2.1
  have a7 := St.2.2.2.2.2.2.1
  have a8 := St.2.2.2.2.2.2.2
  have a1 := St.1
  have a2 := St.2.1
  have hls : c.maxLocals = ls.size := by rw [hml, a7.2.1, a8]
  have hini : (Cond.initialized (am_y j).cls).before args s = true := by rw [am_own_at (j := j) (by omega)]; exact hts _ (am_ini_ok o6)
  have hrec := va_recv hK a3 (am_vw _ how) (am_ws_get (G := G) (B := B) (sp := sp) (M := M) (N := N) hb0)
  refine am_after k1.1 k1.2.1 k2 hC St (va_runV (y := am_y j) (C := (am_y j).cls) (n := am_na j) (b := am_ad B sp b) (As := As.map (am_cv B sp fz)) ⟨hx, hb, hls, hown, hts⟩ (am_met hj o2 k1) ⟨callB_of (am_na j) hts (am_good hj) rfl rfl rfl hini (hts _ (am_cl_ok hc)) ⟨(am_mh_at (by omega)).1, (am_mh_at (by omega)).2, am_par_at (by omega)⟩ ⟨Nat.le_trans o3 hfr, Nat.le_trans o4 hlo⟩, hts _ (am_ins_ok hin2), hts _ (am_sel_ok hsel)⟩ ⟨am_Pre.blind, by rw [am_own_at (j := j) (by omega)]; exact hrec, hpre⟩ rfl ?_ rfl ?_ (lv_room ?_) (am_in_dec hin) ⟨?_, ?_⟩)
  · rw [List.length_map]
    simp only [List.length_cons, Bool.false_eq_true, if_false] at o1
    omega
  · show S.map _ = _
    rw [hS, List.map_append, List.map_reverse]
    rfl
  · rw [am_cat_map hX.1]; exact o5
  · have := k1.1; omega
  · have := k1.2.1; omega
/-- constructors -/
theorem sw_callI {j idx b : Nat} {As S0 : am_V} {Q1 : am_Q} {sh1 : List am_E} (hin : am_in i pc = some (.invokespecial idx, 3)) (hc : am_cl i idx = some (j, false)) (hst : am_sta.contains j = false) (hin2 : am_ins.contains j = true) (hnm0 : (am_y j).name = "<init>") (hrt : am_rt j = none) (hS : S = As.reverse ++ .ref b :: S0) (hok : am_cok i j (.ref b :: As) S0) (hE : sh1.length ≤ shE.length ∧ am_sz sh1 ≤ am_sz shE) (k1 : am_SW l D G B sp fz Lx xs Q1 sh1 j 0 (am_en j (.ref b :: As)) [] sh M N) (k2 : ∀ (r : Option Value) (M1 : am_M) (N1 : am_N), Q1 r M1 N1 → am_SW l D G B sp fz Lx xs Q shE i (pc + 3) L (r.toList ++ S0) sh1 M1 N1) : am_SW l D G B sp fz Lx xs Q shE i pc L S sh M N := by
  refine ⟨Nat.le_trans k1.1 hE.1, Nat.le_trans k1.2.1 hE.2, fun p e R s m args below meth c H locs ls cells slots C St => am_size fun hsz => ?_⟩
  have hj : j < 210 := am_cl_lt hc
  obtain ⟨o1, o2, o3, o4, o5, o6⟩ := hok
  rw [hst] at o1
  have hpre := am_pre_of (Av := (.ref b :: As : am_V).map (am_cv B sp fz)) C St hsz
  have hC := id C
  obtain ⟨hx, hb, hml, hown, hts, hr, hlk, hnm, hK, hX, hB, hfr, hlo⟩ := C
  have a7 := St.2.2.2.2.2.2.1
  have a8 := St.2.2.2.2.2.2.2
  have a1 := St.1
  have a2 := St.2.1
  have hls : c.maxLocals = ls.size := by rw [hml, a7.2.1, a8]
  have hini : (Cond.initialized (am_y j).cls).before args s = true := by rw [am_own_at (j := j) (by omega)]; exact hts _ (am_ini_ok o6)
  have hw : am_wl j = Cond.code (am_y j) (am_c j) (am_mx j) none :: am_tbl := by unfold am_wl; rw [hrt]
  refine am_after k1.1 k1.2.1 k2 hC St (va_runI (y := am_y j) (n := am_na j) (b := am_ad B sp b) (As := As.map (am_cv B sp fz)) ⟨hx, hb, hls, hown, hts⟩ (am_met hj o2 k1) ⟨callB_of (am_na j) hts (am_good hj) hw rfl rfl hini (hts _ (am_cl_ok hc)) ⟨(am_mh_at (by omega)).1, (am_mh_at (by omega)).2, am_par_at (by omega)⟩ ⟨Nat.le_trans o3 hfr, Nat.le_trans o4 hlo⟩, hnm0, hts _ (am_ins_ok hin2)⟩ ⟨am_Pre.blind, hpre⟩ rfl ?_ rfl ?_ (lv_room ?_) (am_in_dec hin) ⟨?_, ?_⟩)
  · rw [List.length_map]
    simp only [List.length_cons, Bool.false_eq_true, if_false] at o1
    omega
  · show S.map _ = _
    rw [hS, List.map_append, List.map_reverse]
    rfl
  · rw [am_cat_map hX.1]; exact o5
  · have := k1.1; omega
  · have := k1.2.1; omega
theorem sw_callIN {j idx b : Nat} {As S0 : am_V} {Q1 : am_Q} {sh1 : List am_E} (hi : am_ow i < 19) (hin : am_in i pc = some (.invokespecial idx, 3)) (hc : am_cl i idx = some (j, true)) (hst : am_sta.contains j = false) (hin2 : am_ins.contains j = true) (hnm0 : (am_y j).name = "<init>") (hrt : am_rt j = none) (hS : S = As.reverse ++ .ref b :: S0) (hok : am_cok i j (.ref b :: As) S0) (hE : sh1.length ≤ shE.length ∧ am_sz sh1 ≤ am_sz shE) (k1 : am_SW l D G B sp fz Lx xs Q1 sh1 j 0 (am_en j (.ref b :: As)) [] sh M N) (k2 : ∀ (r : Option Value) (M1 : am_M) (N1 : am_N), Q1 r M1 N1 → am_SW l D G B sp fz Lx xs Q shE i (pc + 3) L (r.toList ++ S0) sh1 M1 N1) : am_SW l D G B sp fz Lx xs Q shE i pc L S sh M N := by
  refine ⟨Nat.le_trans k1.1 hE.1, Nat.le_trans k1.2.1 hE.2, fun p e R s m args below meth c H locs ls cells slots C St => am_size fun hsz => ?_⟩
  have hj : j < 210 := am_cl_lt hc
  obtain ⟨o1, o2, o3, o4, o5, o6⟩ := hok
  rw [hst] at o1
  have hpre := am_pre_of (Av := (.ref b :: As : am_V).map (am_cv B sp fz)) C St hsz
  have hC := id C
  obtain ⟨hx, hb, hml, hown, hts, hr, hlk, hnm, hK, hX, hB, hfr, hlo⟩ := C
  have a7 := St.2.2.2.2.2.2.1
  have a8 := St.2.2.2.2.2.2.2
  have a1 := St.1
  have a2 := St.2.1
  have hls : c.maxLocals = ls.size := by rw [hml, a7.2.1, a8]
  have hini : (Cond.initialized (am_y j).cls).before args s = true := by rw [am_own_at (j := j) (by omega)]; exact hts _ (am_ini_ok o6)
  have hw : am_wl j = Cond.code (am_y j) (am_c j) (am_mx j) none :: am_tbl := by unfold am_wl; rw [hrt]
  have hnl := hX.2.2.2.2.2.2.2.2 _ (am_cl_nest hi hc)
  refine am_after k1.1 k1.2.1 k2 hC St (va_runIN (y := am_y j) (n := am_na j) (host := "DriftCards") (b := am_ad B sp b) (As := As.map (am_cv B sp fz)) ⟨hx, hb, hls, hown, hts⟩ (am_met hj o2 k1) ⟨va_cnB (am_na j) hts (am_good hj) hw rfl rfl hnl hini ⟨(am_mh_at (by omega)).1, (am_mh_at (by omega)).2, am_par_at (by omega)⟩ ⟨Nat.le_trans o3 hfr, Nat.le_trans o4 hlo⟩, hnm0, hts _ (am_ins_ok hin2)⟩ ⟨am_Pre.blind, hpre⟩ rfl ?_ rfl ?_ (lv_room ?_) (am_in_dec hin) ⟨?_, ?_⟩)
  · rw [List.length_map]
    simp only [List.length_cons, Bool.false_eq_true, if_false] at o1
    omega
  · show S.map _ = _
    rw [hS, List.map_append, List.map_reverse]
    rfl
  · rw [am_cat_map hX.1]; exact o5
  · have := k1.1; omega
  · have := k1.2.1; omega
/-- Object() -/
theorem sw_oi {b idx : Nat} (hin : am_in i pc = some (.invokespecial idx, 3)) (hc : am_oi i idx = true) (hfr1 : 1 ≤ am_fr i) (hlo1 : (S.map fun v => v.category).sum + 12 ≤ am_lo i) (kk : am_SW l D G B sp fz Lx xs Q shE i (pc + 3) L S sh M N) : am_SW l D G B sp fz Lx xs Q shE i pc L (.ref b :: S) sh M N := by
  refine ⟨kk.1, kk.2.1, fun p e R s m args below meth c H locs ls cells slots C St => ?_⟩
  have hC := id C
  obtain ⟨hx, hb, hml, hown, hts, hr, hlk, hnm, hK, hX, hB, hfr, hlo⟩ := C
  have a7 := St.2.2.2.2.2.2.1
  have a8 := St.2.2.2.2.2.2.2
  exact W.objInit hx hb hown (hts _ (am_tbl_in (am_kos (am_ow i) idx (by simpa [am_oi] using hc)) rfl)) (hts _ (am_tbl_in am_s1 rfl)) (hts _ (am_tbl_in am_s2 rfl)) rfl (by show ls.size = _; rw [hml, a7.2.1, a8]) rfl (am_in_dec hin) (Nat.le_trans hfr1 hfr) (by show 2 * 0 + _ + 12 ≤ _; rw [am_cat_map hX.1]; omega) (kk.2.2 p e R s m args below meth c H locs ls cells slots hC St)
end AMC
end
section
/-! ===== what lies outside the world; new cells; copies ===== -/
set_option maxRecDepth 100000 in
set_option maxHeartbeats 4000000 in
theorem am_x1 : Cond.fieldLink (am_cn 10) 101 "DriftCards" "MOST_OF_MARK" "[I" ∈ am_tbl := am_tbl_in (am_pick_1 (gs := [495]) (by rfl)) rfl
set_option maxRecDepth 100000 in
set_option maxHeartbeats 4000000 in
theorem am_x2 : Cond.fieldLink (am_cn 14) 38 "java/lang/String" "COMPACT_STRINGS" "Z" ∈ am_tbl := am_tbl_in (am_pick_1 (gs := [903]) (by rfl)) rfl
set_option maxRecDepth 100000 in
set_option maxHeartbeats 4000000 in
theorem am_x3 : Cond.fieldLink (am_cn 14) 1053 "jdk/internal/util/Preconditions" "SIOOBE_FORMATTER" "Ljava/util/function/BiFunction;" ∈ am_tbl := am_tbl_in (am_pick_1 (gs := [919]) (by rfl)) rfl
set_option maxRecDepth 100000 in
set_option maxHeartbeats 4000000 in
theorem am_x4 : Cond.fieldLink (am_cn 14) 9 "java/lang/String" "value" "[B" ∈ am_tbl := am_tbl_in (am_pick_1 (gs := [1516]) (by rfl)) rfl
set_option maxRecDepth 100000 in
set_option maxHeartbeats 4000000 in
theorem am_x5 : Cond.fieldLink (am_cn 14) 15 "java/lang/String" "coder" "B" ∈ am_tbl := am_tbl_in (am_pick_1 (gs := [1517]) (by rfl)) rfl
theorem am_tfk : ((List.range 12).all fun ci => (List.range (am_nf ci)).all fun j => decide (am_tf ci j = .int) || (decide (am_tf ci j = .long) || refKind (am_tf ci j))) = true := by decide +kernel
theorem am_tfk_at {ci j : Nat} (hci : ci < 12) (hj : j < am_nf ci) : am_tf ci j = .int ∨ am_tf ci j = .long ∨ refKind (am_tf ci j) = true := by
  have h := List.all_eq_true.mp (List.all_eq_true.mp am_tfk ci (List.mem_range.mpr hci)) j (List.mem_range.mpr hj)
  simpa using h
theorem am_ad_sp {B : Nat} {sp : Nat → Nat} {k : Nat} (h : 1000000 ≤ k) : am_ad B sp k = sp k := if_neg (by omega)
theorem am_ad_lo {B : Nat} {sp : Nat → Nat} {k : Nat} (h : k < 1000000) : am_ad B sp k = B + k := if_pos h
section AMX
variable {l : Launch} {D : va_G} {G : am_G} {B : Nat} {sp : Nat → Nat} {fz : Value} {Lx : Nat} {xs : Nat → Int32} {Q : am_Q} {shE : List am_E} {i pc : Nat} {L S : am_V} {sh : List am_E} {M : am_M} {N : am_N}
/-- the script -/
theorem sw_sld {x : Int32} (hin : am_in i pc = some (.iaload, 1)) (hi : vp_in x Lx) (kk : am_SW l D G B sp fz Lx xs Q shE i (pc + 1) L (.int (xs x.toNatClampNeg) :: S) sh M N) : am_SW l D G B sp fz Lx xs Q shE i pc L (.int x :: .ref 1000000 :: S) sh M N := by
  refine ⟨kk.1, kk.2.1, fun p e R s m args below meth c H locs ls cells slots C St => ?_⟩
  have hX := C.2.2.2.2.2.2.2.2.2.1.2.1
  have hB := C.2.2.2.2.2.2.2.2.2.2.1
  have hlt : sp 1000000 < s.heap.size := Nat.lt_of_lt_of_le hX.2 hB
  have hnA : ¬ am_A B (sp 1000000) := Nat.not_le.mpr hX.2
  exact va_sld (A := am_A B) C.1 C.2.1 hX.1 hlt hnA St.2.2.2.2.1 hi (am_in_dec hin) (kk.2.2 p e R s m args below meth c H locs ls cells slots C St)
theorem sw_slen0 (hin : am_in i pc = some (.arraylength, 1)) (kk : am_SW l D G B sp fz Lx xs Q shE i (pc + 1) L (.int (Int32.ofNat Lx) :: S) sh M N) : am_SW l D G B sp fz Lx xs Q shE i pc L (.ref 1000000 :: S) sh M N := by
  refine ⟨kk.1, kk.2.1, fun p e R s m args below meth c H locs ls cells slots C St => ?_⟩
  have hX := C.2.2.2.2.2.2.2.2.2.1.2.1
  have hB := C.2.2.2.2.2.2.2.2.2.2.1
  have hlt : sp 1000000 < s.heap.size := Nat.lt_of_lt_of_le hX.2 hB
  have hnA : ¬ am_A B (sp 1000000) := Nat.not_le.mpr hX.2
  exact va_slen (A := am_A B) C.1 C.2.1 hX.1 hlt hnA St.2.2.2.2.1 (am_in_dec hin) (kk.2.2 p e R s m args below meth c H locs ls cells slots C St)
/-- a static row -/
theorem sw_gsM (ho : am_ow i = 10) (hin : am_in i pc = some (.getstatic 101, 3)) (kk : am_SW l D G B sp fz Lx xs Q shE i (pc + 3) L (.ref 1000001 :: S) sh M N) : am_SW l D G B sp fz Lx xs Q shE i pc L S sh M N := by
  refine ⟨kk.1, kk.2.1, fun p e R s m args below meth c H locs ls cells slots C St => ?_⟩
  have hX := C.2.2.2.2.2.2.2.2.2.1
  have hown := C.2.2.2.1
  rw [ho] at hown
  exact va_gets (A := am_A B) C.1 C.2.1 hX.2.2.1.1 St.2.2.2.2.1 hown (C.2.2.2.2.1 _ am_x1) (fun _ h => h) (am_in_dec hin) (kk.2.2 p e R s m args below meth c H locs ls cells slots C St)
theorem sw_tM {x : Int32} (hin : am_in i pc = some (.iaload, 1)) (hi : vp_in x 5) (kk : am_SW l D G B sp fz Lx xs Q shE i (pc + 1) L (.int (am_mom.getD x.toNatClampNeg 0) :: S) sh M N) : am_SW l D G B sp fz Lx xs Q shE i pc L (.int x :: .ref 1000001 :: S) sh M N := by
  refine ⟨kk.1, kk.2.1, fun p e R s m args below meth c H locs ls cells slots C St => ?_⟩
  have hX := C.2.2.2.2.2.2.2.2.2.1
  exact va_ti (A := am_A B) C.1 C.2.1 hX.2.2.1.2 St.2.2.2.2.1 hi rfl (am_in_dec hin) (kk.2.2 p e R s m args below meth c H locs ls cells slots C St)
/-- texts -/
theorem sw_gsC (ho : am_ow i = 14) (hin : am_in i pc = some (.getstatic 38, 3)) (kk : am_SW l D G B sp fz Lx xs Q shE i (pc + 3) L (.int 1 :: S) sh M N) : am_SW l D G B sp fz Lx xs Q shE i pc L S sh M N := by
  refine ⟨kk.1, kk.2.1, fun p e R s m args below meth c H locs ls cells slots C St => ?_⟩
  have hX := C.2.2.2.2.2.2.2.2.2.1
  have hown := C.2.2.2.1
  rw [ho] at hown
  exact va_gets (A := am_A B) C.1 C.2.1 hX.2.2.2.1 St.2.2.2.2.1 hown (C.2.2.2.2.1 _ am_x2) (fun _ h => h) (am_in_dec hin) (kk.2.2 p e R s m args below meth c H locs ls cells slots C St)
theorem sw_gsF (ho : am_ow i = 14) (hin : am_in i pc = some (.getstatic 1053, 3)) (kk : am_SW l D G B sp fz Lx xs Q shE i (pc + 3) L (.retAddr 7 :: S) sh M N) : am_SW l D G B sp fz Lx xs Q shE i pc L S sh M N := by
  refine ⟨kk.1, kk.2.1, fun p e R s m args below meth c H locs ls cells slots C St => ?_⟩
  have hX := C.2.2.2.2.2.2.2.2.2.1
  have hown := C.2.2.2.1
  rw [ho] at hown
  exact va_gets (A := am_A B) C.1 C.2.1 hX.2.2.2.2.1 St.2.2.2.2.1 hown (C.2.2.2.2.1 _ am_x3) (fun _ h => h) (am_in_dec hin) (kk.2.2 p e R s m args below meth c H locs ls cells slots C St)
theorem sw_ldS {n idx : Nat} (ho : am_ow i = 6) (hn : n < 7) (hx0 : am_sks.getD n 0 = idx) (hin : am_in i pc = some (.ldc idx, 2)) (kk : am_SW l D G B sp fz Lx xs Q shE i (pc + 2) L (.ref (1000010 + n) :: S) sh M N) : am_SW l D G B sp fz Lx xs Q shE i pc L S sh M N := by
  refine ⟨kk.1, kk.2.1, fun p e R s m args below meth c H locs ls cells slots C St => ?_⟩
  have hX := C.2.2.2.2.2.2.2.2.2.1
  have hown := C.2.2.2.1
  rw [ho] at hown
  have hk := kk.2.2 p e R s m args below meth c H locs ls cells slots C St
  rw [List.map_cons, show am_cv B sp fz (.ref (1000010 + n)) = .ref (sp (1000010 + n)) by show Value.ref (am_ad B sp _) = _; rw [am_ad_sp (by omega)]] at hk
  subst hx0
  exact va_ldcS C.1 C.2.1 hown (hX.2.2.2.2.2.2.1 n hn) (am_in_dec hin) hk
theorem sw_sval {n : Nat} (ho : am_ow i = 14) (hn : n < 7) (hin : am_in i pc = some (.getfield 9, 3)) (kk : am_SW l D G B sp fz Lx xs Q shE i (pc + 3) L (.ref (1000100 + n) :: S) sh M N) : am_SW l D G B sp fz Lx xs Q shE i pc L (.ref (1000010 + n) :: S) sh M N := by
  refine ⟨kk.1, kk.2.1, fun p e R s m args below meth c H locs ls cells slots C St => ?_⟩
  have hX := C.2.2.2.2.2.2.2.2.2.1
  have hown := C.2.2.2.1
  rw [ho] at hown
  have hk := kk.2.2 p e R s m args below meth c H locs ls cells slots C St
  rw [List.map_cons, show am_cv B sp fz (.ref (1000100 + n)) = .ref (sp (1000100 + n)) by show Value.ref (am_ad B sp _) = _; rw [am_ad_sp (by omega)]] at hk
  rw [List.map_cons, show am_cv B sp fz (.ref (1000010 + n)) = .ref (sp (1000010 + n)) by show Value.ref (am_ad B sp _) = _; rw [am_ad_sp (by omega)]]
  exact vk_getf C.1 C.2.1 (hX.2.2.2.2.2.1.1 n hn).2.2.1 St.2.2.2.2.1 hown (C.2.2.2.2.1 _ am_x4) (fun _ h => h) (am_in_dec hin) hk
theorem sw_scod {n : Nat} (ho : am_ow i = 14) (hn : n < 7) (hin : am_in i pc = some (.getfield 15, 3)) (kk : am_SW l D G B sp fz Lx xs Q shE i (pc + 3) L (.int 0 :: S) sh M N) : am_SW l D G B sp fz Lx xs Q shE i pc L (.ref (1000010 + n) :: S) sh M N := by
  refine ⟨kk.1, kk.2.1, fun p e R s m args below meth c H locs ls cells slots C St => ?_⟩
  have hX := C.2.2.2.2.2.2.2.2.2.1
  have hown := C.2.2.2.1
  rw [ho] at hown
  have hk := kk.2.2 p e R s m args below meth c H locs ls cells slots C St
  rw [List.map_cons, show am_cv B sp fz (.ref (1000010 + n)) = .ref (sp (1000010 + n)) by show Value.ref (am_ad B sp _) = _; rw [am_ad_sp (by omega)]]
  exact vk_getf C.1 C.2.1 (hX.2.2.2.2.2.1.1 n hn).2.1 St.2.2.2.2.1 hown (C.2.2.2.2.1 _ am_x5) (fun _ h => h) (am_in_dec hin) hk
theorem sw_slen {n : Nat} (hn : n < 7) (hin : am_in i pc = some (.arraylength, 1)) (kk : am_SW l D G B sp fz Lx xs Q shE i (pc + 1) L (.int (Int32.ofNat (am_slen.getD n 0)) :: S) sh M N) : am_SW l D G B sp fz Lx xs Q shE i pc L (.ref (1000100 + n) :: S) sh M N := by
  refine ⟨kk.1, kk.2.1, fun p e R s m args below meth c H locs ls cells slots C St => ?_⟩
  have hX := C.2.2.2.2.2.2.2.2.2.1
  have hk := kk.2.2 p e R s m args below meth c H locs ls cells slots C St
  rw [List.map_cons, show am_cv B sp fz (.ref (1000100 + n)) = .ref (sp (1000100 + n)) by show Value.ref (am_ad B sp _) = _; rw [am_ad_sp (by omega)]]
  exact va_tlen C.1 C.2.1 (hX.2.2.2.2.2.1.1 n hn).2.2.2 St.2.2.2.2.1 rfl (am_in_dec hin) hk
theorem sw_sbld {n : Nat} {x : Int32} (hn : n < 7) (hi : vp_in x (am_slen.getD n 0)) (hin : am_in i pc = some (.baload, 1)) (kk : am_SW l D G B sp fz Lx xs Q shE i (pc + 1) L (.int ((am_sbyt.getD n []).getD x.toNatClampNeg 0) :: S) sh M N) : am_SW l D G B sp fz Lx xs Q shE i pc L (.int x :: .ref (1000100 + n) :: S) sh M N := by
  refine ⟨kk.1, kk.2.1, fun p e R s m args below meth c H locs ls cells slots C St => ?_⟩
  have hX := C.2.2.2.2.2.2.2.2.2.1
  have hk := kk.2.2 p e R s m args below meth c H locs ls cells slots C St
  rw [List.map_cons, List.map_cons, show am_cv B sp fz (.ref (1000100 + n)) = .ref (sp (1000100 + n)) by show Value.ref (am_ad B sp _) = _; rw [am_ad_sp (by omega)]]
  exact va_tb C.1 C.2.1 (hX.2.2.2.2.2.1.1 n hn).2.2.2 St.2.2.2.2.1 hi rfl (am_in_dec hin) hk
/-- a call on a text -/
theorem sw_callT {j idx n : Nat} {As S0 : am_V} {Q1 : am_Q} {sh1 : List am_E} (hin : am_in i pc = some (.invokevirtual idx, 3)) (hc : am_cl i idx = some (j, false)) (hst : am_sta.contains j = false) (hin2 : am_ins.contains j = true) (hsel : am_sel.contains j = true) (hn : n < 7) (hS : S = As.reverse ++ .ref (1000010 + n) :: S0) (how : am_ow j = 14) (hok : am_cok i j (.ref (1000010 + n) :: As) S0) (hE : sh1.length ≤ shE.length ∧ am_sz sh1 ≤ am_sz shE) (k1 : am_SW l D G B sp fz Lx xs Q1 sh1 j 0 (am_en j (.ref (1000010 + n) :: As)) [] sh M N) (k2 : ∀ (r : Option Value) (M1 : am_M) (N1 : am_N), Q1 r M1 N1 → am_SW l D G B sp fz Lx xs Q shE i (pc + 3) L (r.toList ++ S0) sh1 M1 N1) : am_SW l D G B sp fz Lx xs Q shE i pc L S sh M N := by
  refine ⟨Nat.le_trans k1.1 hE.1, Nat.le_trans k1.2.1 hE.2, fun p e R s m args below meth c H locs ls cells slots C St => am_size fun hsz => ?_⟩
  have hj : j < 210 := am_cl_lt hc
  obtain ⟨o1, o2, o3, o4, o5, o6⟩ := hok
  rw [hst] at o1
  have hpre := am_pre_of (Av := (.ref (1000010 + n) :: As : am_V).map (am_cv B sp fz)) C St hsz
  have hC := id C
  obtain ⟨hx, hb, hml, hown, hts, hr, hlk, hnm, hK, hX, hB, hfr, hlo⟩ := C
  have a7 := St.2.2.2.2.2.2.1
  have a8 := St.2.2.2.2.2.2.2
  have a1 := St.1
  have a2 := St.2.1
  have hls : c.maxLocals = ls.size := by rw [hml, a7.2.1, a8]
  have hini : (Cond.initialized (am_y j).cls).before args s = true := by rw [am_own_at (j := j) (by omega)]; exact hts _ (am_ini_ok o6)
  have hrec := vk_recv hX.2.2.2.2.2.1 hn St.2.2.2.2.1
  have hcv : am_cv B sp fz (.ref (1000010 + n)) = .ref (sp (1000010 + n)) := by show Value.ref (am_ad B sp _) = _; rw [am_ad_sp (by omega)]
  rw [List.map_cons, hcv] at hpre
  have hm := am_met hj o2 k1
  rw [List.map_cons, hcv] at hm
  refine am_after k1.1 k1.2.1 k2 hC St (va_runV (y := am_y j) (C := (am_y j).cls) (n := am_na j) (b := sp (1000010 + n)) (As := As.map (am_cv B sp fz)) ⟨hx, hb, hls, hown, hts⟩ hm ⟨callB_of (am_na j) hts (am_good hj) rfl rfl rfl hini (hts _ (am_cl_ok hc)) ⟨(am_mh_at (by omega)).1, (am_mh_at (by omega)).2, am_par_at (by omega)⟩ ⟨Nat.le_trans o3 hfr, Nat.le_trans o4 hlo⟩, hts _ (am_ins_ok hin2), hts _ (am_sel_ok hsel)⟩ ⟨am_Pre.blind, by rw [am_own_at (j := j) (by omega), how]; exact hrec, hpre⟩ rfl ?_ rfl ?_ (lv_room ?_) (am_in_dec hin) ⟨?_, ?_⟩)
  · rw [List.length_map]
    simp only [List.length_cons, Bool.false_eq_true, if_false] at o1
    omega
  · show S.map _ = _
    rw [hS, List.map_append, List.map_reverse, List.map_cons, hcv]
  · rw [am_cat_map hX.1]; exact o5
  · have := k1.1; omega
  · have := k1.2.1; omega
/-- System.arraycopy between rows of ints -/
theorem sw_copy {k0 k1 n0 n1 idx : Nat} {sx dx nx : Int32} (hin : am_in i pc = some (.invokestatic idx, 3)) (hc : am_ac i idx = true) (hk0 : sh[k0]? = some (.inl (0, n0))) (hk1 : sh[k1]? = some (.inl (0, n1))) (h1 : ¬ sx < 0) (h2 : ¬ dx < 0) (h3 : ¬ nx < 0) (h4 : sx.toNatClampNeg + nx.toNatClampNeg ≤ n0) (h5 : dx.toNatClampNeg + nx.toNatClampNeg ≤ n1) (hfr1 : 1 ≤ am_fr i) (hlo1 : (S.map fun v => v.category).sum + 18 ≤ am_lo i) (kk : am_SW l D G B sp fz Lx xs Q shE i (pc + 3) L S sh (am_upR M k1 (va_cpy (M k0) (M k1) sx.toNatClampNeg dx.toNatClampNeg nx.toNatClampNeg)) N) : am_SW l D G B sp fz Lx xs Q shE i pc L (.int nx :: .int dx :: .ref k1 :: .int sx :: .ref k0 :: S) sh M N := by
  refine ⟨kk.1, kk.2.1, fun p e R s m args below meth c H locs ls cells slots C St => ?_⟩
  have hC := id C
  obtain ⟨hx, hb, hml, hown, hts, hr, hlk, hnm, hK, hX, hB, hfr, hlo⟩ := C
  obtain ⟨a1, a2, a3, a4, a5, a6, a7, a8⟩ := St
  refine va_copyi hx hb (by rw [hml, a7.2.1, a8]) hown (hts _ (am_tbl_in (am_kas (am_ow i) idx (by simpa [am_ac] using hc)) rfl)) (hts _ (am_tbl_in am_s3 rfl)) (hts _ (am_tbl_in am_s4 rfl)) (hts _ (am_tbl_in am_s5 rfl)) hK a3 a4 a5 k0 k1 0 0 (am_ws_get hk0) (am_ws_get hk1) rfl rfl rfl h1 h2 h3 h4 h5 (fun _ _ => rfl) (Nat.le_trans hfr1 hfr) (by rw [am_cat_map hX.1]; show _ + (7 + 11) ≤ _; omega) (am_in_dec hin) (fun H1 locs1 hP hD hS => ?_)
  have he : (am_ws G B sp sh M N).set k1 (am_ad B sp k1, .inl (G.1, n1, .inl (va_cpy (M k0) (M k1) sx.toNatClampNeg dx.toNatClampNeg nx.toNatClampNeg))) = am_ws G B sp sh (am_upR M k1 (va_cpy (M k0) (M k1) sx.toNatClampNeg dx.toNatClampNeg nx.toNatClampNeg)) N := by
    have h9 := am_ws_set (G := G) (B := B) (sp := sp) (M := M) (N := N) (N' := N) (M' := am_upR M k1 (va_cpy (M k0) (M k1) sx.toNatClampNeg dx.toNatClampNeg nx.toNatClampNeg)) hk1 (fun a ha => by simp [am_upR, ha]) (fun _ _ => rfl)
    rw [← h9]
    simp only [am_ce, am_upR, if_true]
  rw [he] at hP hD
  exact kk.2.2 p e R s m args below meth c H1 locs1 ls cells slots hC ⟨a1, a2, hP, hD, hS, a6, a7, a8⟩
/-! new cells -/
theorem am_hsz {H : Heap} (hP : va_P D vwCl (am_ws G B sp sh M N) H) (hl : sh.length < 1000000) (hB : B ≤ H.size) : B + sh.length ≤ H.size := by
  by_cases h0 : sh.length = 0
  · omega
  · have hk : sh.length - 1 < sh.length := by omega
    have h1 := (hP (sh.length - 1) _ (am_ws_get (List.getElem?_eq_getElem hk))).lt
    have h2 : am_ad B sp (sh.length - 1) = B + (sh.length - 1) := am_ad_lo (by omega)
    have h3 : am_ad B sp (sh.length - 1) < H.size := h1
    omega
theorem am_sz_push (sh : List am_E) (e : am_E) : am_sz (sh ++ [e]) = am_sz sh + am_sz [e] := by
  simp [am_sz]
theorem am_pushed {H H1 : Heap} {e9 : am_E} {M' : am_M} {N' : am_N} (hM : ∀ a, a ≠ sh.length → M' a = M a) (hN : ∀ a, a ≠ sh.length → N' a = N a) (hP : va_P D vwCl (am_ws G B sp sh M N) H) (hD : va_D (am_A B) (am_ws G B sp sh M N)) (hl : sh.length < 1000000) (hz : H.size = B + sh.length) (ho : ∀ q, q < H.size → H1[q]? = H[q]?) (hat : va_at D vwCl (am_ad B sp sh.length, am_ce G B sp M' N' sh.length e9) H1) : va_P D vwCl (am_ws G B sp (sh ++ [e9]) M' N') H1 ∧ va_D (am_A B) (am_ws G B sp (sh ++ [e9]) M' N') := by
  have had : am_ad B sp sh.length = H.size := by rw [am_ad_lo hl, hz]
  rw [am_ws_push hM hN]
  refine ⟨(hP.kept (fun k x hx => ho x.1 ((hP k x hx).lt))).app (fun k x hx => ?_), ?_⟩
  · have h0 : k < 1 := (List.getElem?_eq_some_iff.mp hx).1
    rw [show k = 0 by omega] at hx
    cases hx
    exact hat
  · exact hD.push hP had (by show B ≤ _; omega)
theorem sw_newa {t n : Nat} {at9 : ArrayType} {x : Int32} (hin : am_in i pc = some (.newarray at9, 2)) (hat : (at9 = .int ∧ t = 0) ∨ (at9 = .boolean ∧ t = 1)) (hx0 : ¬ x < 0) (hxn : x.toNatClampNeg = n) (hn : n ≤ 100000) (hl : sh.length < 1000000) (kk : am_SW l D G B sp fz Lx xs Q shE i (pc + 2) L (.ref sh.length :: S) (sh ++ [.inl (t, n)]) (am_upR M sh.length (fun _ => 0)) N) : am_SW l D G B sp fz Lx xs Q shE i pc L (.int x :: S) sh M N := by
  have k1 := kk.1
  have k2 := kk.2.1
  rw [am_sz_push] at k2
  have hs1 : am_sz [.inl (t, n)] = n := by simp [am_sz]
  rw [hs1] at k2
  rw [List.length_append, List.length_singleton] at k1
  refine ⟨by omega, by omega, fun p e R s m args below meth c H locs ls cells slots C St => am_size fun hsz => ?_⟩
  have hC := id C
  obtain ⟨hx, hb, hml, hown, hts, hr, hlk, hnm, hK, hX, hB, hfr, hlo⟩ := C
  obtain ⟨a1, a2, a3, a4, a5, a6, a7, a8⟩ := St
  have hBH : B ≤ H.size := Nat.le_trans hB a5.1
  have hge := am_hsz a3 hl hBH
  have hHs : H.size = B + sh.length := by omega
  have had : am_ad B sp sh.length = H.size := by rw [am_ad_lo hl, hHs]
  have goal : ∀ (H1 : Heap) (cA : ClassId), H1[H.size]? = some (arrV cA n (fun _ => .int 0)) → H1.size = H.size + 1 → (∀ q, q < H.size → H1[q]? = H[q]?) → (cA = if t = 0 then G.1 else G.2.1) → W p l e R s m args below meth c H1 locs (cells + 1) (slots + n) (MQ below (am_Qc D G B sp fz Q shE) args s R.cells R.slots (am_A B)) (F0 m (pc + 2) ls (.ref H.size :: S.map (am_cv B sp fz))) := by
    intro H1 cA e1 z1 o1 hcA
    have hat1 : va_at D vwCl (am_ad B sp sh.length, am_ce G B sp (am_upR M sh.length (fun _ => 0)) N sh.length (.inl (t, n))) H1 := by
      rcases hat with ⟨-, rfl⟩ | ⟨-, rfl⟩
      · show H1[am_ad B sp sh.length]? = some (vp_cell G.1 (n, .inl (am_upR M sh.length (fun _ => 0) sh.length)))
        rw [had, e1, hcA, vp_cell_i]
        simp [am_upR]
      · show H1[am_ad B sp sh.length]? = some (vp_cell G.2.1 (n, .inl (am_upR M sh.length (fun _ => 0) sh.length)))
        rw [had, e1, hcA, vp_cell_i]
        simp [am_upR]
    obtain ⟨hP1, hD1⟩ := am_pushed (N' := N) (fun a ha => by simp [am_upR, ha]) (fun _ _ => rfl) a3 a4 hl hHs o1 hat1
    have hS1 : va_S (am_A B) s.heap H1 locs := ⟨Nat.le_trans a5.1 (by omega), fun q h1 h2 => (o1 q (Nat.lt_of_lt_of_le h1 a5.1)).trans (a5.2.1 q h1 h2), a5.2.2⟩
    have hk := kk.2.2 p e R s m args below meth c H1 locs ls (cells + 1) (slots + n) hC ⟨by rw [List.length_append, List.length_singleton]; omega, by rw [am_sz_push, hs1]; omega, hP1, hD1, hS1, by rw [List.length_append, List.length_singleton]; omega, a7, a8⟩
    rw [List.map_cons, show am_cv B sp fz (.ref sh.length) = .ref H.size by show Value.ref (am_ad B sp _) = _; rw [had]] at hk
    exact hk
  rcases hat with ⟨rfl, rfl⟩ | ⟨rfl, rfl⟩
  · refine va_newaK (atype := .int) hx hb (hts _ (am_tbl_in am_s6 rfl)) rfl (am_in_dec hin) rfl hx0 hxn (by show n * 4 ≤ _; omega) (by omega) (by omega) rfl fun H1 cA e1 z1 o1 hAr hNm => ?_
    have hc9 : cA = G.1 := Option.some.inj (hNm.symm.trans (hK.2 0 _ rfl).2)
    exact goal H1 cA e1 z1 o1 hc9
  · refine va_newaK (atype := .boolean) hx hb (hts _ (am_tbl_in am_s7 rfl)) rfl (am_in_dec hin) rfl hx0 hxn (by show n * 1 ≤ _; omega) (by omega) (by omega) rfl fun H1 cA e1 z1 o1 hAr hNm => ?_
    have hc9 : cA = G.2.1 := Option.some.inj (hNm.symm.trans (hK.2 1 _ rfl).2)
    exact goal H1 cA e1 z1 o1 hc9
/-- a new object: its numbers are 0, its references null -/
theorem sw_new {idx ci : Nat} (hin : am_in i pc = some (.new idx, 3)) (hc : am_nw i idx = some ci) (hci : ci < 12) (hq1 : am_inq.contains ci = true) (hq2 : am_ini.contains ci = true) (hl : sh.length < 1000000) (kk : am_SW l D G B sp fz Lx xs Q shE i (pc + 3) L (.ref sh.length :: S) (sh ++ [.inr (ci, List.replicate (am_nf ci) none)]) (am_upR M sh.length (fun _ => 0)) (fun a => if a = sh.length then fun _ => 0 else N a)) : am_SW l D G B sp fz Lx xs Q shE i pc L S sh M N := by
  have k1 := kk.1
  have k2 := kk.2.1
  rw [am_sz_push] at k2
  have hs1 : am_sz [.inr (ci, List.replicate (am_nf ci) none)] = am_nf ci := by simp [am_sz]
  rw [hs1] at k2
  rw [List.length_append, List.length_singleton] at k1
  refine ⟨by omega, by omega, fun p e R s m args below meth c H locs ls cells slots C St => am_size fun hsz => ?_⟩
  have hC := id C
  obtain ⟨hx, hb, hml, hown, hts, hr, hlk, hnm, hK, hX, hB, hfr, hlo⟩ := C
  obtain ⟨a1, a2, a3, a4, a5, a6, a7, a8⟩ := St
  have hBH : B ≤ H.size := Nat.le_trans hB a5.1
  have hge := am_hsz a3 hl hBH
  have hHs : H.size = B + sh.length := by omega
  have had : am_ad B sp sh.length = H.size := by rw [am_ad_lo hl, hHs]
  have hKn := hK.1 ci _ (am_vw ci hci)
  refine W.newcK hx hb hown (hts _ (am_tbl_in (am_kws (am_ow i) (idx, ci) (am_look hc)) rfl)) (hts _ (am_tbl_in (am_pick_of am_inq_k ci (by simpa using hq1)) rfl)) (hts _ (am_ini_ok hq2)) rfl (am_in_dec hin) (by omega) (by omega) hKn.2.1 rfl fun H1 kC hkC e1 z1 o1 => ?_
  have hat1 : va_at D vwCl (am_ad B sp sh.length, am_ce G B sp (am_upR M sh.length (fun _ => 0)) (fun a => if a = sh.length then fun _ => 0 else N a) sh.length (.inr (ci, List.replicate (am_nf ci) none))) H1 := by
    refine ⟨_, am_vw ci hci, ?_⟩
    rw [had]
    refine (u_born (am_tf ci) hts (am_ly ci hci) hKn hkC e1 (am_tyok ci hci)).to (fun j hj => ?_)
    show _ = vp_V (am_fs _ _ _ _ _ _ _) j
    have hj : j < am_nf ci := hj
    unfold vp_V
    rw [List.getD, am_fs_get hj]
    have hg : (List.replicate (am_nf ci) (none : Option Nat)).getD j none = none := by simp [List.getD, List.getElem?_replicate, hj]
    rw [hg]
    simp only [Option.getD_some, am_fv, am_upR, if_true]
    have hty := am_tfk_at hci hj
    generalize am_tf ci j = ty at hty
    cases ty <;> first | rfl | (rcases hty with h | h | h <;> cases h)
  obtain ⟨hP1, hD1⟩ := am_pushed (fun a ha => by simp [am_upR, ha]) (fun a ha => by simp [ha]) a3 a4 hl hHs o1 hat1
  have hS1 : va_S (am_A B) s.heap H1 locs := ⟨Nat.le_trans a5.1 (by omega), fun q h1 h2 => (o1 q (Nat.lt_of_lt_of_le h1 a5.1)).trans (a5.2.1 q h1 h2), a5.2.2⟩
  have hk := kk.2.2 p e R s m args below meth c H1 locs ls (cells + 1) (slots + am_nf ci) hC ⟨by rw [List.length_append, List.length_singleton]; omega, by rw [am_sz_push, hs1]; omega, hP1, hD1, hS1, by rw [List.length_append, List.length_singleton]; omega, a7, a8⟩
  rw [List.map_cons, show am_cv B sp fz (.ref sh.length) = .ref H.size by show Value.ref (am_ad B sp _) = _; rw [had]] at hk
  exact hk
end AMX
end
section
/-! ===== new int[n][k]: the outer row and n inner ones, one behind another ===== -/
def mg_out (cA : ClassId) (n h i : Nat) : Cell := arrV cA n (fun j => if j < i then .ref (h + 1 + j) else .null)
def mg_row (cI : ClassId) (k : Nat) : Cell := arrV cI k (fun _ => .int 0)
theorem mg_next (cA : ClassId) (n h i : Nat) : (mg_out cA n h i).setSlot i (.ref (h + 1 + i)) = mg_out cA n h (i + 1) := by
  unfold mg_out
  rw [arrV_store]
  refine congrArg (arrV cA n) (funext fun j => ?_)
  by_cases e : j = i
  · subst e
    simp [updV]
  · by_cases hj : j < i
    · simp [updV, e, hj, Nat.lt_succ_of_lt hj]
    · simp [updV, e, hj, show ¬ j < i + 1 by omega]
/-- the state behind i inner rows -/
def mg_st (T : State) (cA cI : ClassId) (n k : Nat) : Nat → State
  | 0 => T.pushCell (mg_out cA n T.heap.size 0)
  | i + 1 => ((mg_st T cA cI n k i).pushCell (mg_row cI k)).setCell T.heap.size (mg_out cA n T.heap.size (i + 1))
theorem mg_out_size (cA : ClassId) (n h i : Nat) : (mg_out cA n h i).slots.size = n := arrV_size _ _ _
theorem mg_row_size (cI : ClassId) (k : Nat) : (mg_row cI k).slots.size = k := arrV_size _ _ _
theorem mg_facts (T : State) (cA cI : ClassId) (n k : Nat) : ∀ i, (mg_st T cA cI n k i).heap.size = T.heap.size + 1 + i ∧ (mg_st T cA cI n k i).heap[T.heap.size]? = some (mg_out cA n T.heap.size i) ∧ (mg_st T cA cI n k i).vm = T.vm ∧ (mg_st T cA cI n k i).slotsUsed = T.slotsUsed + n + i * k
  | 0 => ⟨by simp [mg_st], by simp [mg_st], rfl, by simp [mg_st, mg_out_size]⟩
  | i + 1 => by
    obtain ⟨a, b, d, u⟩ := mg_facts T cA cI n k i
    have hlt : T.heap.size < (mg_st T cA cI n k i).heap.size := by omega
    have hb' : ((mg_st T cA cI n k i).pushCell (mg_row cI k)).heap[T.heap.size]? = some (mg_out cA n T.heap.size i) := by rw [State.heap_pushCell_of_lt (h := hlt)]; exact b
    refine ⟨?_, State.heap_setCell_self hb', by simp [mg_st, d], ?_⟩
    · simp [mg_st, State.setCell, a]; omega
    · simp [mg_st, u, mg_row_size, Nat.succ_mul]; omega
theorem mg_top (T : State) (f : JFrame) (cA cI : ClassId) (n k : Nat) : ∀ i, mg_st (T.setTop f) cA cI n k i = (mg_st T cA cI n k i).setTop f
  | 0 => rfl
  | i + 1 => by simp only [mg_st, mg_top T f cA cI n k i, State.heap_setTop, State.pushCell_setTop, State.setCell_setTop]
theorem mg_old (T : State) (cA cI : ClassId) (n k : Nat) {a : Addr} (ha : a < T.heap.size) : ∀ i, (mg_st T cA cI n k i).heap[a]? = T.heap[a]?
  | 0 => State.heap_pushCell_of_lt _ _ ha
  | i + 1 => by
    have f1 := (mg_facts T cA cI n k i).1
    have hlt : a < (mg_st T cA cI n k i).heap.size := Nat.lt_of_lt_of_le ha (by rw [f1]; omega)
    show (((mg_st T cA cI n k i).pushCell (mg_row cI k)).setCell T.heap.size _).heap[a]? = _
    rw [State.heap_setCell_other (Nat.ne_of_gt ha), State.heap_pushCell_of_lt (h := hlt)]
    exact mg_old T cA cI n k ha i
theorem mg_rows (T : State) (cA cI : ClassId) (n k : Nat) : ∀ i j, j < i → (mg_st T cA cI n k i).heap[T.heap.size + 1 + j]? = some (mg_row cI k)
  | 0, _, h => absurd h (Nat.not_lt_zero _)
  | i + 1, j, h => by
    have f1 := (mg_facts T cA cI n k i).1
    show (((mg_st T cA cI n k i).pushCell (mg_row cI k)).setCell T.heap.size _).heap[T.heap.size + 1 + j]? = _
    rw [State.heap_setCell_other (show T.heap.size ≠ T.heap.size + 1 + j by omega)]
    rcases Nat.lt_or_ge j i with hj | hj
    · have hlt : T.heap.size + 1 + j < (mg_st T cA cI n k i).heap.size := by rw [f1]; omega
      rw [State.heap_pushCell_of_lt (h := hlt)]
      exact mg_rows T cA cI n k i j hj
    · have e : T.heap.size + 1 + j = (mg_st T cA cI n k i).heap.size := by rw [f1]; omega
      rw [e]
      simp
section MGW
variable {E : CtlPost} {e : Env} {d : Bool} {acts : List Action} {s : State}
theorem mg_new {c comp : ClassId} {kc : Class} {type : FieldType} {len : Nat} {init : Value} (hk : s.vm.classes[c]? = some kc) (hkind : kc.kind = .array comp type)
    (hlimit : ¬ len > e.platform.arrayLengthLimit) (hheap : ¬ len * componentBytes type > e.platform.maxHeapBytes) (hfit : fits type init = true) (hdef : init.isDefault = true) {Q : Addr → Pre}
    (h1 : s.heap.size < e.platform.maxCells) (h2 : s.slotsUsed + len ≤ e.platform.maxSlots) (hq : Q s.heap.size d acts (s.pushCell (arrV c len (fun _ => init)))) : wp (Jvm.newArray c len init) Q E e d acts s := by
  have hfits : ∀ i v, (Array.replicate len init)[i]? = some v → s.fitsSlot c .none i v = true := by
    intro i v hv
    rw [Array.getElem?_replicate] at hv
    split at hv
    · cases hv
      simp [State.fitsSlot, State.slotType?, hk, hkind, hfit]
    · cases hv
  have hda : allocActs (Array.replicate len init) s.heap.size acts = acts := by
    unfold allocActs
    rw [if_pos]
    rw [Array.all_replicate]
    split <;> simp [hdef]
  rw [← arrV_new] at hq
  simp only [Jvm.newArray, Jvm.arrayFits, wp_bind', W.ask, W.ite, hlimit, if_false, wp_pure', W.theClass, hk, hkind, hheap, W.alloc, W.stop, Option.some.injEq, exists_eq_left', Array.size_replicate, hda]
  rw [if_neg (by omega)]
  exact ⟨h1, h2, hfits, hq⟩
theorem mg_make1 {cI cc : ClassId} {kI : Class} {k : Int32} (hkI : s.vm.classes[cI]? = some kI) (hkindI : kI.kind = .array cc .int) (hk0 : ¬ k < 0) (hl : ¬ k.toNatClampNeg > e.platform.arrayLengthLimit) (hh : ¬ k.toNatClampNeg * 4 > e.platform.maxHeapBytes)
    (h1 : s.heap.size < e.platform.maxCells) (h2 : s.slotsUsed + k.toNatClampNeg ≤ e.platform.maxSlots) {Q : Addr → Pre} (hq : Q s.heap.size d acts (s.pushCell (mg_row cI k.toNatClampNeg))) : wp (multianewarray.make cI [k]) Q E e d acts s := by
  rw [multianewarray.make]
  simp only [wp_bind', W.ite, hk0, if_false, wp_pure', W.theClass, hkI, hkindI, Option.some.injEq, exists_eq_left']
  exact mg_new hkI hkindI hl hh rfl rfl h1 h2 hq
theorem mg_make2 {cA cI cc : ClassId} {kA kI : Class} {n k : Int32} (hkA : s.vm.classes[cA]? = some kA) (hkindA : kA.kind = .array cI (.array .int)) (hkI : s.vm.classes[cI]? = some kI) (hkindI : kI.kind = .array cc .int) (hn : ¬ n < 0) (hk0 : ¬ k < 0)
    (hl1 : ¬ n.toNatClampNeg > e.platform.arrayLengthLimit) (hh1 : ¬ n.toNatClampNeg * 4 > e.platform.maxHeapBytes) (hl2 : ¬ k.toNatClampNeg > e.platform.arrayLengthLimit) (hh2 : ¬ k.toNatClampNeg * 4 > e.platform.maxHeapBytes)
    (hc : s.heap.size + 1 + n.toNatClampNeg ≤ e.platform.maxCells) (hs : s.slotsUsed + n.toNatClampNeg + n.toNatClampNeg * k.toNatClampNeg ≤ e.platform.maxSlots)
    {Q : Addr → Pre} (hq : ∀ d' acts', Q s.heap.size d' acts' (mg_st s cA cI n.toNatClampNeg k.toNatClampNeg n.toNatClampNeg)) : wp (multianewarray.make cA [n, k]) Q E e d acts s := by
  have hfind : ([k].find? (· < 0)) = none := by simp [hk0]
  rw [multianewarray.make]
  simp only [wp_bind', W.ite, hn, if_false, wp_pure', W.theClass, hkA, hkindA, Option.some.injEq, exists_eq_left']
  refine mg_new hkA hkindA hl1 hh1 rfl rfl (by omega) (by have := Nat.zero_le (n.toNatClampNeg * k.toNatClampNeg); omega) ?_
  simp only [hfind]
  rw [ite_self, wp_bind', Std.Legacy.Range.forIn_eq_forIn_range']
  have hsz : ([:n.toNatClampNeg] : Std.Legacy.Range).size = n.toNatClampNeg := by simp [Std.Legacy.Range.size]
  rw [hsz]
  have h0 : s.pushCell (arrV cA n.toNatClampNeg (fun _ => .null)) = mg_st s cA cI n.toNatClampNeg k.toNatClampNeg 0 := by
    show s.pushCell _ = s.pushCell (mg_out _ _ _ 0)
    simp [mg_out]
  show wp (forIn (List.range' 0 n.toNatClampNeg 1) PUnit.unit _) _ E e d acts _
  refine wp_forIn_inv (fun rest s' => ∃ i, i ≤ n.toNatClampNeg ∧ rest = List.range' i (n.toNatClampNeg - i) ∧ s' = mg_st s cA cI n.toNatClampNeg k.toNatClampNeg i) _ _ ⟨0, Nat.zero_le _, rfl, h0⟩ ?_ ?_
  · rintro x rest s' d' acts' Q' ⟨i, hi, hl, rfl⟩ hnext
    have hlt : i < n.toNatClampNeg := by
      rcases Nat.lt_or_ge i n.toNatClampNeg with h | h
      · exact h
      · rw [show n.toNatClampNeg - i = 0 from by omega] at hl
        simp at hl
    rw [show n.toNatClampNeg - i = (n.toNatClampNeg - (i + 1)) + 1 from by omega, List.range'_succ] at hl
    obtain ⟨rfl, hrest⟩ := List.cons.inj hl
    obtain ⟨f1, f2, f3, f4⟩ := mg_facts s cA cI n.toNatClampNeg k.toNatClampNeg x
    have hmul : x * k.toNatClampNeg + k.toNatClampNeg ≤ n.toNatClampNeg * k.toNatClampNeg := by
      have := Nat.mul_le_mul_right k.toNatClampNeg (show x + 1 ≤ n.toNatClampNeg from hlt)
      rw [Nat.succ_mul] at this
      exact this
    simp only [wp_bind']
    refine mg_make1 (by rw [f3]; exact hkI) hkindI hk0 hl2 hh2 (by rw [f1]; omega) (by rw [f4]; omega) ?_
    have hlt0 : s.heap.size < (mg_st s cA cI n.toNatClampNeg k.toNatClampNeg x).heap.size := by rw [f1]; omega
    simp only [wp_bind', W.writeLoc, wp_pure']
    refine ⟨mg_out cA n.toNatClampNeg s.heap.size x, by rw [State.heap_pushCell_of_lt (h := hlt0)]; exact f2, by simp [mg_out, arrV], by rw [mg_out_size]; exact hlt, ?_, hnext _ _ _ ⟨x + 1, hlt, hrest, ?_⟩⟩
    · simp [mg_out, arrV, State.fitsSlot, State.slotType?, f3, hkA, hkindA, fits]
    · rw [f1, mg_next]
      rfl
  · rintro s' d' acts' ⟨i, hi, hl, rfl⟩
    have hiN : i = n.toNatClampNeg := by
      rcases Nat.lt_or_ge i n.toNatClampNeg with h | h
      · rw [show n.toNatClampNeg - i = (n.toNatClampNeg - (i + 1)) + 1 from by omega, List.range'_succ] at hl
        cases hl
      · omega
    subst hiN
    simp only [wp_pure']
    exact hq _ _
end MGW
section MGS
variable {p : Program} {l : Launch} {e : Env} {R : Room} {s : State} {m : MethodId} {args : Array Value} {below : List Frame} {meth : Method} {c : Code} {T : State} {locs : List Loc} {cells slots : Nat}
theorem mg_stand (X : Stand p l e R s m args below meth c T locs cells slots) (cA cI : ClassId) (n k : Nat) : ∀ i, Stand p l e R s m args below meth c (mg_st T cA cI n k i) (locs ++ (List.range i).map fun j => ⟨T.heap.size, j⟩) (cells + 1 + i) (slots + n + i * k)
  | 0 => by
    have h := X.pushed (mg_out cA n T.heap.size 0)
    rw [mg_out_size] at h
    simpa [mg_st] using h
  | i + 1 => by
    have Xi := mg_stand X cA cI n k i
    obtain ⟨f1, f2, f3, f4⟩ := mg_facts T cA cI n k i
    have hlt0 : T.heap.size < (mg_st T cA cI n k i).heap.size := by rw [f1]; omega
    have hcell : ((mg_st T cA cI n k i).pushCell (mg_row cI k)).heap[T.heap.size]? = some (mg_out cA n T.heap.size i) := by rw [State.heap_pushCell_of_lt (h := hlt0)]; exact f2
    have h := (Xi.pushed (mg_row cI k)).stored hcell i (.ref (T.heap.size + 1 + i))
    rw [mg_row_size, mg_next] at h
    have e2 : (locs ++ (List.range (i + 1)).map fun j => (⟨T.heap.size, j⟩ : Loc)) = (locs ++ (List.range i).map fun j => (⟨T.heap.size, j⟩ : Loc)) ++ [⟨T.heap.size, i⟩] := by simp [List.range_succ, List.append_assoc]
    have e3 : slots + n + (i + 1) * k = slots + n + i * k + k := by rw [Nat.succ_mul]; omega
    rw [e2, e3]
    exact h
theorem mg_step (X : Stand p l e R s m args below meth c T locs cells slots) (hexec : p.tables.exec = Jvm.exec) {own : String} {index : Nat} (hown : s.vm.findClass own = some m.cls) (hclink : (Cond.classLink own index "[[I").before args s = true)
    {cA cI cc : ClassId} {kA kI : Class} (hfA : s.vm.findClass "[[I" = some cA) (hkA : s.vm.classes[cA]? = some kA) (hkindA : kA.kind = .array cI (.array .int)) (hkI : s.vm.classes[cI]? = some kI) (hkindI : kI.kind = .array cc .int)
    {g : JFrame} (hg : g.method = m) (hdg : decode c.code g.pc = .ok (.multianewarray index 2, 4)) {n k : Int32} {rest : List Value} (hstack : g.stack = .int k :: .int n :: rest)
    (hn : ¬ n < 0) (hk : ¬ k < 0) (hb1 : n.toNatClampNeg * 4 ≤ 536870912) (hb2 : k.toNatClampNeg * 4 ≤ 536870912) (hcells : cells + (1 + n.toNatClampNeg) ≤ R.cells) (hslots : slots + (n.toNatClampNeg + n.toNatClampNeg * k.toNatClampNeg) ≤ R.slots) :
    ∃ vm₁ : Vm, s.WarmedH vm₁ ∧ Stand p l e R s m args below meth c (mg_st (T.setVm vm₁) cA cI n.toNatClampNeg k.toNatClampNeg n.toNatClampNeg) (locs ++ (List.range n.toNatClampNeg).map fun j => ⟨T.heap.size, j⟩) (cells + 1 + n.toNatClampNeg) (slots + n.toNatClampNeg + n.toNatClampNeg * k.toNatClampNeg) ∧
      ∀ target, Steps p.tables e below ((mg_st (T.setVm vm₁) cA cI n.toNatClampNeg k.toNatClampNeg n.toNatClampNeg).setTop { g with pc := g.pc + 4, stack := .ref T.heap.size :: rest }) target → Steps p.tables e below (T.setTop g) target := by
  subst hg
  have hpl : e.platform.magicAccessors = ({} : Platform).magicAccessors := by rw [X.admits.platform]
  obtain ⟨c0, hfc0, hcl⟩ := Cond.classLink_spec hown hclink e.platform hpl
  cases hfA.symm.trans hfc0
  obtain ⟨hg₁, hwarm₁, hready₁⟩ := State.classEntry (e := e) X.warmed hcl
  generalize T.vm.noted g.method.cls index (.cls cA) = vm₁ at hg₁ hwarm₁ hready₁
  have hal : s.vm.Alike vm₁ := hwarm₁.alike
  obtain ⟨kA₁, hkA₁, heA⟩ := hal.2.2 _ _ hkA
  obtain ⟨kI₁, hkI₁, heI⟩ := hal.2.2 _ _ hkI
  have hkindA₁ : kA₁.kind = .array cI (.array .int) := by rw [heA]; exact hkindA
  have hkindI₁ : kI₁.kind = .array cc .int := by rw [heI]; exact hkindI
  have X₁ := X.noted hwarm₁
  obtain ⟨hr1, hr2⟩ := X.roomAbove hcells hslots
  refine ⟨vm₁, hwarm₁, mg_stand X₁ cA cI _ _ _, fun target hrest => ?_⟩
  have hl1 : ¬ n.toNatClampNeg > e.platform.arrayLengthLimit := by rw [Launch.admits_arrayLengthLimit X.admits]; omega
  have hh1 : ¬ n.toNatClampNeg * 4 > e.platform.maxHeapBytes := by rw [Launch.admits_maxHeapBytes X.admits]; omega
  have hl2 : ¬ k.toNatClampNeg > e.platform.arrayLengthLimit := by rw [Launch.admits_arrayLengthLimit X.admits]; omega
  have hh2 : ¬ k.toNatClampNeg * 4 > e.platform.maxHeapBytes := by rw [Launch.admits_maxHeapBytes X.admits]; omega
  jvm_step X.here [hexec, hdg]
  simp only [multianewarray.sem, wp_bind', W.resolveClassAt_links (State.method?_setTop g X.here.top) hg₁]
  rw [W.popN, if_neg (by decide)]
  refine ⟨g, State.topJava?_setTop' (s := T.setVm vm₁) g X.here.top, [.int n, .int k], rest, rfl, hstack, ?_⟩
  simp only [List.mapM_cons, List.mapM_nil, wp_bind', wp_pure']
  refine mg_make2 hkA₁ hkindA₁ hkI₁ hkindI₁ hn hk hl1 hh1 hl2 hh2 (by show T.heap.size + 1 + _ ≤ _; omega) (by show T.slotsUsed + _ + _ ≤ _; omega) (fun d' acts' => ?_)
  have XF := mg_stand X₁ cA cI n.toNatClampNeg k.toNatClampNeg n.toNatClampNeg
  have eS : ((T.setTop g).setVm vm₁).setTop { g with stack := rest } = (T.setVm vm₁).setTop { g with stack := rest } := by
    show ((T.setVm vm₁).setTop g).setTop _ = _
    rw [State.setTop_setTop]
  rw [eS, mg_top]
  simp only [wp_bind', W.mark, W.pushRef, State.topJava?_setTop' _ XF.here.top, Option.some.injEq, exists_eq_left', State.setTop_setTop, State.heap_setTop]
  intro acts
  simp [jvm, XF.here.top]
  exact hrest
end MGS
end
section
/-! ===== the rule for new int[n][k] ===== -/
theorem am_nm1 : "[" ++ (FieldType.array .int).toString = "[[I" := by decide +kernel
theorem am_nm2 : "[" ++ FieldType.int.toString = (FieldType.array .int).toString := by decide +kernel
section AMG
variable {l : Launch} {D : va_G} {G : am_G} {B : Nat} {sp : Nat → Nat} {fz : Value} {Lx : Nat} {xs : Nat → Int32} {Q : am_Q} {shE : List am_E} {i pc : Nat} {L S : am_V} {sh : List am_E} {M : am_M} {N : am_N}
theorem am_D (h : sh.length ≤ 1000000) : va_D (am_A B) (am_ws G B sp sh M N) := by
  have key : ∀ (k : Nat) (q : Nat × va_E), (am_ws G B sp sh M N)[k]? = some q → k < sh.length ∧ q.1 = B + k := by
    intro k q hq
    have hk : k < sh.length := by
      have := (List.getElem?_eq_some_iff.mp hq).1
      simpa [am_ws] using this
    rw [am_ws_get (List.getElem?_eq_getElem hk)] at hq
    cases hq
    exact ⟨hk, am_ad_lo (by omega)⟩
  refine ⟨fun a b p q ha hb hab => ?_, fun k q hq => ?_⟩
  · have h1 := key a p ha
    have h2 := key b q hb
    omega
  · have h1 := key k q hq
    show B ≤ q.1
    omega
theorem am_sz_app (a b : List am_E) : am_sz (a ++ b) = am_sz a + am_sz b := by
  simp [am_sz]
theorem am_sz_rep (n k : Nat) : am_sz (List.replicate n (.inl (0, k))) = n * k := by
  simp [am_sz]
theorem sw_grid {idx n k : Nat} {x y : Int32} (hin : am_in i pc = some (.multianewarray idx 2, 4)) (hc : am_gg i idx = true) (hx0 : ¬ x < 0) (hy0 : ¬ y < 0) (hxn : x.toNatClampNeg = n) (hyn : y.toNatClampNeg = k) (hn : n ≤ 1000) (hk : k ≤ 1000) (hl : sh.length < 900000)
    (kk : am_SW l D G B sp fz Lx xs Q shE i (pc + 4) L (.ref sh.length :: S) (sh ++ (.inl (2, n) :: List.replicate n (.inl (0, k)))) (fun a => if sh.length ≤ a then fun _ => 0 else M a) N) : am_SW l D G B sp fz Lx xs Q shE i pc L (.int y :: .int x :: S) sh M N := by
  have k1 := kk.1
  have k2 := kk.2.1
  have hlen : (sh ++ (.inl (2, n) :: List.replicate n (.inl (0, k))) : List am_E).length = sh.length + 1 + n := by simp; omega
  have hsz0 : am_sz (sh ++ (.inl (2, n) :: List.replicate n (.inl (0, k)))) = am_sz sh + n + n * k := by
    rw [am_sz_app]
    have : am_sz (.inl (2, n) :: List.replicate n (.inl (0, k))) = n + n * k := by
      rw [← am_sz_rep]
      simp [am_sz]
    rw [this]
    omega
  rw [hlen] at k1
  rw [hsz0] at k2
  refine ⟨by omega, by omega, fun p e R s m args below meth c H locs ls cells slots C St => am_size fun hsz => ?_⟩
  have hC := id C
  obtain ⟨hx, hb, hml, hown, hts, hr, hlk, hnm, hK, hX, hB, hfr, hlo⟩ := C
  obtain ⟨a1, a2, a3, a4, a5, a6, a7, a8⟩ := St
  have hBH : B ≤ H.size := Nat.le_trans hB a5.1
  have hge := am_hsz a3 (by omega) hBH
  have hHs : H.size = B + sh.length := by omega
  obtain ⟨comp, cA, kA, g1, g2, g3, g4⟩ := hX.2.2.2.2.2.2.2.1
  have hG2 : cA = G.2.2 := Option.some.inj (g4.symm.trans (hK.2 2 _ rfl).2)
  have hG1 : comp = G.1 := by
    have h9 : s.vm.findClass ("[" ++ FieldType.int.toString) = some G.1 := (hK.2 0 _ rfl).2
    rw [am_nm2] at h9
    exact Option.some.inj (g1.symm.trans h9)
  subst hG2
  subst hG1
  rw [am_nm1] at g4
  obtain ⟨-, kI, hkI, cc, hkindI⟩ := (hK.2 0 _ rfl).1 0 (fun _ => .int 0)
  subst hxn
  subst hyn
  intro T hT X
  obtain ⟨vm₁, hw, X', st⟩ := mg_step X hx hown (hts _ (am_tbl_in (am_kgs (am_ow i) idx (by simpa [am_gg] using hc)) rfl)) g4 g2 g3 hkI hkindI (g := F0 m pc ls ((.int y :: .int x :: S).map (am_cv B sp fz))) rfl (by rw [hb]; exact am_in_dec hin) rfl hx0 hy0 (by omega) (by omega) (by omega) (by omega)
  have hTh : (T.setVm vm₁).heap = H := hT
  have hTs : T.heap.size = B + sh.length := by rw [hT, hHs]
  obtain ⟨f1, f2, -, -⟩ := mg_facts (T.setVm vm₁) G.2.2 G.1 x.toNatClampNeg y.toNatClampNeg x.toNatClampNeg
  have f3 : ∀ a, a < H.size → _ := fun a ha => mg_old (T.setVm vm₁) G.2.2 G.1 x.toNatClampNeg y.toNatClampNeg (a := a) (by rw [hTh]; exact ha) x.toNatClampNeg
  have f4 := mg_rows (T.setVm vm₁) G.2.2 G.1 x.toNatClampNeg y.toNatClampNeg x.toNatClampNeg
  rw [hTh] at f1 f2 f4
  generalize mg_st (T.setVm vm₁) G.2.2 G.1 x.toNatClampNeg y.toNatClampNeg x.toNatClampNeg = F at X' st f1 f2 f3 f4
  have hP1 : va_P D vwCl (am_ws G B sp (sh ++ (.inl (2, x.toNatClampNeg) :: List.replicate x.toNatClampNeg (.inl (0, y.toNatClampNeg)))) (fun a => if sh.length ≤ a then fun _ => 0 else M a) N) F.heap := by
    intro q w hq
    have hql : q < sh.length + 1 + x.toNatClampNeg := by
      have := (List.getElem?_eq_some_iff.mp hq).1
      rw [← hlen]
      simpa [am_ws] using this
    by_cases c1 : q < sh.length
    · have he : (sh ++ (.inl (2, x.toNatClampNeg) :: List.replicate x.toNatClampNeg (.inl (0, y.toNatClampNeg))) : List am_E)[q]? = some sh[q] := by rw [List.getElem?_append_left c1]; exact List.getElem?_eq_getElem c1
      rw [am_ws_get he] at hq
      cases hq
      have hold := a3 q _ (am_ws_get (List.getElem?_eq_getElem c1))
      rw [am_ce_eq (M := M) (N := N) (by simp [show ¬ sh.length ≤ q by omega]) rfl]
      exact hold.kept (by rw [f3 _ hold.lt, hTh])
    · by_cases c2 : q = sh.length
      · subst c2
        have he : (sh ++ (.inl (2, x.toNatClampNeg) :: List.replicate x.toNatClampNeg (.inl (0, y.toNatClampNeg))) : List am_E)[sh.length]? = some (.inl (2, x.toNatClampNeg)) := by simp
        rw [am_ws_get he] at hq
        cases hq
        show F.heap[am_ad B sp sh.length]? = some (vp_cell G.2.2 (x.toNatClampNeg, .inr (.inr (.inr (.inr (fun j => some (am_ad B sp (sh.length + 1 + j))))))))
        rw [am_ad_lo (by omega), ← hHs, f2, vp_cell_q]
        unfold mg_out arrV
        congr 1
        congr 1
        apply Array.ext
        · simp
        · intro j h1 h2
          have h3 : j < x.toNatClampNeg := by simpa using h1
          have h4 : am_ad B sp (sh.length + 1 + j) = H.size + 1 + j := by rw [am_ad_lo (by omega)]; omega
          simp only [Array.getElem_ofFn, h3, if_true, va_rf, h4]
      · obtain ⟨j, rfl⟩ : ∃ j, q = sh.length + 1 + j := ⟨q - sh.length - 1, by omega⟩
        have hj : j < x.toNatClampNeg := by omega
        have he : (sh ++ (.inl (2, x.toNatClampNeg) :: List.replicate x.toNatClampNeg (.inl (0, y.toNatClampNeg))) : List am_E)[sh.length + 1 + j]? = some (.inl (0, y.toNatClampNeg)) := by
          rw [List.getElem?_append_right (by omega), show sh.length + 1 + j - sh.length = j + 1 by omega, List.getElem?_cons_succ, List.getElem?_replicate, if_pos hj]
        rw [am_ws_get he] at hq
        cases hq
        show F.heap[am_ad B sp (sh.length + 1 + j)]? = some (vp_cell G.1 (y.toNatClampNeg, .inl (if sh.length ≤ sh.length + 1 + j then fun _ => 0 else M (sh.length + 1 + j))))
        rw [am_ad_lo (by omega), show B + (sh.length + 1 + j) = H.size + 1 + j by omega, f4 j hj, vp_cell_i, if_pos (by omega)]
        rfl
  have hS1 : va_S (am_A B) s.heap F.heap (locs ++ (List.range x.toNatClampNeg).map fun j => (⟨T.heap.size, j⟩ : Loc)) := by
    refine ⟨Nat.le_trans a5.1 (by omega), fun q h1 h2 => ?_, fun q hq => ?_⟩
    · rw [f3 q (Nat.lt_of_lt_of_le h1 a5.1), hTh]
      exact a5.2.1 q h1 h2
    · rcases List.mem_append.mp hq with h | h
      · exact a5.2.2 q h
      · obtain ⟨j, -, rfl⟩ := List.mem_map.mp h
        show B ≤ T.heap.size
        omega
  have hk := kk.2.2 p e R s m args below meth c F.heap _ ls (cells + 1 + x.toNatClampNeg) (slots + x.toNatClampNeg + x.toNatClampNeg * y.toNatClampNeg) hC ⟨by rw [hlen]; omega, by rw [hsz0]; omega, hP1, am_D (by rw [hlen]; omega), hS1, by rw [hlen]; omega, a7, a8⟩ F rfl X'
  obtain ⟨t, b1, b2⟩ := hk
  refine ⟨t, st t ?_, b2⟩
  rw [List.map_cons, show am_cv B sp fz (.ref sh.length) = .ref T.heap.size by show Value.ref (am_ad B sp _) = _; rw [am_ad_lo (by omega), hTs]] at b1
  exact b1
end AMG
end
section
def ex_t : List (Nat × Instr × Nat) := [(0, .iconst 0, 1), (1, .istore 6, 2), (3, .iload 6, 2), (5, .bipush 60, 2), (7, .if_icmp .ge 36, 3), (10, .aload_n 0, 1), (11, .getfield 77, 3), (14, .iload 6, 2), (16, .iload 6, 2), (18, .iload_n 3, 1), (19, .if_icmp .ne 8, 3), (22, .ldc 211, 2), (24, .goto 4, 3), (27, .iconst 0, 1), (28, .iastore, 1), (29, .aload_n 0, 1), (30, .getfield 83, 3), (33, .iload 6, 2), (35, .iconst 0, 1), (36, .iastore, 1), (37, .iinc 6 1, 3), (40, .goto (-37), 3), (43, .iconst 0, 1), (44, .istore 6, 2), (46, .iload 6, 2), (48, .sipush 720, 3), (51, .if_icmp .ge 17, 3), (54, .aload_n 0, 1), (55, .getfield 86, 3), (58, .iload 6, 2), (60, .iconst 0, 1), (61, .iastore, 1), (62, .iinc 6 1, 3), (65, .goto (-19), 3), (68, .aload_n 0, 1), (69, .iconst 0, 1), (70, .putfield 212, 3), (73, .aload_n 0, 1), (74, .iconst 0, 1), (75, .putfield 201, 3), (78, .aload_n 0, 1), (79, .iconst 0, 1), (80, .putfield 215, 3), (83, .iconst 0, 1), (84, .istore 6, 2), (86, .iload 6, 2), (88, .iload 5, 2), (90, .if_icmp .ge 213, 3), (93, .iconst 0, 1), (94, .istore 7, 2), (96, .iload 7, 2), (98, .bipush 60, 2), (100, .if_icmp .ge 56, 3), (103, .aload_n 0, 1), (104, .getfield 80, 3), (107, .iload 7, 2), (109, .iconst 0, 1), (110, .iastore, 1), (111, .iload_n 1, 1), (112, .iconst 2, 1), (113, .if_icmp .ne 37, 3), (116, .iload 6, 2), (118, .iload 4, 2), (120, .if_icmp .ge 6, 3), (123, .goto 27, 3), (126, .aload_n 0, 1), (127, .dup, 1), (128, .getfield 215, 3), (131, .aload_n 0, 1), (132, .getfield 77, 3), (135, .iload 7, 2), (137, .iaload, 1), (138, .iadd, 1), (139, .putfield 215, 3), (142, .aload_n 0, 1), (143, .getfield 77, 3), (146, .iload 7, 2), (148, .iconst 0, 1), (149, .iastore, 1), (150, .iinc 7 1, 3), (153, .goto (-57), 3), (156, .iconst 0, 1), (157, .istore 7, 2), (159, .iload 7, 2), (161, .bipush 60, 2), (163, .if_icmp .ge 20, 3), (166, .aload_n 0, 1), (167, .iload 7, 2), (169, .iload_n 1, 1), (170, .iload_n 2, 1), (171, .iload 6, 2), (173, .iadd, 1), (174, .invokevirtual 218, 3), (177, .iinc 7 1, 3), (180, .goto (-21), 3), (183, .iconst 0, 1), (184, .istore 7, 2), (186, .iload 7, 2), (188, .bipush 60, 2), (190, .if_icmp .ge 107, 3), (193, .aload_n 0, 1), (194, .getfield 77, 3), (197, .iload 7, 2), (199, .aload_n 0, 1), (200, .getfield 80, 3), (203, .iload 7, 2), (205, .iaload, 1), (206, .iastore, 1), (207, .aload_n 0, 1), (208, .getfield 83, 3), (211, .iload 7, 2), (213, .iaload, 1), (214, .aload_n 0, 1), (215, .getfield 19, 3), (218, .iload 7, 2), (220, .iaload, 1), (221, .imul, 1), (222, .bipush 16, 2), (224, .idiv, 1), (225, .istore 8, 2), (227, .aload_n 0, 1), (228, .getfield 86, 3), (231, .bipush 60, 2), (233, .iload 6, 2), (235, .imul, 1), (236, .iload 7, 2), (238, .iadd, 1), (239, .iload 8, 2), (241, .iastore, 1), (242, .aload_n 0, 1), (243, .getfield 83, 3), (246, .iload 7, 2), (248, .iaload, 1), (249, .iload 8, 2), (251, .isub, 1), (252, .aload_n 0, 1), (253, .getfield 16, 3), (256, .iload 7, 2), (258, .iaload, 1), (259, .imul, 1), (260, .bipush 16, 2), (262, .idiv, 1), (263, .istore 9, 2), (265, .aload_n 0, 1), (266, .dup, 1), (267, .getfield 212, 3), (270, .iload 9, 2), (272, .iadd, 1), (273, .putfield 212, 3), (276, .aload_n 0, 1), (277, .getfield 83, 3), (280, .iload 7, 2), (282, .dup2, 1), (283, .iaload, 1), (284, .iload 8, 2), (286, .iload 9, 2), (288, .iadd, 1), (289, .isub, 1), (290, .iastore, 1), (291, .iinc 7 1, 3), (294, .goto (-108), 3), (297, .iinc 6 1, 3), (300, .goto (-214), 3), (303, .return_, 1)]
set_option maxRecDepth 100000 in
theorem ex_k : ∀ q ∈ ex_t, ((cX11_drift)[q.1]?).isSome = true := by decide +kernel
end
