section
-- ===== PART A: goes FIRST, ahead of the names: the tables' words, and 'selects' of the private methods out of them =====
/-- a private method of a class that the tables say can be made, by its rows of tables_1 -/
def lw_okq (q : MethodName × Nat) : Prop := (q.1.cls ≠ "java/lang/invoke/MethodHandle" ∧ q.1.cls ≠ "java/lang/invoke/VarHandle") ∧ Cond.instantiable q.1.cls q.2 ∈ tables_1 ∧ Cond.privateMethod q.1 ∈ tables_1 ∧ Cond.instanceMethod q.1 ∈ tables_1
theorem lw_p0 : lw_okq (⟨"DriftCards$Reading", "countCards", "(II)I"⟩, 5) := ⟨⟨by decide +kernel, by decide +kernel⟩, List.mem_of_getElem? (i := 290) (by decide +kernel), List.mem_of_getElem? (i := 532) (by decide +kernel), List.mem_of_getElem? (i := 533) (by decide +kernel)⟩
theorem lw_p1 : lw_okq (⟨"DriftCards$Drift", "sinkAll", "()V"⟩, 15) := ⟨⟨by decide +kernel, by decide +kernel⟩, List.mem_of_getElem? (i := 212) (by decide +kernel), List.mem_of_getElem? (i := 569) (by decide +kernel), List.mem_of_getElem? (i := 570) (by decide +kernel)⟩
theorem lw_p2 : lw_okq (⟨"DriftCards$Drift", "goInWater", "(I)V"⟩, 15) := ⟨⟨by decide +kernel, by decide +kernel⟩, List.mem_of_getElem? (i := 212) (by decide +kernel), List.mem_of_getElem? (i := 576) (by decide +kernel), List.mem_of_getElem? (i := 577) (by decide +kernel)⟩
theorem lw_p3 : lw_okq (⟨"DriftCards$Drift", "asItFloats", "(I)I"⟩, 15) := ⟨⟨by decide +kernel, by decide +kernel⟩, List.mem_of_getElem? (i := 212) (by decide +kernel), List.mem_of_getElem? (i := 584) (by decide +kernel), List.mem_of_getElem? (i := 585) (by decide +kernel)⟩
theorem lw_p4 : lw_okq (⟨"DriftCards$Drift", "goFrom", "(II)V"⟩, 15) := ⟨⟨by decide +kernel, by decide +kernel⟩, List.mem_of_getElem? (i := 212) (by decide +kernel), List.mem_of_getElem? (i := 596) (by decide +kernel), List.mem_of_getElem? (i := 597) (by decide +kernel)⟩
theorem lw_p5 : lw_okq (⟨"DriftCards$Drift", "send", "(IIII)V"⟩, 15) := ⟨⟨by decide +kernel, by decide +kernel⟩, List.mem_of_getElem? (i := 212) (by decide +kernel), List.mem_of_getElem? (i := 600) (by decide +kernel), List.mem_of_getElem? (i := 601) (by decide +kernel)⟩
theorem lw_p6 : lw_okq (⟨"DriftCards$Drift", "beWalked", "()V"⟩, 15) := ⟨⟨by decide +kernel, by decide +kernel⟩, List.mem_of_getElem? (i := 212) (by decide +kernel), List.mem_of_getElem? (i := 612) (by decide +kernel), List.mem_of_getElem? (i := 613) (by decide +kernel)⟩
theorem lw_p7 : lw_okq (⟨"DriftCards$Prizes", "readTest", "(LDriftCards$Tape;I)Z"⟩, 8) := ⟨⟨by decide +kernel, by decide +kernel⟩, List.mem_of_getElem? (i := 375) (by decide +kernel), List.mem_of_getElem? (i := 921) (by decide +kernel), List.mem_of_getElem? (i := 922) (by decide +kernel)⟩
theorem lw_p8 : lw_okq (⟨"DriftCards", "payOf", "(I)I"⟩, 12) := ⟨⟨by decide +kernel, by decide +kernel⟩, List.mem_of_getElem? (i := 22) (by decide +kernel), List.mem_of_getElem? (i := 951) (by decide +kernel), List.mem_of_getElem? (i := 952) (by decide +kernel)⟩
theorem lw_p9 : lw_okq (⟨"DriftCards$Prizes", "holds", "(I)Z"⟩, 8) := ⟨⟨by decide +kernel, by decide +kernel⟩, List.mem_of_getElem? (i := 375) (by decide +kernel), List.mem_of_getElem? (i := 967) (by decide +kernel), List.mem_of_getElem? (i := 968) (by decide +kernel)⟩
theorem lw_p10 : lw_okq (⟨"DriftCards$Prizes", "isTrue", "(I)Z"⟩, 8) := ⟨⟨by decide +kernel, by decide +kernel⟩, List.mem_of_getElem? (i := 375) (by decide +kernel), List.mem_of_getElem? (i := 971) (by decide +kernel), List.mem_of_getElem? (i := 972) (by decide +kernel)⟩
theorem lw_p11 : lw_okq (⟨"DriftCardsModel", "told", "(II)I"⟩, 59) := ⟨⟨by decide +kernel, by decide +kernel⟩, List.mem_of_getElem? (i := 995) (by decide +kernel), List.mem_of_getElem? (i := 1193) (by decide +kernel), List.mem_of_getElem? (i := 1194) (by decide +kernel)⟩
theorem lw_p12 : lw_okq (⟨"DriftCardsModel", "tells", "(III)V"⟩, 59) := ⟨⟨by decide +kernel, by decide +kernel⟩, List.mem_of_getElem? (i := 995) (by decide +kernel), List.mem_of_getElem? (i := 1197) (by decide +kernel), List.mem_of_getElem? (i := 1198) (by decide +kernel)⟩
theorem lw_p13 : lw_okq (⟨"DriftCardsModel", "isCast", "(I)Z"⟩, 59) := ⟨⟨by decide +kernel, by decide +kernel⟩, List.mem_of_getElem? (i := 995) (by decide +kernel), List.mem_of_getElem? (i := 1240) (by decide +kernel), List.mem_of_getElem? (i := 1241) (by decide +kernel)⟩
theorem lw_p14 : lw_okq (⟨"DriftCardsModel", "driftOf", "(II)V"⟩, 59) := ⟨⟨by decide +kernel, by decide +kernel⟩, List.mem_of_getElem? (i := 995) (by decide +kernel), List.mem_of_getElem? (i := 1249) (by decide +kernel), List.mem_of_getElem? (i := 1250) (by decide +kernel)⟩
theorem lw_p15 : lw_okq (⟨"DriftCardsModel", "drift", "(IIIII)V"⟩, 59) := ⟨⟨by decide +kernel, by decide +kernel⟩, List.mem_of_getElem? (i := 995) (by decide +kernel), List.mem_of_getElem? (i := 1253) (by decide +kernel), List.mem_of_getElem? (i := 1254) (by decide +kernel)⟩
def lw_privs_1 : List (MethodName × Nat) := [(⟨"DriftCards$Reading", "countCards", "(II)I"⟩, 5), (⟨"DriftCards$Drift", "sinkAll", "()V"⟩, 15), (⟨"DriftCards$Drift", "goInWater", "(I)V"⟩, 15), (⟨"DriftCards$Drift", "asItFloats", "(I)I"⟩, 15), (⟨"DriftCards$Drift", "goFrom", "(II)V"⟩, 15), (⟨"DriftCards$Drift", "send", "(IIII)V"⟩, 15), (⟨"DriftCards$Drift", "beWalked", "()V"⟩, 15), (⟨"DriftCards$Prizes", "readTest", "(LDriftCards$Tape;I)Z"⟩, 8), (⟨"DriftCards", "payOf", "(I)I"⟩, 12), (⟨"DriftCards$Prizes", "holds", "(I)Z"⟩, 8), (⟨"DriftCards$Prizes", "isTrue", "(I)Z"⟩, 8), (⟨"DriftCardsModel", "told", "(II)I"⟩, 59), (⟨"DriftCardsModel", "tells", "(III)V"⟩, 59), (⟨"DriftCardsModel", "isCast", "(I)Z"⟩, 59), (⟨"DriftCardsModel", "driftOf", "(II)V"⟩, 59), (⟨"DriftCardsModel", "drift", "(IIIII)V"⟩, 59)]
theorem lw_r1 : ∀ q ∈ lw_privs_1, lw_okq q := List.forall_mem_cons.mpr ⟨lw_p0, List.forall_mem_cons.mpr ⟨lw_p1, List.forall_mem_cons.mpr ⟨lw_p2, List.forall_mem_cons.mpr ⟨lw_p3, List.forall_mem_cons.mpr ⟨lw_p4, List.forall_mem_cons.mpr ⟨lw_p5, List.forall_mem_cons.mpr ⟨lw_p6, List.forall_mem_cons.mpr ⟨lw_p7, List.forall_mem_cons.mpr ⟨lw_p8, List.forall_mem_cons.mpr ⟨lw_p9, List.forall_mem_cons.mpr ⟨lw_p10, List.forall_mem_cons.mpr ⟨lw_p11, List.forall_mem_cons.mpr ⟨lw_p12, List.forall_mem_cons.mpr ⟨lw_p13, List.forall_mem_cons.mpr ⟨lw_p14, List.forall_mem_cons.mpr ⟨lw_p15, fun _ h => absurd h List.not_mem_nil⟩⟩⟩⟩⟩⟩⟩⟩⟩⟩⟩⟩⟩⟩⟩⟩
theorem lw_p16 : lw_okq (⟨"DriftCardsModel", "drifts", "(III)V"⟩, 59) := ⟨⟨by decide +kernel, by decide +kernel⟩, List.mem_of_getElem? (i := 995) (by decide +kernel), List.mem_of_getElem? (i := 1258) (by decide +kernel), List.mem_of_getElem? (i := 1259) (by decide +kernel)⟩
theorem lw_p17 : lw_okq (⟨"DriftCardsModel", "goes", "(IIII)V"⟩, 59) := ⟨⟨by decide +kernel, by decide +kernel⟩, List.mem_of_getElem? (i := 995) (by decide +kernel), List.mem_of_getElem? (i := 1265) (by decide +kernel), List.mem_of_getElem? (i := 1266) (by decide +kernel)⟩
theorem lw_p18 : lw_okq (⟨"DriftCardsModel", "sumOf", "([II)I"⟩, 59) := ⟨⟨by decide +kernel, by decide +kernel⟩, List.mem_of_getElem? (i := 995) (by decide +kernel), List.mem_of_getElem? (i := 1269) (by decide +kernel), List.mem_of_getElem? (i := 1270) (by decide +kernel)⟩
theorem lw_p19 : lw_okq (⟨"DriftCardsModel", "isName", "(I)Z"⟩, 59) := ⟨⟨by decide +kernel, by decide +kernel⟩, List.mem_of_getElem? (i := 995) (by decide +kernel), List.mem_of_getElem? (i := 1289) (by decide +kernel), List.mem_of_getElem? (i := 1290) (by decide +kernel)⟩
theorem lw_p20 : lw_okq (⟨"DriftCardsModel", "isFind", "(I)Z"⟩, 59) := ⟨⟨by decide +kernel, by decide +kernel⟩, List.mem_of_getElem? (i := 995) (by decide +kernel), List.mem_of_getElem? (i := 1307) (by decide +kernel), List.mem_of_getElem? (i := 1308) (by decide +kernel)⟩
theorem lw_p21 : lw_okq (⟨"DriftCardsModel", "weightOf", "(II)I"⟩, 59) := ⟨⟨by decide +kernel, by decide +kernel⟩, List.mem_of_getElem? (i := 995) (by decide +kernel), List.mem_of_getElem? (i := 1315) (by decide +kernel), List.mem_of_getElem? (i := 1316) (by decide +kernel)⟩
theorem lw_p22 : lw_okq (⟨"DriftCardsModel", "cardsOf", "(II)I"⟩, 59) := ⟨⟨by decide +kernel, by decide +kernel⟩, List.mem_of_getElem? (i := 995) (by decide +kernel), List.mem_of_getElem? (i := 1319) (by decide +kernel), List.mem_of_getElem? (i := 1320) (by decide +kernel)⟩
theorem lw_p23 : lw_okq (⟨"DriftCardsModel", "foundIn", "(IIII)I"⟩, 59) := ⟨⟨by decide +kernel, by decide +kernel⟩, List.mem_of_getElem? (i := 995) (by decide +kernel), List.mem_of_getElem? (i := 1323) (by decide +kernel), List.mem_of_getElem? (i := 1324) (by decide +kernel)⟩
theorem lw_p24 : lw_okq (⟨"DriftCardsModel", "judged", "(I)I"⟩, 59) := ⟨⟨by decide +kernel, by decide +kernel⟩, List.mem_of_getElem? (i := 995) (by decide +kernel), List.mem_of_getElem? (i := 1331) (by decide +kernel), List.mem_of_getElem? (i := 1332) (by decide +kernel)⟩
theorem lw_p25 : lw_okq (⟨"DriftCardsModel", "bestOf", "(I)I"⟩, 59) := ⟨⟨by decide +kernel, by decide +kernel⟩, List.mem_of_getElem? (i := 995) (by decide +kernel), List.mem_of_getElem? (i := 1339) (by decide +kernel), List.mem_of_getElem? (i := 1340) (by decide +kernel)⟩
theorem lw_p26 : lw_okq (⟨"DriftCardsModel", "twinOf", "(I)I"⟩, 59) := ⟨⟨by decide +kernel, by decide +kernel⟩, List.mem_of_getElem? (i := 995) (by decide +kernel), List.mem_of_getElem? (i := 1351) (by decide +kernel), List.mem_of_getElem? (i := 1352) (by decide +kernel)⟩
theorem lw_p27 : lw_okq (⟨"DriftCardsModel", "isKnown", "(I)Z"⟩, 59) := ⟨⟨by decide +kernel, by decide +kernel⟩, List.mem_of_getElem? (i := 995) (by decide +kernel), List.mem_of_getElem? (i := 1355) (by decide +kernel), List.mem_of_getElem? (i := 1356) (by decide +kernel)⟩
theorem lw_p28 : lw_okq (⟨"DriftCardsModel", "findSure", "()V"⟩, 59) := ⟨⟨by decide +kernel, by decide +kernel⟩, List.mem_of_getElem? (i := 995) (by decide +kernel), List.mem_of_getElem? (i := 1363) (by decide +kernel), List.mem_of_getElem? (i := 1364) (by decide +kernel)⟩
theorem lw_p29 : lw_okq (⟨"DriftCardsModel", "gotBy", "(IIII)I"⟩, 59) := ⟨⟨by decide +kernel, by decide +kernel⟩, List.mem_of_getElem? (i := 995) (by decide +kernel), List.mem_of_getElem? (i := 1367) (by decide +kernel), List.mem_of_getElem? (i := 1368) (by decide +kernel)⟩
theorem lw_p30 : lw_okq (⟨"DriftCardsModel", "fits", "(I)V"⟩, 59) := ⟨⟨by decide +kernel, by decide +kernel⟩, List.mem_of_getElem? (i := 995) (by decide +kernel), List.mem_of_getElem? (i := 1380) (by decide +kernel), List.mem_of_getElem? (i := 1381) (by decide +kernel)⟩
theorem lw_p31 : lw_okq (⟨"DriftCardsModel", "missed", "(I)J"⟩, 59) := ⟨⟨by decide +kernel, by decide +kernel⟩, List.mem_of_getElem? (i := 995) (by decide +kernel), List.mem_of_getElem? (i := 1384) (by decide +kernel), List.mem_of_getElem? (i := 1385) (by decide +kernel)⟩
def lw_privs_2 : List (MethodName × Nat) := [(⟨"DriftCardsModel", "drifts", "(III)V"⟩, 59), (⟨"DriftCardsModel", "goes", "(IIII)V"⟩, 59), (⟨"DriftCardsModel", "sumOf", "([II)I"⟩, 59), (⟨"DriftCardsModel", "isName", "(I)Z"⟩, 59), (⟨"DriftCardsModel", "isFind", "(I)Z"⟩, 59), (⟨"DriftCardsModel", "weightOf", "(II)I"⟩, 59), (⟨"DriftCardsModel", "cardsOf", "(II)I"⟩, 59), (⟨"DriftCardsModel", "foundIn", "(IIII)I"⟩, 59), (⟨"DriftCardsModel", "judged", "(I)I"⟩, 59), (⟨"DriftCardsModel", "bestOf", "(I)I"⟩, 59), (⟨"DriftCardsModel", "twinOf", "(I)I"⟩, 59), (⟨"DriftCardsModel", "isKnown", "(I)Z"⟩, 59), (⟨"DriftCardsModel", "findSure", "()V"⟩, 59), (⟨"DriftCardsModel", "gotBy", "(IIII)I"⟩, 59), (⟨"DriftCardsModel", "fits", "(I)V"⟩, 59), (⟨"DriftCardsModel", "missed", "(I)J"⟩, 59)]
theorem lw_r2 : ∀ q ∈ lw_privs_2, lw_okq q := List.forall_mem_cons.mpr ⟨lw_p16, List.forall_mem_cons.mpr ⟨lw_p17, List.forall_mem_cons.mpr ⟨lw_p18, List.forall_mem_cons.mpr ⟨lw_p19, List.forall_mem_cons.mpr ⟨lw_p20, List.forall_mem_cons.mpr ⟨lw_p21, List.forall_mem_cons.mpr ⟨lw_p22, List.forall_mem_cons.mpr ⟨lw_p23, List.forall_mem_cons.mpr ⟨lw_p24, List.forall_mem_cons.mpr ⟨lw_p25, List.forall_mem_cons.mpr ⟨lw_p26, List.forall_mem_cons.mpr ⟨lw_p27, List.forall_mem_cons.mpr ⟨lw_p28, List.forall_mem_cons.mpr ⟨lw_p29, List.forall_mem_cons.mpr ⟨lw_p30, List.forall_mem_cons.mpr ⟨lw_p31, fun _ h => absurd h List.not_mem_nil⟩⟩⟩⟩⟩⟩⟩⟩⟩⟩⟩⟩⟩⟩⟩⟩
theorem lw_p32 : lw_okq (⟨"DriftCardsModel", "foundAll", "(IIIII)V"⟩, 59) := ⟨⟨by decide +kernel, by decide +kernel⟩, List.mem_of_getElem? (i := 995) (by decide +kernel), List.mem_of_getElem? (i := 1404) (by decide +kernel), List.mem_of_getElem? (i := 1405) (by decide +kernel)⟩
theorem lw_p33 : lw_okq (⟨"DriftCardsModel", "parses", "()Z"⟩, 59) := ⟨⟨by decide +kernel, by decide +kernel⟩, List.mem_of_getElem? (i := 995) (by decide +kernel), List.mem_of_getElem? (i := 1418) (by decide +kernel), List.mem_of_getElem? (i := 1419) (by decide +kernel)⟩
theorem lw_p34 : lw_okq (⟨"DriftCardsModel", "word", "(II)I"⟩, 59) := ⟨⟨by decide +kernel, by decide +kernel⟩, List.mem_of_getElem? (i := 995) (by decide +kernel), List.mem_of_getElem? (i := 1422) (by decide +kernel), List.mem_of_getElem? (i := 1423) (by decide +kernel)⟩
theorem lw_p35 : lw_okq (⟨"DriftCardsModel", "sign", "()I"⟩, 59) := ⟨⟨by decide +kernel, by decide +kernel⟩, List.mem_of_getElem? (i := 995) (by decide +kernel), List.mem_of_getElem? (i := 1429) (by decide +kernel), List.mem_of_getElem? (i := 1430) (by decide +kernel)⟩
theorem lw_p36 : lw_okq (⟨"DriftCardsModel", "takes", "(I)Z"⟩, 59) := ⟨⟨by decide +kernel, by decide +kernel⟩, List.mem_of_getElem? (i := 995) (by decide +kernel), List.mem_of_getElem? (i := 1433) (by decide +kernel), List.mem_of_getElem? (i := 1434) (by decide +kernel)⟩
theorem lw_p37 : lw_okq (⟨"DriftCardsModel", "number", "()Z"⟩, 59) := ⟨⟨by decide +kernel, by decide +kernel⟩, List.mem_of_getElem? (i := 995) (by decide +kernel), List.mem_of_getElem? (i := 1437) (by decide +kernel), List.mem_of_getElem? (i := 1438) (by decide +kernel)⟩
theorem lw_p38 : lw_okq (⟨"DriftCardsModel", "test", "(I)Z"⟩, 59) := ⟨⟨by decide +kernel, by decide +kernel⟩, List.mem_of_getElem? (i := 995) (by decide +kernel), List.mem_of_getElem? (i := 1444) (by decide +kernel), List.mem_of_getElem? (i := 1445) (by decide +kernel)⟩
theorem lw_p39 : lw_okq (⟨"DriftCardsModel", "paid", "(I)I"⟩, 59) := ⟨⟨by decide +kernel, by decide +kernel⟩, List.mem_of_getElem? (i := 995) (by decide +kernel), List.mem_of_getElem? (i := 1452) (by decide +kernel), List.mem_of_getElem? (i := 1453) (by decide +kernel)⟩
theorem lw_p40 : lw_okq (⟨"DriftCardsModel", "field", "(III)I"⟩, 59) := ⟨⟨by decide +kernel, by decide +kernel⟩, List.mem_of_getElem? (i := 995) (by decide +kernel), List.mem_of_getElem? (i := 1456) (by decide +kernel), List.mem_of_getElem? (i := 1457) (by decide +kernel)⟩
def lw_privs_3 : List (MethodName × Nat) := [(⟨"DriftCardsModel", "foundAll", "(IIIII)V"⟩, 59), (⟨"DriftCardsModel", "parses", "()Z"⟩, 59), (⟨"DriftCardsModel", "word", "(II)I"⟩, 59), (⟨"DriftCardsModel", "sign", "()I"⟩, 59), (⟨"DriftCardsModel", "takes", "(I)Z"⟩, 59), (⟨"DriftCardsModel", "number", "()Z"⟩, 59), (⟨"DriftCardsModel", "test", "(I)Z"⟩, 59), (⟨"DriftCardsModel", "paid", "(I)I"⟩, 59), (⟨"DriftCardsModel", "field", "(III)I"⟩, 59)]
theorem lw_r3 : ∀ q ∈ lw_privs_3, lw_okq q := List.forall_mem_cons.mpr ⟨lw_p32, List.forall_mem_cons.mpr ⟨lw_p33, List.forall_mem_cons.mpr ⟨lw_p34, List.forall_mem_cons.mpr ⟨lw_p35, List.forall_mem_cons.mpr ⟨lw_p36, List.forall_mem_cons.mpr ⟨lw_p37, List.forall_mem_cons.mpr ⟨lw_p38, List.forall_mem_cons.mpr ⟨lw_p39, List.forall_mem_cons.mpr ⟨lw_p40, fun _ h => absurd h List.not_mem_nil⟩⟩⟩⟩⟩⟩⟩⟩⟩
def lw_privs : List (MethodName × Nat) := lw_privs_1 ++ (lw_privs_2 ++ (lw_privs_3))
def lw_tbl : List Cond := k2_sels lw_privs ++ tables_1
theorem lw_privs_ok : ∀ q ∈ lw_privs, lw_okq q := by
  show ∀ q ∈ lw_privs_1 ++ (lw_privs_2 ++ (lw_privs_3)), lw_okq q
  exact List.forall_mem_append.mpr ⟨lw_r1, List.forall_mem_append.mpr ⟨lw_r2, lw_r3⟩⟩
def RX0 : String := "DriftCards$Casts"
def TX0 : u_T := fun k => match k with
  | 0 => ("DriftCards$Casts", "kind", "[I", true)
  | 1 => ("DriftCards$Casts", "first", "[I", true)
  | 2 => ("DriftCards$Casts", "many", "[I", true)
  | 3 => ("DriftCards$Casts", "month", "[I", true)
  | 4 => ("DriftCards$Casts", "place", "[I", true)
  | 5 => ("DriftCards$Casts", "caster", "[I", true)
  | 6 => ("DriftCards$Casts", "sinks", "[I", true)
  | _ => ("DriftCards$Casts", "size", "I", false)
def tyX0 : Nat → FieldType := fun k => match k with
  | 0 => .array .int
  | 1 => .array .int
  | 2 => .array .int
  | 3 => .array .int
  | 4 => .array .int
  | 5 => .array .int
  | 6 => .array .int
  | _ => .int
abbrev wsX00 : List Cond := u_ws RX0 TX0 8
theorem nmX0 : ∀ a, a < 8 → ∀ b, b < 8 → a ≠ b → (TX0 a).2.1 ≠ (TX0 b).2.1 := by decide +kernel
theorem tyX0_ok : ∀ k, k < 8 → parseFieldDescriptor (TX0 k).2.2.1 = some (tyX0 k) := by decide +kernel
abbrev cX0_init : ByteArray := prog_2_method_1_code
def yX0_init : MethodName := ⟨RX0, "<init>", "()V"⟩
abbrev cX0_add : ByteArray := prog_2_method_2_code
def yX0_add : MethodName := ⟨RX0, "add", "(IIIIIII)I"⟩
abbrev cX0_hasNumbers : ByteArray := prog_2_method_3_code
def yX0_hasNumbers : MethodName := ⟨RX0, "hasNumbers", "(III)Z"⟩
abbrev cX0_allCards : ByteArray := prog_2_method_4_code
def yX0_allCards : MethodName := ⟨RX0, "allCards", "()I"⟩
def RX1 : String := "DriftCards$Drift"
def TX1 : u_T := fun k => match k with
  | 0 => ("DriftCards$Drift", "sea", "LDriftCards$Sea;", true)
  | 1 => ("DriftCards$Drift", "water", "[I", true)
  | 2 => ("DriftCards$Drift", "coming", "[I", true)
  | 3 => ("DriftCards$Drift", "ashore", "[I", true)
  | 4 => ("DriftCards$Drift", "found", "[I", true)
  | 5 => ("DriftCards$Drift", "shift", "[I", true)
  | 6 => ("DriftCards$Drift", "kind", "I", false)
  | 7 => ("DriftCards$Drift", "castMonth", "I", false)
  | 8 => ("DriftCards$Drift", "sinks", "I", false)
  | 9 => ("DriftCards$Drift", "gone", "I", false)
  | 10 => ("DriftCards$Drift", "eastWind", "I", false)
  | 11 => ("DriftCards$Drift", "northWind", "I", false)
  | 12 => ("DriftCards$Drift", "buried", "I", false)
  | 13 => ("DriftCards$Drift", "lost", "I", false)
  | _ => ("DriftCards$Drift", "sunk", "I", false)
def tyX1 : Nat → FieldType := fun k => match k with
  | 0 => .object "DriftCards$Sea"
  | 1 => .array .int
  | 2 => .array .int
  | 3 => .array .int
  | 4 => .array .int
  | 5 => .array .int
  | 6 => .int
  | 7 => .int
  | 8 => .int
  | 9 => .int
  | 10 => .int
  | 11 => .int
  | 12 => .int
  | 13 => .int
  | _ => .int
abbrev wsX10 : List Cond := u_ws RX1 TX1 15
theorem nmX1 : ∀ a, a < 15 → ∀ b, b < 15 → a ≠ b → (TX1 a).2.1 ≠ (TX1 b).2.1 := by decide +kernel
theorem tyX1_ok : ∀ k, k < 15 → parseFieldDescriptor (TX1 k).2.2.1 = some (tyX1 k) := by decide +kernel
abbrev cX1_init : ByteArray := prog_3_method_1_code
def yX1_init : MethodName := ⟨RX1, "<init>", "(LDriftCards$Sea;)V"⟩
abbrev cX1_startCast : ByteArray := prog_3_method_2_code
def yX1_startCast : MethodName := ⟨RX1, "startCast", "(LDriftCards$Casts;I[I)V"⟩
abbrev cX1_start : ByteArray := prog_3_method_3_code
def yX1_start : MethodName := ⟨RX1, "start", "(IIII[I)V"⟩
abbrev cX1_goOn : ByteArray := prog_3_method_4_code
def yX1_goOn : MethodName := ⟨RX1, "goOn", "(I)V"⟩
abbrev cX1_sinkAll : ByteArray := prog_3_method_5_code
def yX1_sinkAll : MethodName := ⟨RX1, "sinkAll", "()V"⟩
abbrev cX1_goInWater : ByteArray := prog_3_method_6_code
def yX1_goInWater : MethodName := ⟨RX1, "goInWater", "(I)V"⟩
abbrev cX1_asItFloats : ByteArray := prog_3_method_7_code
def yX1_asItFloats : MethodName := ⟨RX1, "asItFloats", "(I)I"⟩
abbrev cX1_goFrom : ByteArray := prog_3_method_8_code
def yX1_goFrom : MethodName := ⟨RX1, "goFrom", "(II)V"⟩
abbrev cX1_send : ByteArray := prog_3_method_9_code
def yX1_send : MethodName := ⟨RX1, "send", "(IIII)V"⟩
abbrev cX1_beWalked : ByteArray := prog_3_method_10_code
def yX1_beWalked : MethodName := ⟨RX1, "beWalked", "()V"⟩
abbrev cX1_meets : ByteArray := prog_3_method_11_code
def yX1_meets : MethodName := ⟨RX1, "meets", "(LDriftCards$Drift;)Z"⟩
abbrev cX1_allParts : ByteArray := prog_3_method_12_code
def yX1_allParts : MethodName := ⟨RX1, "allParts", "(I)I"⟩
abbrev cX1_partsIn : ByteArray := prog_3_method_13_code
def yX1_partsIn : MethodName := ⟨RX1, "partsIn", "(II)I"⟩
abbrev cX1_foundIn : ByteArray := prog_3_method_14_code
def yX1_foundIn : MethodName := ⟨RX1, "foundIn", "(I)I"⟩
abbrev cX1_sumOf : ByteArray := prog_3_method_15_code
def yX1_sumOf : MethodName := ⟨RX1, "sumOf", "([I)I"⟩
def RX2 : String := "DriftCards$Finds"
def TX2 : u_T := fun k => match k with
  | 0 => ("DriftCards$Finds", "row", "[I", true)
  | 1 => ("DriftCards$Finds", "caster", "[I", true)
  | 2 => ("DriftCards$Finds", "name", "[I", true)
  | 3 => ("DriftCards$Finds", "from", "[I", true)
  | 4 => ("DriftCards$Finds", "to", "[I", true)
  | 5 => ("DriftCards$Finds", "toldAt", "[I", true)
  | 6 => ("DriftCards$Finds", "out", "[Z", true)
  | _ => ("DriftCards$Finds", "size", "I", false)
def tyX2 : Nat → FieldType := fun k => match k with
  | 0 => .array .int
  | 1 => .array .int
  | 2 => .array .int
  | 3 => .array .int
  | 4 => .array .int
  | 5 => .array .int
  | 6 => .array .boolean
  | _ => .int
abbrev wsX20 : List Cond := u_ws RX2 TX2 8
theorem nmX2 : ∀ a, a < 8 → ∀ b, b < 8 → a ≠ b → (TX2 a).2.1 ≠ (TX2 b).2.1 := by decide +kernel
theorem tyX2_ok : ∀ k, k < 8 → parseFieldDescriptor (TX2 k).2.2.1 = some (tyX2 k) := by decide +kernel
abbrev cX2_init : ByteArray := prog_4_method_1_code
def yX2_init : MethodName := ⟨RX2, "<init>", "()V"⟩
abbrev cX2_add : ByteArray := prog_4_method_2_code
def yX2_add : MethodName := ⟨RX2, "add", "(IIIIII)I"⟩
abbrev cX2_twinOf : ByteArray := prog_4_method_3_code
def yX2_twinOf : MethodName := ⟨RX2, "twinOf", "(I)I"⟩
abbrev cX2_isAllRead : ByteArray := prog_4_method_4_code
def yX2_isAllRead : MethodName := ⟨RX2, "isAllRead", "(I)Z"⟩
abbrev cX2_allOut : ByteArray := prog_4_method_5_code
def yX2_allOut : MethodName := ⟨RX2, "allOut", "()I"⟩
def RX3 : String := "DriftCards$Fitting"
def TX3 : u_T := fun k => match k with
  | 0 => ("DriftCards$Fitting", "sea", "LDriftCards$Sea;", true)
  | 1 => ("DriftCards$Fitting", "casts", "LDriftCards$Casts;", true)
  | 2 => ("DriftCards$Fitting", "names", "LDriftCards$Names;", true)
  | 3 => ("DriftCards$Fitting", "finds", "LDriftCards$Finds;", true)
  | 4 => ("DriftCards$Fitting", "landings", "LDriftCards$Landings;", true)
  | 5 => ("DriftCards$Fitting", "reading", "LDriftCards$Reading;", true)
  | 6 => ("DriftCards$Fitting", "drift", "LDriftCards$Drift;", true)
  | 7 => ("DriftCards$Fitting", "trial", "[I", true)
  | 8 => ("DriftCards$Fitting", "due", "[[I", true)
  | 9 => ("DriftCards$Fitting", "dueAt", "[I", true)
  | 10 => ("DriftCards$Fitting", "gotThere", "[I", true)
  | _ => ("DriftCards$Fitting", "kept", "[I", true)
def tyX3 : Nat → FieldType := fun k => match k with
  | 0 => .object "DriftCards$Sea"
  | 1 => .object "DriftCards$Casts"
  | 2 => .object "DriftCards$Names"
  | 3 => .object "DriftCards$Finds"
  | 4 => .object "DriftCards$Landings"
  | 5 => .object "DriftCards$Reading"
  | 6 => .object "DriftCards$Drift"
  | 7 => .array .int
  | 8 => .array (.array .int)
  | 9 => .array .int
  | 10 => .array .int
  | _ => .array .int
abbrev wsX30 : List Cond := u_ws RX3 TX3 12
theorem nmX3 : ∀ a, a < 12 → ∀ b, b < 12 → a ≠ b → (TX3 a).2.1 ≠ (TX3 b).2.1 := by decide +kernel
theorem tyX3_ok : ∀ k, k < 12 → parseFieldDescriptor (TX3 k).2.2.1 = some (tyX3 k) := by decide +kernel
abbrev cX3_init : ByteArray := prog_5_method_1_code
def yX3_init : MethodName := ⟨RX3, "<init>", "(LDriftCards$Sea;LDriftCards$Casts;LDriftCards$Names;LDriftCards$Finds;LDriftCards$Landings;LDriftCards$Reading;LDriftCards$Drift;)V"⟩
abbrev cX3_shiftsTold : ByteArray := prog_5_method_2_code
def yX3_shiftsTold : MethodName := ⟨RX3, "shiftsTold", "()I"⟩
abbrev cX3_refreshAll : ByteArray := prog_5_method_3_code
def yX3_refreshAll : MethodName := ⟨RX3, "refreshAll", "()V"⟩
abbrev cX3_refreshOne : ByteArray := prog_5_method_4_code
def yX3_refreshOne : MethodName := ⟨RX3, "refreshOne", "(I)V"⟩
abbrev cX3_slotOf : ByteArray := prog_5_method_5_code
def yX3_slotOf : MethodName := ⟨RX3, "slotOf", "(II)I"⟩
abbrev cX3_countGot : ByteArray := prog_5_method_6_code
def yX3_countGot : MethodName := ⟨RX3, "countGot", "()V"⟩
abbrev cX3_missedWith : ByteArray := prog_5_method_7_code
def yX3_missedWith : MethodName := ⟨RX3, "missedWith", "(I)J"⟩
abbrev cX3_leastMissed : ByteArray := prog_5_method_8_code
def yX3_leastMissed : MethodName := ⟨RX3, "leastMissed", "()I"⟩
abbrev cX3_turnsOf : ByteArray := prog_5_method_9_code
def yX3_turnsOf : MethodName := ⟨RX3, "turnsOf", "(I)I"⟩
abbrev cX3_tryDrift : ByteArray := prog_5_method_10_code
def yX3_tryDrift : MethodName := ⟨RX3, "tryDrift", "(IIIII)V"⟩
abbrev cX3_keepFound : ByteArray := prog_5_method_11_code
def yX3_keepFound : MethodName := ⟨RX3, "keepFound", "()V"⟩
abbrev cX3_offFromKept : ByteArray := prog_5_method_12_code
def yX3_offFromKept : MethodName := ⟨RX3, "offFromKept", "()I"⟩
def RX4 : String := "DriftCards$Landings"
def TX4 : u_T := fun k => match k with
  | 0 => ("DriftCards$Landings", "sea", "LDriftCards$Sea;", true)
  | 1 => ("DriftCards$Landings", "casts", "LDriftCards$Casts;", true)
  | 2 => ("DriftCards$Landings", "drift", "LDriftCards$Drift;", true)
  | 3 => ("DriftCards$Landings", "found", "[[I", true)
  | _ => ("DriftCards$Landings", "keptAt", "I", false)
def tyX4 : Nat → FieldType := fun k => match k with
  | 0 => .object "DriftCards$Sea"
  | 1 => .object "DriftCards$Casts"
  | 2 => .object "DriftCards$Drift"
  | 3 => .array (.array .int)
  | _ => .int
abbrev wsX40 : List Cond := u_ws RX4 TX4 5
theorem nmX4 : ∀ a, a < 5 → ∀ b, b < 5 → a ≠ b → (TX4 a).2.1 ≠ (TX4 b).2.1 := by decide +kernel
theorem tyX4_ok : ∀ k, k < 5 → parseFieldDescriptor (TX4 k).2.2.1 = some (tyX4 k) := by decide +kernel
abbrev cX4_init : ByteArray := prog_6_method_1_code
def yX4_init : MethodName := ⟨RX4, "<init>", "(LDriftCards$Sea;LDriftCards$Casts;LDriftCards$Drift;)V"⟩
abbrev cX4_refresh : ByteArray := prog_6_method_2_code
def yX4_refresh : MethodName := ⟨RX4, "refresh", "()V"⟩
def RX5 : String := "DriftCards$Names"
def TX5 : u_T := fun k => match k with
  | 0 => ("DriftCards$Names", "x0", "[I", true)
  | 1 => ("DriftCards$Names", "x1", "[I", true)
  | 2 => ("DriftCards$Names", "y0", "[I", true)
  | 3 => ("DriftCards$Names", "y1", "[I", true)
  | 4 => ("DriftCards$Names", "tongue", "[I", true)
  | _ => ("DriftCards$Names", "size", "I", false)
def tyX5 : Nat → FieldType := fun k => match k with
  | 0 => .array .int
  | 1 => .array .int
  | 2 => .array .int
  | 3 => .array .int
  | 4 => .array .int
  | _ => .int
abbrev wsX50 : List Cond := u_ws RX5 TX5 6
theorem nmX5 : ∀ a, a < 6 → ∀ b, b < 6 → a ≠ b → (TX5 a).2.1 ≠ (TX5 b).2.1 := by decide +kernel
theorem tyX5_ok : ∀ k, k < 6 → parseFieldDescriptor (TX5 k).2.2.1 = some (tyX5 k) := by decide +kernel
abbrev cX5_init : ByteArray := prog_7_method_1_code
def yX5_init : MethodName := ⟨RX5, "<init>", "()V"⟩
abbrev cX5_add : ByteArray := prog_7_method_2_code
def yX5_add : MethodName := ⟨RX5, "add", "(IIIII)I"⟩
abbrev cX5_stepsFrom : ByteArray := prog_7_method_3_code
def yX5_stepsFrom : MethodName := ⟨RX5, "stepsFrom", "(II)I"⟩
abbrev cX5_stepsInto : ByteArray := prog_7_method_4_code
def yX5_stepsInto : MethodName := ⟨RX5, "stepsInto", "(III)I"⟩
abbrev cX5_foundWithin : ByteArray := prog_7_method_5_code
def yX5_foundWithin : MethodName := ⟨RX5, "foundWithin", "([IIII)I"⟩
def RX6 : String := "DriftCards$Prizes"
def TX6 : u_T := fun k => match k with
  | 0 => ("DriftCards$Prizes", "worth", "[I", true)
  | 1 => ("DriftCards$Prizes", "tests", "[I", true)
  | 2 => ("DriftCards$Prizes", "isNot", "[Z", true)
  | 3 => ("DriftCards$Prizes", "field", "[I", true)
  | 4 => ("DriftCards$Prizes", "sign", "[I", true)
  | 5 => ("DriftCards$Prizes", "number", "[I", true)
  | 6 => ("DriftCards$Prizes", "fact", "[I", true)
  | _ => ("DriftCards$Prizes", "size", "I", false)
def tyX6 : Nat → FieldType := fun k => match k with
  | 0 => .array .int
  | 1 => .array .int
  | 2 => .array .boolean
  | 3 => .array .int
  | 4 => .array .int
  | 5 => .array .int
  | 6 => .array .int
  | _ => .int
abbrev wsX60 : List Cond := u_ws RX6 TX6 8
theorem nmX6 : ∀ a, a < 8 → ∀ b, b < 8 → a ≠ b → (TX6 a).2.1 ≠ (TX6 b).2.1 := by decide +kernel
theorem tyX6_ok : ∀ k, k < 8 → parseFieldDescriptor (TX6 k).2.2.1 = some (tyX6 k) := by decide +kernel
abbrev cX6_init : ByteArray := prog_8_method_1_code
def yX6_init : MethodName := ⟨RX6, "<init>", "()V"⟩
abbrev cX6_readFrom : ByteArray := prog_8_method_2_code
def yX6_readFrom : MethodName := ⟨RX6, "readFrom", "(LDriftCards$Tape;)Z"⟩
abbrev cX6_readTest : ByteArray := prog_8_method_3_code
def yX6_readTest : MethodName := ⟨RX6, "readTest", "(LDriftCards$Tape;I)Z"⟩
abbrev cX6_readField : ByteArray := prog_8_method_4_code
def yX6_readField : MethodName := ⟨RX6, "readField", "(LDriftCards$Tape;)I"⟩
abbrev cX6_readSign : ByteArray := prog_8_method_5_code
def yX6_readSign : MethodName := ⟨RX6, "readSign", "(LDriftCards$Tape;)I"⟩
abbrev cX6_keepRead : ByteArray := prog_8_method_6_code
def yX6_keepRead : MethodName := ⟨RX6, "keepRead", "()I"⟩
abbrev cX6_worthOfFacts : ByteArray := prog_8_method_7_code
def yX6_worthOfFacts : MethodName := ⟨RX6, "worthOfFacts", "()I"⟩
abbrev cX6_holds : ByteArray := prog_8_method_8_code
def yX6_holds : MethodName := ⟨RX6, "holds", "(I)Z"⟩
abbrev cX6_isTrue : ByteArray := prog_8_method_9_code
def yX6_isTrue : MethodName := ⟨RX6, "isTrue", "(I)Z"⟩
def RX7 : String := "DriftCards$Reading"
def TX7 : u_T := fun k => match k with
  | 0 => ("DriftCards$Reading", "casts", "LDriftCards$Casts;", true)
  | 1 => ("DriftCards$Reading", "names", "LDriftCards$Names;", true)
  | 2 => ("DriftCards$Reading", "finds", "LDriftCards$Finds;", true)
  | 3 => ("DriftCards$Reading", "landings", "LDriftCards$Landings;", true)
  | _ => ("DriftCards$Reading", "cardsThatFit", "[[I", true)
def tyX7 : Nat → FieldType := fun k => match k with
  | 0 => .object "DriftCards$Casts"
  | 1 => .object "DriftCards$Names"
  | 2 => .object "DriftCards$Finds"
  | 3 => .object "DriftCards$Landings"
  | _ => .array (.array .int)
abbrev wsX70 : List Cond := u_ws RX7 TX7 5
theorem nmX7 : ∀ a, a < 5 → ∀ b, b < 5 → a ≠ b → (TX7 a).2.1 ≠ (TX7 b).2.1 := by decide +kernel
theorem tyX7_ok : ∀ k, k < 5 → parseFieldDescriptor (TX7 k).2.2.1 = some (tyX7 k) := by decide +kernel
abbrev cX7_init : ByteArray := prog_9_method_1_code
def yX7_init : MethodName := ⟨RX7, "<init>", "(LDriftCards$Casts;LDriftCards$Names;LDriftCards$Finds;LDriftCards$Landings;)V"⟩
abbrev cX7_matchCast : ByteArray := prog_9_method_2_code
def yX7_matchCast : MethodName := ⟨RX7, "matchCast", "(I)V"⟩
abbrev cX7_matchFind : ByteArray := prog_9_method_3_code
def yX7_matchFind : MethodName := ⟨RX7, "matchFind", "(I)V"⟩
abbrev cX7_countCards : ByteArray := prog_9_method_4_code
def yX7_countCards : MethodName := ⟨RX7, "countCards", "(II)I"⟩
abbrev cX7_agrees : ByteArray := prog_9_method_5_code
def yX7_agrees : MethodName := ⟨RX7, "agrees", "(II)Z"⟩
abbrev cX7_cardsOf : ByteArray := prog_9_method_6_code
def yX7_cardsOf : MethodName := ⟨RX7, "cardsOf", "(II)I"⟩
abbrev cX7_weightOf : ByteArray := prog_9_method_7_code
def yX7_weightOf : MethodName := ⟨RX7, "weightOf", "(II)I"⟩
abbrev cX7_bestOf : ByteArray := prog_9_method_8_code
def yX7_bestOf : MethodName := ⟨RX7, "bestOf", "(I)I"⟩
abbrev cX7_verdictOf : ByteArray := prog_9_method_9_code
def yX7_verdictOf : MethodName := ⟨RX7, "verdictOf", "(I)I"⟩
abbrev cX7_castGot : ByteArray := prog_9_method_10_code
def yX7_castGot : MethodName := ⟨RX7, "castGot", "(I)I"⟩
def RX8 : String := "DriftCards$Sea"
def TX8 : u_T := fun k => match k with
  | 0 => ("DriftCards$Sea", "marks", "[[I", true)
  | 1 => ("DriftCards$Sea", "eastFrom", "[I", true)
  | 2 => ("DriftCards$Sea", "eastTo", "[I", true)
  | 3 => ("DriftCards$Sea", "northFrom", "[I", true)
  | 4 => ("DriftCards$Sea", "northTo", "[I", true)
  | 5 => ("DriftCards$Sea", "windEast", "[I", true)
  | 6 => ("DriftCards$Sea", "windNorth", "[I", true)
  | 7 => ("DriftCards$Sea", "rowTold", "[Z", true)
  | 8 => ("DriftCards$Sea", "rowEast", "[I", true)
  | 9 => ("DriftCards$Sea", "rowNorth", "[I", true)
  | 10 => ("DriftCards$Sea", "shift", "[I", true)
  | _ => ("DriftCards$Sea", "changes", "I", false)
def tyX8 : Nat → FieldType := fun k => match k with
  | 0 => .array (.array .int)
  | 1 => .array .int
  | 2 => .array .int
  | 3 => .array .int
  | 4 => .array .int
  | 5 => .array .int
  | 6 => .array .int
  | 7 => .array .boolean
  | 8 => .array .int
  | 9 => .array .int
  | 10 => .array .int
  | _ => .int
abbrev wsX80 : List Cond := u_ws RX8 TX8 12
theorem nmX8 : ∀ a, a < 12 → ∀ b, b < 12 → a ≠ b → (TX8 a).2.1 ≠ (TX8 b).2.1 := by decide +kernel
theorem tyX8_ok : ∀ k, k < 12 → parseFieldDescriptor (TX8 k).2.2.1 = some (tyX8 k) := by decide +kernel
abbrev cX8_init : ByteArray := prog_10_method_1_code
def yX8_init : MethodName := ⟨RX8, "<init>", "()V"⟩
abbrev cX8_putMarks : ByteArray := prog_10_method_2_code
def yX8_putMarks : MethodName := ⟨RX8, "putMarks", "(IIIII)I"⟩
abbrev cX8_putCurrent : ByteArray := prog_10_method_3_code
def yX8_putCurrent : MethodName := ⟨RX8, "putCurrent", "(III)V"⟩
abbrev cX8_putWind : ByteArray := prog_10_method_4_code
def yX8_putWind : MethodName := ⟨RX8, "putWind", "(III)V"⟩
abbrev cX8_putRow : ByteArray := prog_10_method_5_code
def yX8_putRow : MethodName := ⟨RX8, "putRow", "(IZII)I"⟩
abbrev cX8_eastWindIn : ByteArray := prog_10_method_6_code
def yX8_eastWindIn : MethodName := ⟨RX8, "eastWindIn", "(I)I"⟩
abbrev cX8_northWindIn : ByteArray := prog_10_method_7_code
def yX8_northWindIn : MethodName := ⟨RX8, "northWindIn", "(I)I"⟩
abbrev cX8_isWater : ByteArray := prog_10_method_8_code
def yX8_isWater : MethodName := ⟨RX8, "isWater", "(I)Z"⟩
abbrev cX8_isIcy : ByteArray := prog_10_method_9_code
def yX8_isIcy : MethodName := ⟨RX8, "isIcy", "(II)Z"⟩
def RX9 : String := "DriftCards$Tape"
def TX9 : u_T := fun k => match k with
  | 0 => ("DriftCards$Tape", "bytes", "[I", true)
  | 1 => ("DriftCards$Tape", "size", "I", false)
  | _ => ("DriftCards$Tape", "at", "I", false)
def tyX9 : Nat → FieldType := fun k => match k with
  | 0 => .array .int
  | 1 => .int
  | _ => .int
abbrev wsX90 : List Cond := u_ws RX9 TX9 3
theorem nmX9 : ∀ a, a < 3 → ∀ b, b < 3 → a ≠ b → (TX9 a).2.1 ≠ (TX9 b).2.1 := by decide +kernel
theorem tyX9_ok : ∀ k, k < 3 → parseFieldDescriptor (TX9 k).2.2.1 = some (tyX9 k) := by decide +kernel
abbrev cX9_init : ByteArray := prog_11_method_1_code
def yX9_init : MethodName := ⟨RX9, "<init>", "()V"⟩
abbrev cX9_append : ByteArray := prog_11_method_2_code
def yX9_append : MethodName := ⟨RX9, "append", "(JI)I"⟩
abbrev cX9_empty : ByteArray := prog_11_method_3_code
def yX9_empty : MethodName := ⟨RX9, "empty", "()V"⟩
abbrev cX9_isAtEnd : ByteArray := prog_11_method_4_code
def yX9_isAtEnd : MethodName := ⟨RX9, "isAtEnd", "()Z"⟩
abbrev cX9_isAt : ByteArray := prog_11_method_5_code
def yX9_isAt : MethodName := ⟨RX9, "isAt", "(I)Z"⟩
abbrev cX9_take : ByteArray := prog_11_method_6_code
def yX9_take : MethodName := ⟨RX9, "take", "(I)Z"⟩
abbrev cX9_takeWord : ByteArray := prog_11_method_7_code
def yX9_takeWord : MethodName := ⟨RX9, "takeWord", "(Ljava/lang/String;)Z"⟩
abbrev cX9_takeNumber : ByteArray := prog_11_method_8_code
def yX9_takeNumber : MethodName := ⟨RX9, "takeNumber", "()I"⟩
def RX10 : String := "DriftCards"
def TX10 : u_T := fun k => match k with
  | 0 => ("DriftCards", "sea", "LDriftCards$Sea;", true)
  | 1 => ("DriftCards", "casts", "LDriftCards$Casts;", true)
  | 2 => ("DriftCards", "names", "LDriftCards$Names;", true)
  | 3 => ("DriftCards", "finds", "LDriftCards$Finds;", true)
  | 4 => ("DriftCards", "drift", "LDriftCards$Drift;", true)
  | 5 => ("DriftCards", "otherDrift", "LDriftCards$Drift;", true)
  | 6 => ("DriftCards", "landings", "LDriftCards$Landings;", true)
  | 7 => ("DriftCards", "reading", "LDriftCards$Reading;", true)
  | 8 => ("DriftCards", "fitting", "LDriftCards$Fitting;", true)
  | 9 => ("DriftCards", "tape", "LDriftCards$Tape;", true)
  | 10 => ("DriftCards", "prizes", "LDriftCards$Prizes;", true)
  | _ => ("DriftCards", "time", "I", false)
def tyX10 : Nat → FieldType := fun k => match k with
  | 0 => .object "DriftCards$Sea"
  | 1 => .object "DriftCards$Casts"
  | 2 => .object "DriftCards$Names"
  | 3 => .object "DriftCards$Finds"
  | 4 => .object "DriftCards$Drift"
  | 5 => .object "DriftCards$Drift"
  | 6 => .object "DriftCards$Landings"
  | 7 => .object "DriftCards$Reading"
  | 8 => .object "DriftCards$Fitting"
  | 9 => .object "DriftCards$Tape"
  | 10 => .object "DriftCards$Prizes"
  | _ => .int
abbrev wsX100 : List Cond := u_ws RX10 TX10 12
theorem nmX10 : ∀ a, a < 12 → ∀ b, b < 12 → a ≠ b → (TX10 a).2.1 ≠ (TX10 b).2.1 := by decide +kernel
theorem tyX10_ok : ∀ k, k < 12 → parseFieldDescriptor (TX10 k).2.2.1 = some (tyX10 k) := by decide +kernel
abbrev cX10_init : ByteArray := prog_1_method_1_code
def yX10_init : MethodName := ⟨RX10, "<init>", "()V"⟩
abbrev cX10_paint : ByteArray := prog_1_method_2_code
def yX10_paint : MethodName := ⟨RX10, "paint", "(IIIII)I"⟩
abbrev cX10_cell : ByteArray := prog_1_method_3_code
def yX10_cell : MethodName := ⟨RX10, "cell", "(III)I"⟩
abbrev cX10_current : ByteArray := prog_1_method_4_code
def yX10_current : MethodName := ⟨RX10, "current", "(IIII)I"⟩
abbrev cX10_wind : ByteArray := prog_1_method_5_code
def yX10_wind : MethodName := ⟨RX10, "wind", "(III)I"⟩
abbrev cX10_storm : ByteArray := prog_1_method_6_code
def yX10_storm : MethodName := ⟨RX10, "storm", "(III)I"⟩
abbrev cX10_calm : ByteArray := prog_1_method_7_code
def yX10_calm : MethodName := ⟨RX10, "calm", "(I)I"⟩
abbrev cX10_cast : ByteArray := prog_1_method_8_code
def yX10_cast : MethodName := ⟨RX10, "cast", "(IIIIII)I"⟩
abbrev cX10_about : ByteArray := prog_1_method_9_code
def yX10_about : MethodName := ⟨RX10, "about", "(II)I"⟩
abbrev cX10_parts : ByteArray := prog_1_method_10_code
def yX10_parts : MethodName := ⟨RX10, "parts", "(III)I"⟩
abbrev cX10_partsAt : ByteArray := prog_1_method_11_code
def yX10_partsAt : MethodName := ⟨RX10, "partsAt", "(IIIII)I"⟩
abbrev cX10_apart : ByteArray := prog_1_method_12_code
def yX10_apart : MethodName := ⟨RX10, "apart", "(II)I"⟩
abbrev cX10_name : ByteArray := prog_1_method_13_code
def yX10_name : MethodName := ⟨RX10, "name", "(III)I"⟩
abbrev cX10_find : ByteArray := prog_1_method_14_code
def yX10_find : MethodName := ⟨RX10, "find", "(IIIII)I"⟩
abbrev cX10_clock : ByteArray := prog_1_method_15_code
def yX10_clock : MethodName := ⟨RX10, "clock", "(I)I"⟩
abbrev cX10_drop : ByteArray := prog_1_method_16_code
def yX10_drop : MethodName := ⟨RX10, "drop", "(II)I"⟩
abbrev cX10_weight : ByteArray := prog_1_method_17_code
def yX10_weight : MethodName := ⟨RX10, "weight", "(II)I"⟩
abbrev cX10_judge : ByteArray := prog_1_method_18_code
def yX10_judge : MethodName := ⟨RX10, "judge", "(I)I"⟩
abbrev cX10_best : ByteArray := prog_1_method_19_code
def yX10_best : MethodName := ⟨RX10, "best", "(I)I"⟩
abbrev cX10_cards : ByteArray := prog_1_method_20_code
def yX10_cards : MethodName := ⟨RX10, "cards", "(I)I"⟩
abbrev cX10_twin : ByteArray := prog_1_method_21_code
def yX10_twin : MethodName := ⟨RX10, "twin", "(I)I"⟩
abbrev cX10_got : ByteArray := prog_1_method_22_code
def yX10_got : MethodName := ⟨RX10, "got", "(III)I"⟩
abbrev cX10_move : ByteArray := prog_1_method_23_code
def yX10_move : MethodName := ⟨RX10, "move", "(II)I"⟩
abbrev cX10_fit : ByteArray := prog_1_method_24_code
def yX10_fit : MethodName := ⟨RX10, "fit", "(I)I"⟩
abbrev cX10_misfit : ByteArray := prog_1_method_25_code
def yX10_misfit : MethodName := ⟨RX10, "misfit", "()J"⟩
abbrev cX10_misses : ByteArray := prog_1_method_26_code
def yX10_misses : MethodName := ⟨RX10, "misses", "()J"⟩
abbrev cX10_doubt : ByteArray := prog_1_method_27_code
def yX10_doubt : MethodName := ⟨RX10, "doubt", "(I)I"⟩
abbrev cX10_tells : ByteArray := prog_1_method_28_code
def yX10_tells : MethodName := ⟨RX10, "tells", "(IIII)I"⟩
abbrev cX10_feed : ByteArray := prog_1_method_29_code
def yX10_feed : MethodName := ⟨RX10, "feed", "(JI)I"⟩
abbrev cX10_prize : ByteArray := prog_1_method_30_code
def yX10_prize : MethodName := ⟨RX10, "prize", "()I"⟩
abbrev cX10_pays : ByteArray := prog_1_method_31_code
def yX10_pays : MethodName := ⟨RX10, "pays", "(I)I"⟩
abbrev cX10_purse : ByteArray := prog_1_method_32_code
def yX10_purse : MethodName := ⟨RX10, "purse", "(I)I"⟩
abbrev cX10_letters : ByteArray := prog_1_method_33_code
def yX10_letters : MethodName := ⟨RX10, "letters", "(II)I"⟩
abbrev cX10_count : ByteArray := prog_1_method_34_code
def yX10_count : MethodName := ⟨RX10, "count", "(I)I"⟩
abbrev cX10_payOf : ByteArray := prog_1_method_35_code
def yX10_payOf : MethodName := ⟨RX10, "payOf", "(I)I"⟩
abbrev cX10_isWithin : ByteArray := prog_1_method_36_code
def yX10_isWithin : MethodName := ⟨RX10, "isWithin", "(III)Z"⟩
abbrev cX10_isIndex : ByteArray := prog_1_method_37_code
def yX10_isIndex : MethodName := ⟨RX10, "isIndex", "(II)Z"⟩
abbrev cX10_isCell : ByteArray := prog_1_method_38_code
def yX10_isCell : MethodName := ⟨RX10, "isCell", "(II)Z"⟩
abbrev cX10_placeOf : ByteArray := prog_1_method_39_code
def yX10_placeOf : MethodName := ⟨RX10, "placeOf", "(II)I"⟩
abbrev cX10_isStrength : ByteArray := prog_1_method_40_code
def yX10_isStrength : MethodName := ⟨RX10, "isStrength", "(I)Z"⟩
abbrev cX10_isTime : ByteArray := prog_1_method_41_code
def yX10_isTime : MethodName := ⟨RX10, "isTime", "(I)Z"⟩
abbrev cX10_isSpan : ByteArray := prog_1_method_42_code
def yX10_isSpan : MethodName := ⟨RX10, "isSpan", "(I)Z"⟩
abbrev cX10_areNumbers : ByteArray := prog_1_method_43_code
def yX10_areNumbers : MethodName := ⟨RX10, "areNumbers", "(II)Z"⟩
abbrev cX10_isMore : ByteArray := prog_1_method_44_code
def yX10_isMore : MethodName := ⟨RX10, "isMore", "(II)Z"⟩
abbrev cX10_isRow : ByteArray := prog_1_method_45_code
def yX10_isRow : MethodName := ⟨RX10, "isRow", "(I)Z"⟩
abbrev cX10_digitOf : ByteArray := prog_1_method_46_code
def yX10_digitOf : MethodName := ⟨RX10, "digitOf", "(II)I"⟩
abbrev cX10_shiftIn : ByteArray := prog_1_method_47_code
def yX10_shiftIn : MethodName := ⟨RX10, "shiftIn", "(II)I"⟩
def RX11 : String := "DriftCardsModel"
def TX11 : u_T := fun k => match k with
  | 0 => ("DriftCardsModel", "what", "[I", true)
  | 1 => ("DriftCardsModel", "region", "[I", true)
  | 2 => ("DriftCardsModel", "sand", "[I", true)
  | 3 => ("DriftCardsModel", "walked", "[I", true)
  | 4 => ("DriftCardsModel", "ice", "[I", true)
  | 5 => ("DriftCardsModel", "eastFrom", "[I", true)
  | 6 => ("DriftCardsModel", "eastTo", "[I", true)
  | 7 => ("DriftCardsModel", "northFrom", "[I", true)
  | 8 => ("DriftCardsModel", "northTo", "[I", true)
  | 9 => ("DriftCardsModel", "shift", "[I", true)
  | 10 => ("DriftCardsModel", "windEast", "[I", true)
  | 11 => ("DriftCardsModel", "windNorth", "[I", true)
  | 12 => ("DriftCardsModel", "stormEast", "[I", true)
  | 13 => ("DriftCardsModel", "stormNorth", "[I", true)
  | 14 => ("DriftCardsModel", "isStorm", "[Z", true)
  | 15 => ("DriftCardsModel", "kind", "[I", true)
  | 16 => ("DriftCardsModel", "first", "[I", true)
  | 17 => ("DriftCardsModel", "many", "[I", true)
  | 18 => ("DriftCardsModel", "begin", "[I", true)
  | 19 => ("DriftCardsModel", "place", "[I", true)
  | 20 => ("DriftCardsModel", "caster", "[I", true)
  | 21 => ("DriftCardsModel", "sinks", "[I", true)
  | 22 => ("DriftCardsModel", "casts", "I", false)
  | 23 => ("DriftCardsModel", "water", "[I", true)
  | 24 => ("DriftCardsModel", "after", "[I", true)
  | 25 => ("DriftCardsModel", "ashore", "[I", true)
  | 26 => ("DriftCardsModel", "found", "[I", true)
  | 27 => ("DriftCardsModel", "buried", "I", false)
  | 28 => ("DriftCardsModel", "lost", "I", false)
  | 29 => ("DriftCardsModel", "sunk", "I", false)
  | 30 => ("DriftCardsModel", "has", "[Z", true)
  | 31 => ("DriftCardsModel", "x0", "[I", true)
  | 32 => ("DriftCardsModel", "x1", "[I", true)
  | 33 => ("DriftCardsModel", "y0", "[I", true)
  | 34 => ("DriftCardsModel", "y1", "[I", true)
  | 35 => ("DriftCardsModel", "tongue", "[I", true)
  | 36 => ("DriftCardsModel", "digits", "[I", true)
  | 37 => ("DriftCardsModel", "findCaster", "[I", true)
  | 38 => ("DriftCardsModel", "findName", "[I", true)
  | 39 => ("DriftCardsModel", "from", "[I", true)
  | 40 => ("DriftCardsModel", "to", "[I", true)
  | 41 => ("DriftCardsModel", "toldAt", "[I", true)
  | 42 => ("DriftCardsModel", "isOut", "[Z", true)
  | 43 => ("DriftCardsModel", "names", "I", false)
  | 44 => ("DriftCardsModel", "finds", "I", false)
  | 45 => ("DriftCardsModel", "time", "I", false)
  | 46 => ("DriftCardsModel", "sureFor", "[I", true)
  | 47 => ("DriftCardsModel", "wasShift", "[I", true)
  | 48 => ("DriftCardsModel", "bestShift", "[I", true)
  | 49 => ("DriftCardsModel", "bestMissed", "J", false)
  | 50 => ("DriftCardsModel", "base", "[I", true)
  | 51 => ("DriftCardsModel", "tape", "[I", true)
  | 52 => ("DriftCardsModel", "prize", "[I", true)
  | 53 => ("DriftCardsModel", "tests", "[I", true)
  | 54 => ("DriftCardsModel", "test", "[I", true)
  | 55 => ("DriftCardsModel", "taped", "I", false)
  | 56 => ("DriftCardsModel", "prizes", "I", false)
  | 57 => ("DriftCardsModel", "at", "I", false)
  | _ => ("DriftCardsModel", "number", "I", false)
def tyX11 : Nat → FieldType := fun k => match k with
  | 0 => .array .int
  | 1 => .array .int
  | 2 => .array .int
  | 3 => .array .int
  | 4 => .array .int
  | 5 => .array .int
  | 6 => .array .int
  | 7 => .array .int
  | 8 => .array .int
  | 9 => .array .int
  | 10 => .array .int
  | 11 => .array .int
  | 12 => .array .int
  | 13 => .array .int
  | 14 => .array .boolean
  | 15 => .array .int
  | 16 => .array .int
  | 17 => .array .int
  | 18 => .array .int
  | 19 => .array .int
  | 20 => .array .int
  | 21 => .array .int
  | 22 => .int
  | 23 => .array .int
  | 24 => .array .int
  | 25 => .array .int
  | 26 => .array .int
  | 27 => .int
  | 28 => .int
  | 29 => .int
  | 30 => .array .boolean
  | 31 => .array .int
  | 32 => .array .int
  | 33 => .array .int
  | 34 => .array .int
  | 35 => .array .int
  | 36 => .array .int
  | 37 => .array .int
  | 38 => .array .int
  | 39 => .array .int
  | 40 => .array .int
  | 41 => .array .int
  | 42 => .array .boolean
  | 43 => .int
  | 44 => .int
  | 45 => .int
  | 46 => .array .int
  | 47 => .array .int
  | 48 => .array .int
  | 49 => .long
  | 50 => .array .int
  | 51 => .array .int
  | 52 => .array .int
  | 53 => .array .int
  | 54 => .array .int
  | 55 => .int
  | 56 => .int
  | 57 => .int
  | _ => .int
abbrev wsX110 : List Cond := u_ws RX11 TX11 59
theorem nmX11 : ∀ a, a < 59 → ∀ b, b < 59 → a ≠ b → (TX11 a).2.1 ≠ (TX11 b).2.1 := by decide +kernel
theorem tyX11_ok : ∀ k, k < 59 → parseFieldDescriptor (TX11 k).2.2.1 = some (tyX11 k) := by decide +kernel
abbrev cX11_init : ByteArray := prog_13_method_1_code
def yX11_init : MethodName := ⟨RX11, "<init>", "()V"⟩
abbrev cX11_isIn : ByteArray := prog_13_method_2_code
def yX11_isIn : MethodName := ⟨RX11, "isIn", "(JJJ)Z"⟩
abbrev cX11_isCell : ByteArray := prog_13_method_3_code
def yX11_isCell : MethodName := ⟨RX11, "isCell", "(II)Z"⟩
abbrev cX11_greatest : ByteArray := prog_13_method_4_code
def yX11_greatest : MethodName := ⟨RX11, "greatest", "(I)I"⟩
abbrev cX11_told : ByteArray := prog_13_method_5_code
def yX11_told : MethodName := ⟨RX11, "told", "(II)I"⟩
abbrev cX11_tells : ByteArray := prog_13_method_6_code
def yX11_tells : MethodName := ⟨RX11, "tells", "(III)V"⟩
abbrev cX11_paint : ByteArray := prog_13_method_7_code
def yX11_paint : MethodName := ⟨RX11, "paint", "(IIIII)I"⟩
abbrev cX11_cell : ByteArray := prog_13_method_8_code
def yX11_cell : MethodName := ⟨RX11, "cell", "(III)I"⟩
abbrev cX11_isSpan : ByteArray := prog_13_method_9_code
def yX11_isSpan : MethodName := ⟨RX11, "isSpan", "(I)Z"⟩
abbrev cX11_current : ByteArray := prog_13_method_10_code
def yX11_current : MethodName := ⟨RX11, "current", "(IIII)I"⟩
abbrev cX11_wind : ByteArray := prog_13_method_11_code
def yX11_wind : MethodName := ⟨RX11, "wind", "(III)I"⟩
abbrev cX11_storm : ByteArray := prog_13_method_12_code
def yX11_storm : MethodName := ⟨RX11, "storm", "(III)I"⟩
abbrev cX11_calm : ByteArray := prog_13_method_13_code
def yX11_calm : MethodName := ⟨RX11, "calm", "(I)I"⟩
abbrev cX11_isCast : ByteArray := prog_13_method_14_code
def yX11_isCast : MethodName := ⟨RX11, "isCast", "(I)Z"⟩
abbrev cX11_cast : ByteArray := prog_13_method_15_code
def yX11_cast : MethodName := ⟨RX11, "cast", "(IIIIII)I"⟩
abbrev cX11_about : ByteArray := prog_13_method_16_code
def yX11_about : MethodName := ⟨RX11, "about", "(II)I"⟩
abbrev cX11_floats : ByteArray := prog_13_method_17_code
def yX11_floats : MethodName := ⟨RX11, "floats", "(II)I"⟩
abbrev cX11_goes : ByteArray := prog_13_method_18_code
def yX11_goes : MethodName := ⟨RX11, "goes", "(IIII)V"⟩
abbrev cX11_drifts : ByteArray := prog_13_method_19_code
def yX11_drifts : MethodName := ⟨RX11, "drifts", "(III)V"⟩
abbrev cX11_drift : ByteArray := prog_13_method_20_code
def yX11_drift : MethodName := ⟨RX11, "drift", "(IIIII)V"⟩
abbrev cX11_driftOf : ByteArray := prog_13_method_21_code
def yX11_driftOf : MethodName := ⟨RX11, "driftOf", "(II)V"⟩
abbrev cX11_sumOf : ByteArray := prog_13_method_22_code
def yX11_sumOf : MethodName := ⟨RX11, "sumOf", "([II)I"⟩
abbrev cX11_parts : ByteArray := prog_13_method_23_code
def yX11_parts : MethodName := ⟨RX11, "parts", "(III)I"⟩
abbrev cX11_partsAt : ByteArray := prog_13_method_24_code
def yX11_partsAt : MethodName := ⟨RX11, "partsAt", "(IIIII)I"⟩
abbrev cX11_apart : ByteArray := prog_13_method_25_code
def yX11_apart : MethodName := ⟨RX11, "apart", "(II)I"⟩
abbrev cX11_isName : ByteArray := prog_13_method_26_code
def yX11_isName : MethodName := ⟨RX11, "isName", "(I)Z"⟩
abbrev cX11_isFind : ByteArray := prog_13_method_27_code
def yX11_isFind : MethodName := ⟨RX11, "isFind", "(I)Z"⟩
abbrev cX11_name : ByteArray := prog_13_method_28_code
def yX11_name : MethodName := ⟨RX11, "name", "(III)I"⟩
abbrev cX11_isRow : ByteArray := prog_13_method_29_code
def yX11_isRow : MethodName := ⟨RX11, "isRow", "(I)Z"⟩
abbrev cX11_find : ByteArray := prog_13_method_30_code
def yX11_find : MethodName := ⟨RX11, "find", "(IIIII)I"⟩
abbrev cX11_clock : ByteArray := prog_13_method_31_code
def yX11_clock : MethodName := ⟨RX11, "clock", "(I)I"⟩
abbrev cX11_drop : ByteArray := prog_13_method_32_code
def yX11_drop : MethodName := ⟨RX11, "drop", "(II)I"⟩
abbrev cX11_cardsOf : ByteArray := prog_13_method_33_code
def yX11_cardsOf : MethodName := ⟨RX11, "cardsOf", "(II)I"⟩
abbrev cX11_foundIn : ByteArray := prog_13_method_34_code
def yX11_foundIn : MethodName := ⟨RX11, "foundIn", "(IIII)I"⟩
abbrev cX11_weightOf : ByteArray := prog_13_method_35_code
def yX11_weightOf : MethodName := ⟨RX11, "weightOf", "(II)I"⟩
abbrev cX11_weight : ByteArray := prog_13_method_36_code
def yX11_weight : MethodName := ⟨RX11, "weight", "(II)I"⟩
abbrev cX11_bestOf : ByteArray := prog_13_method_37_code
def yX11_bestOf : MethodName := ⟨RX11, "bestOf", "(I)I"⟩
abbrev cX11_judged : ByteArray := prog_13_method_38_code
def yX11_judged : MethodName := ⟨RX11, "judged", "(I)I"⟩
abbrev cX11_judge : ByteArray := prog_13_method_39_code
def yX11_judge : MethodName := ⟨RX11, "judge", "(I)I"⟩
abbrev cX11_best : ByteArray := prog_13_method_40_code
def yX11_best : MethodName := ⟨RX11, "best", "(I)I"⟩
abbrev cX11_cards : ByteArray := prog_13_method_41_code
def yX11_cards : MethodName := ⟨RX11, "cards", "(I)I"⟩
abbrev cX11_isKnown : ByteArray := prog_13_method_42_code
def yX11_isKnown : MethodName := ⟨RX11, "isKnown", "(I)Z"⟩
abbrev cX11_twinOf : ByteArray := prog_13_method_43_code
def yX11_twinOf : MethodName := ⟨RX11, "twinOf", "(I)I"⟩
abbrev cX11_twin : ByteArray := prog_13_method_44_code
def yX11_twin : MethodName := ⟨RX11, "twin", "(I)I"⟩
abbrev cX11_findSure : ByteArray := prog_13_method_45_code
def yX11_findSure : MethodName := ⟨RX11, "findSure", "()V"⟩
abbrev cX11_gotBy : ByteArray := prog_13_method_46_code
def yX11_gotBy : MethodName := ⟨RX11, "gotBy", "(IIII)I"⟩
abbrev cX11_got : ByteArray := prog_13_method_47_code
def yX11_got : MethodName := ⟨RX11, "got", "(III)I"⟩
abbrev cX11_missed : ByteArray := prog_13_method_48_code
def yX11_missed : MethodName := ⟨RX11, "missed", "(I)J"⟩
abbrev cX11_fits : ByteArray := prog_13_method_49_code
def yX11_fits : MethodName := ⟨RX11, "fits", "(I)V"⟩
abbrev cX11_move : ByteArray := prog_13_method_50_code
def yX11_move : MethodName := ⟨RX11, "move", "(II)I"⟩
abbrev cX11_fit : ByteArray := prog_13_method_51_code
def yX11_fit : MethodName := ⟨RX11, "fit", "(I)I"⟩
abbrev cX11_misfit : ByteArray := prog_13_method_52_code
def yX11_misfit : MethodName := ⟨RX11, "misfit", "()J"⟩
abbrev cX11_misses : ByteArray := prog_13_method_53_code
def yX11_misses : MethodName := ⟨RX11, "misses", "()J"⟩
abbrev cX11_doubt : ByteArray := prog_13_method_54_code
def yX11_doubt : MethodName := ⟨RX11, "doubt", "(I)I"⟩
abbrev cX11_foundAll : ByteArray := prog_13_method_55_code
def yX11_foundAll : MethodName := ⟨RX11, "foundAll", "(IIIII)V"⟩
abbrev cX11_tells_ : ByteArray := prog_13_method_56_code
def yX11_tells_ : MethodName := ⟨RX11, "tells", "(IIII)I"⟩
abbrev cX11_feed : ByteArray := prog_13_method_57_code
def yX11_feed : MethodName := ⟨RX11, "feed", "(JI)I"⟩
abbrev cX11_sign : ByteArray := prog_13_method_58_code
def yX11_sign : MethodName := ⟨RX11, "sign", "()I"⟩
abbrev cX11_signOf : ByteArray := prog_13_method_59_code
def yX11_signOf : MethodName := ⟨RX11, "signOf", "(II)I"⟩
abbrev cX11_word : ByteArray := prog_13_method_60_code
def yX11_word : MethodName := ⟨RX11, "word", "(II)I"⟩
abbrev cX11_takes : ByteArray := prog_13_method_61_code
def yX11_takes : MethodName := ⟨RX11, "takes", "(I)Z"⟩
abbrev cX11_isDigit : ByteArray := prog_13_method_62_code
def yX11_isDigit : MethodName := ⟨RX11, "isDigit", "(I)Z"⟩
abbrev cX11_number : ByteArray := prog_13_method_63_code
def yX11_number : MethodName := ⟨RX11, "number", "()Z"⟩
abbrev cX11_test : ByteArray := prog_13_method_64_code
def yX11_test : MethodName := ⟨RX11, "test", "(I)Z"⟩
abbrev cX11_parses : ByteArray := prog_13_method_65_code
def yX11_parses : MethodName := ⟨RX11, "parses", "()Z"⟩
abbrev cX11_prize : ByteArray := prog_13_method_66_code
def yX11_prize : MethodName := ⟨RX11, "prize", "()I"⟩
abbrev cX11_beyond : ByteArray := prog_13_method_67_code
def yX11_beyond : MethodName := ⟨RX11, "beyond", "(III)I"⟩
abbrev cX11_field : ByteArray := prog_13_method_68_code
def yX11_field : MethodName := ⟨RX11, "field", "(III)I"⟩
abbrev cX11_paid : ByteArray := prog_13_method_69_code
def yX11_paid : MethodName := ⟨RX11, "paid", "(I)I"⟩
abbrev cX11_pays : ByteArray := prog_13_method_70_code
def yX11_pays : MethodName := ⟨RX11, "pays", "(I)I"⟩
abbrev cX11_purse : ByteArray := prog_13_method_71_code
def yX11_purse : MethodName := ⟨RX11, "purse", "(I)I"⟩
abbrev cX11_letters : ByteArray := prog_13_method_72_code
def yX11_letters : MethodName := ⟨RX11, "letters", "(II)I"⟩
abbrev cX11_count : ByteArray := prog_13_method_73_code
def yX11_count : MethodName := ⟨RX11, "count", "(I)I"⟩
def RJ6 : String := "java/lang/Integer"
abbrev cJ6_signum_0f7a4 : ByteArray := prog_14_method_56_code
def yJ6_signum_0f7a4 : MethodName := ⟨RJ6, "signum", "(I)I"⟩
def RJ9 : String := "java/lang/Math"
abbrev cJ9_abs_0f7a4 : ByteArray := prog_15_method_59_code
def yJ9_abs_0f7a4 : MethodName := ⟨RJ9, "abs", "(I)I"⟩
abbrev cJ9_max_7cf53 : ByteArray := prog_15_method_65_code
def yJ9_max_7cf53 : MethodName := ⟨RJ9, "max", "(II)I"⟩
def RJ0 : String := "java/lang/String"
abbrev cJ0_length_8abf5 : ByteArray := prog_16_method_54_code
def yJ0_length_8abf5 : MethodName := ⟨RJ0, "length", "()I"⟩
abbrev cJ0_charAt_5068e : ByteArray := prog_16_method_56_code
def yJ0_charAt_5068e : MethodName := ⟨RJ0, "charAt", "(I)C"⟩
abbrev cJ0_coder_7d493 : ByteArray := prog_16_method_152_code
def yJ0_coder_7d493 : MethodName := ⟨RJ0, "coder", "()B"⟩
abbrev cJ0_isLatin1_aae02 : ByteArray := prog_16_method_154_code
def yJ0_isLatin1_aae02 : MethodName := ⟨RJ0, "isLatin1", "()Z"⟩
abbrev cJ0_checkIndex_df160 : ByteArray := prog_16_method_155_code
def yJ0_checkIndex_df160 : MethodName := ⟨RJ0, "checkIndex", "(II)V"⟩
def RJ1 : String := "java/lang/StringLatin1"
abbrev cJ1_charAt_3b067 : ByteArray := prog_17_method_2_code
def yJ1_charAt_3b067 : MethodName := ⟨RJ1, "charAt", "([BI)C"⟩
def RJ7 : String := "java/util/Arrays"
abbrev cJ7_fill_53178 : ByteArray := prog_20_method_103_code
def yJ7_fill_53178 : MethodName := ⟨RJ7, "fill", "([II)V"⟩
def RJ3 : String := "jdk/internal/util/Preconditions"
abbrev cJ3_checkIndex_8e157 : ByteArray := prog_21_method_11_code
def yJ3_checkIndex_8e157 : MethodName := ⟨RJ3, "checkIndex", "(IILjava/util/function/BiFunction;)I"⟩
def RL : String := "DriftCardsLaw"
def yL_law : MethodName := ⟨RL, "law", "([I)Z"⟩
abbrev vwCl : List vw_C := [(RX0, TX0, 8), (RX1, TX1, 15), (RX2, TX2, 8), (RX3, TX3, 12), (RX4, TX4, 5), (RX5, TX5, 6), (RX6, TX6, 8), (RX7, TX7, 5), (RX8, TX8, 12), (RX9, TX9, 3), (RX10, TX10, 12), (RX11, TX11, 59)]
abbrev cL_law : ByteArray := code
abbrev am_T : Type := MethodName × ByteArray × Nat × Option FieldType × Nat × Nat × Nat
def am_ms0 : List am_T := [(yX10_init, cX10_init, 1, none, 10, 2, 47), (yX8_init, cX8_init, 1, none, 8, 1, 20), (yX0_init, cX0_init, 1, none, 0, 1, 20), (yX5_init, cX5_init, 1, none, 5, 1, 20), (yX2_init, cX2_init, 1, none, 2, 1, 20), (yX1_init, cX1_init, 2, none, 1, 1, 20), (yX4_init, cX4_init, 4, none, 4, 1, 20), (yX7_init, cX7_init, 5, none, 7, 1, 20), (yX3_init, cX3_init, 8, none, 3, 1, 20), (yX9_init, cX9_init, 1, none, 9, 1, 20), (yX6_init, cX6_init, 1, none, 6, 1, 20), (yX10_paint, cX10_paint, 6, (some .int), 10, 2, 49), (yX10_isCell, cX10_isCell, 2, (some .boolean), 10, 0, 0), (yX10_isIndex, cX10_isIndex, 2, (some .boolean), 10, 0, 0), (yX10_isWithin, cX10_isWithin, 3, (some .boolean), 10, 0, 0), (yX8_putMarks, cX8_putMarks, 9, (some .int), 8, 1, 21), (yX10_placeOf, cX10_placeOf, 2, (some .int), 10, 0, 0), (yX10_cell, cX10_cell, 4, (some .int), 10, 1, 21), (yX10_current, cX10_current, 5, (some .int), 10, 1, 23), (yX10_isSpan, cX10_isSpan, 1, (some .boolean), 10, 0, 0), (yX8_putCurrent, cX8_putCurrent, 4, none, 8, 0, 0), (yX10_wind, cX10_wind, 4, (some .int), 10, 2, 42), (yX10_isStrength, cX10_isStrength, 1, (some .boolean), 10, 1, 22), (yX8_putWind, cX8_putWind, 4, none, 8, 0, 0), (yX10_storm, cX10_storm, 4, (some .int), 10, 2, 42), (yX8_putRow, cX8_putRow, 6, (some .int), 8, 0, 0), (yX10_calm, cX10_calm, 2, (some .int), 10, 1, 25), (yX10_cast, cX10_cast, 9, (some .int), 10, 4, 91), (yX10_areNumbers, cX10_areNumbers, 2, (some .boolean), 10, 1, 22), (yX10_isMore, cX10_isMore, 3, (some .boolean), 10, 1, 22)]
def am_ms1 : List am_T := [(yX8_isWater, cX8_isWater, 2, (some .boolean), 8, 0, 0), (yX0_hasNumbers, cX0_hasNumbers, 5, (some .boolean), 0, 0, 0), (yX0_add, cX0_add, 8, (some .int), 0, 0, 0), (yX7_matchCast, cX7_matchCast, 3, none, 7, 3, 69), (yX7_countCards, cX7_countCards, 5, (some .int), 7, 2, 45), (yX7_agrees, cX7_agrees, 5, (some .boolean), 7, 1, 21), (yX10_digitOf, cX10_digitOf, 2, (some .int), 10, 0, 0), (yX10_about, cX10_about, 3, (some .int), 10, 1, 21), (yX10_parts, cX10_parts, 4, (some .int), 10, 5, 124), (yX1_startCast, cX1_startCast, 4, none, 1, 2, 73), (yX1_start, cX1_start, 6, none, 1, 1, 48), (yJ7_fill_53178, cJ7_fill_53178, 4, none, 16, 0, 0), (yX1_goOn, cX1_goOn, 3, none, 1, 4, 102), (yX1_sinkAll, cX1_sinkAll, 1, none, 1, 1, 25), (yX1_sumOf, cX1_sumOf, 6, (some .int), 1, 0, 0), (yX1_goInWater, cX1_goInWater, 3, none, 1, 3, 80), (yX8_eastWindIn, cX8_eastWindIn, 2, (some .int), 8, 0, 0), (yX1_asItFloats, cX1_asItFloats, 2, (some .int), 1, 0, 0), (yX8_northWindIn, cX8_northWindIn, 2, (some .int), 8, 0, 0), (yX8_isIcy, cX8_isIcy, 3, (some .boolean), 8, 0, 0), (yX1_goFrom, cX1_goFrom, 8, none, 1, 2, 53), (yX1_send, cX1_send, 13, none, 1, 1, 21), (yJ9_abs_0f7a4, cJ9_abs_0f7a4, 1, (some .int), 13, 0, 0), (yJ6_signum_0f7a4, cJ6_signum_0f7a4, 1, (some .int), 12, 0, 0), (yX1_beWalked, cX1_beWalked, 5, none, 1, 0, 0), (yX1_allParts, cX1_allParts, 2, (some .int), 1, 1, 25), (yX10_partsAt, cX10_partsAt, 6, (some .int), 10, 5, 124), (yX1_partsIn, cX1_partsIn, 3, (some .int), 1, 1, 23), (yX1_foundIn, cX1_foundIn, 4, (some .int), 1, 0, 0), (yX10_apart, cX10_apart, 4, (some .int), 10, 5, 124)]
def am_ms2 : List am_T := [(yX1_meets, cX1_meets, 3, (some .boolean), 1, 0, 0), (yX10_name, cX10_name, 8, (some .int), 10, 1, 25), (yX5_add, cX5_add, 6, (some .int), 5, 0, 0), (yX10_find, cX10_find, 7, (some .int), 10, 4, 91), (yX10_isRow, cX10_isRow, 2, (some .boolean), 10, 1, 22), (yX2_add, cX2_add, 7, (some .int), 2, 0, 0), (yX7_matchFind, cX7_matchFind, 3, none, 7, 3, 69), (yX10_clock, cX10_clock, 3, (some .int), 10, 0, 0), (yX10_drop, cX10_drop, 4, (some .int), 10, 1, 22), (yX10_weight, cX10_weight, 3, (some .int), 10, 6, 145), (yX4_refresh, cX4_refresh, 2, none, 4, 5, 124), (yX7_weightOf, cX7_weightOf, 4, (some .int), 7, 2, 50), (yX5_foundWithin, cX5_foundWithin, 10, (some .int), 5, 1, 21), (yJ9_max_7cf53, cJ9_max_7cf53, 2, (some .int), 13, 0, 0), (yX10_judge, cX10_judge, 2, (some .int), 10, 6, 145), (yX7_verdictOf, cX7_verdictOf, 5, (some .int), 7, 3, 73), (yX10_best, cX10_best, 2, (some .int), 10, 6, 145), (yX7_bestOf, cX7_bestOf, 6, (some .int), 7, 3, 73), (yX10_cards, cX10_cards, 3, (some .int), 10, 6, 145), (yX7_cardsOf, cX7_cardsOf, 3, (some .int), 7, 0, 0), (yX10_twin, cX10_twin, 2, (some .int), 10, 3, 64), (yX2_twinOf, cX2_twinOf, 3, (some .int), 2, 2, 42), (yX2_isAllRead, cX2_isAllRead, 2, (some .boolean), 2, 1, 21), (yX10_got, cX10_got, 8, (some .int), 10, 6, 145), (yX10_isTime, cX10_isTime, 1, (some .boolean), 10, 1, 22), (yX7_castGot, cX7_castGot, 2, (some .int), 7, 4, 98), (yX10_move, cX10_move, 4, (some .int), 10, 1, 22), (yX10_fit, cX10_fit, 2, (some .int), 10, 7, 169), (yX3_refreshAll, cX3_refreshAll, 2, none, 3, 6, 148), (yX3_countGot, cX3_countGot, 3, none, 3, 5, 119)]
def am_ms3 : List am_T := [(yX3_slotOf, cX3_slotOf, 2, (some .int), 3, 0, 0), (yX3_refreshOne, cX3_refreshOne, 5, none, 3, 5, 124), (yX10_shiftIn, cX10_shiftIn, 2, (some .int), 10, 0, 0), (yX3_leastMissed, cX3_leastMissed, 7, (some .int), 3, 2, 48), (yX3_missedWith, cX3_missedWith, 8, (some .long), 3, 1, 21), (yX10_misfit, cX10_misfit, 1, (some .long), 10, 7, 169), (yX10_misses, cX10_misses, 2, (some .long), 10, 6, 148), (yX3_shiftsTold, cX3_shiftsTold, 1, (some .int), 3, 0, 0), (yX10_doubt, cX10_doubt, 2, (some .int), 10, 7, 169), (yX3_turnsOf, cX3_turnsOf, 8, (some .int), 3, 5, 119), (yX10_tells, cX10_tells, 7, (some .int), 10, 6, 149), (yX3_tryDrift, cX3_tryDrift, 6, none, 3, 5, 124), (yX3_keepFound, cX3_keepFound, 2, none, 3, 1, 23), (yX3_offFromKept, cX3_offFromKept, 3, (some .int), 3, 1, 23), (yX10_feed, cX10_feed, 4, (some .int), 10, 1, 24), (yX9_append, cX9_append, 5, (some .int), 9, 0, 0), (yX10_prize, cX10_prize, 3, (some .int), 10, 8, 171), (yX6_readFrom, cX6_readFrom, 3, (some .boolean), 6, 7, 149), (yX9_takeWord, cX9_takeWord, 3, (some .boolean), 9, 4, 85), (yJ0_length_8abf5, cJ0_length_8abf5, 1, (some .int), 14, 1, 20), (yJ0_coder_7d493, cJ0_coder_7d493, 1, (some .byte), 14, 0, 0), (yJ0_charAt_5068e, cJ0_charAt_5068e, 2, (some .char), 14, 3, 64), (yJ0_isLatin1_aae02, cJ0_isLatin1_aae02, 1, (some .boolean), 14, 0, 0), (yJ1_charAt_3b067, cJ1_charAt_3b067, 2, (some .char), 15, 2, 43), (yJ0_checkIndex_df160, cJ0_checkIndex_df160, 2, none, 14, 1, 22), (yJ3_checkIndex_8e157, cJ3_checkIndex_8e157, 3, (some .int), 17, 0, 0), (yX9_take, cX9_take, 2, (some .boolean), 9, 1, 21), (yX9_isAt, cX9_isAt, 2, (some .boolean), 9, 0, 0), (yX9_takeNumber, cX9_takeNumber, 3, (some .int), 9, 1, 21), (yX9_isAtEnd, cX9_isAtEnd, 1, (some .boolean), 9, 0, 0)]
def am_ms4 : List am_T := [(yX6_readTest, cX6_readTest, 3, (some .boolean), 6, 6, 127), (yX6_readField, cX6_readField, 1, (some .int), 6, 5, 107), (yX6_readSign, cX6_readSign, 1, (some .int), 6, 2, 42), (yX9_empty, cX9_empty, 1, none, 9, 0, 0), (yX6_keepRead, cX6_keepRead, 1, (some .int), 6, 0, 0), (yX10_pays, cX10_pays, 2, (some .int), 10, 6, 145), (yX10_payOf, cX10_payOf, 4, (some .int), 10, 4, 98), (yX5_stepsFrom, cX5_stepsFrom, 3, (some .int), 5, 2, 43), (yX5_stepsInto, cX5_stepsInto, 3, (some .int), 5, 1, 21), (yX6_worthOfFacts, cX6_worthOfFacts, 3, (some .int), 6, 2, 45), (yX6_holds, cX6_holds, 4, (some .boolean), 6, 1, 22), (yX6_isTrue, cX6_isTrue, 3, (some .boolean), 6, 0, 0), (yX10_purse, cX10_purse, 4, (some .int), 10, 6, 145), (yX10_letters, cX10_letters, 5, (some .int), 10, 2, 42), (yX10_count, cX10_count, 2, (some .int), 10, 1, 22), (yX0_allCards, cX0_allCards, 3, (some .int), 0, 0, 0), (yX2_allOut, cX2_allOut, 3, (some .int), 2, 0, 0), (yX11_init, cX11_init, 1, none, 11, 1, 20), (yX11_paint, cX11_paint, 8, (some .int), 11, 1, 25), (yX11_isCell, cX11_isCell, 2, (some .boolean), 11, 0, 0), (yX11_isIn, cX11_isIn, 6, (some .boolean), 11, 0, 0), (yX11_greatest, cX11_greatest, 1, (some .int), 11, 0, 0), (yX11_told, cX11_told, 3, (some .int), 11, 0, 0), (yX11_tells, cX11_tells, 4, none, 11, 0, 0), (yX11_cell, cX11_cell, 4, (some .int), 11, 1, 25), (yX11_current, cX11_current, 6, (some .int), 11, 1, 25), (yX11_isSpan, cX11_isSpan, 1, (some .boolean), 11, 0, 0), (yX11_wind, cX11_wind, 4, (some .int), 11, 1, 25), (yX11_storm, cX11_storm, 5, (some .int), 11, 1, 25), (yX11_calm, cX11_calm, 3, (some .int), 11, 1, 25)]
def am_ms5 : List am_T := [(yX11_cast, cX11_cast, 8, (some .int), 11, 1, 25), (yX11_about, cX11_about, 3, (some .int), 11, 1, 21), (yX11_isCast, cX11_isCast, 2, (some .boolean), 11, 0, 0), (yX11_parts, cX11_parts, 4, (some .int), 11, 5, 133), (yX11_driftOf, cX11_driftOf, 3, none, 11, 4, 111), (yX11_drift, cX11_drift, 10, none, 11, 3, 82), (yX11_drifts, cX11_drifts, 11, none, 11, 2, 52), (yX11_floats, cX11_floats, 2, (some .int), 11, 0, 0), (yX11_goes, cX11_goes, 12, none, 11, 1, 21), (yX11_sumOf, cX11_sumOf, 5, (some .int), 11, 0, 0), (yX11_partsAt, cX11_partsAt, 9, (some .int), 11, 5, 133), (yX11_apart, cX11_apart, 6, (some .int), 11, 5, 133), (yX11_name, cX11_name, 4, (some .int), 11, 1, 25), (yX11_find, cX11_find, 6, (some .int), 11, 2, 47), (yX11_isName, cX11_isName, 2, (some .boolean), 11, 0, 0), (yX11_isRow, cX11_isRow, 3, (some .boolean), 11, 1, 25), (yX11_clock, cX11_clock, 3, (some .int), 11, 1, 25), (yX11_drop, cX11_drop, 4, (some .int), 11, 1, 25), (yX11_isFind, cX11_isFind, 2, (some .boolean), 11, 0, 0), (yX11_weight, cX11_weight, 3, (some .int), 11, 6, 155), (yX11_weightOf, cX11_weightOf, 3, (some .int), 11, 5, 133), (yX11_cardsOf, cX11_cardsOf, 9, (some .int), 11, 0, 0), (yX11_foundIn, cX11_foundIn, 9, (some .int), 11, 1, 25), (yX11_judge, cX11_judge, 2, (some .int), 11, 7, 179), (yX11_judged, cX11_judged, 5, (some .int), 11, 6, 155), (yX11_best, cX11_best, 2, (some .int), 11, 7, 180), (yX11_bestOf, cX11_bestOf, 6, (some .int), 11, 6, 155), (yX11_cards, cX11_cards, 3, (some .int), 11, 7, 180), (yX11_twin, cX11_twin, 2, (some .int), 11, 2, 45), (yX11_twinOf, cX11_twinOf, 3, (some .int), 11, 1, 23)]
def am_ms6 : List am_T := [(yX11_isKnown, cX11_isKnown, 4, (some .boolean), 11, 0, 0), (yX11_got, cX11_got, 4, (some .int), 11, 8, 201), (yX11_findSure, cX11_findSure, 2, none, 11, 7, 180), (yX11_gotBy, cX11_gotBy, 7, (some .int), 11, 0, 0), (yX11_move, cX11_move, 4, (some .int), 11, 1, 25), (yX11_fit, cX11_fit, 2, (some .int), 11, 8, 201), (yX11_fits, cX11_fits, 6, none, 11, 6, 160), (yX11_missed, cX11_missed, 8, (some .long), 11, 5, 133), (yX11_misfit, cX11_misfit, 1, (some .long), 11, 8, 201), (yX11_misses, cX11_misses, 1, (some .long), 11, 8, 201), (yX11_doubt, cX11_doubt, 6, (some .int), 11, 8, 201), (yX11_tells_, cX11_tells_, 10, (some .int), 11, 5, 137), (yX11_foundAll, cX11_foundAll, 7, none, 11, 4, 111), (yX11_feed, cX11_feed, 5, (some .int), 11, 1, 25), (yX11_prize, cX11_prize, 2, (some .int), 11, 4, 89), (yX11_parses, cX11_parses, 1, (some .boolean), 11, 3, 69), (yX11_word, cX11_word, 5, (some .int), 11, 1, 21), (yX11_signOf, cX11_signOf, 2, (some .int), 11, 0, 0), (yX11_sign, cX11_sign, 1, (some .int), 11, 0, 0), (yX11_takes, cX11_takes, 2, (some .boolean), 11, 1, 20), (yX11_number, cX11_number, 2, (some .boolean), 11, 1, 20), (yX11_isDigit, cX11_isDigit, 1, (some .boolean), 11, 0, 0), (yX11_test, cX11_test, 5, (some .boolean), 11, 2, 45), (yX11_pays, cX11_pays, 2, (some .int), 11, 8, 208), (yX11_paid, cX11_paid, 9, (some .int), 11, 7, 180), (yX11_field, cX11_field, 5, (some .int), 11, 6, 155), (yX11_beyond, cX11_beyond, 3, (some .int), 11, 0, 0), (yX11_purse, cX11_purse, 4, (some .int), 11, 8, 208), (yX11_letters, cX11_letters, 5, (some .int), 11, 1, 25), (yX11_count, cX11_count, 4, (some .int), 11, 0, 0)]
def am_ms7 : List am_T := [(yL_law, cL_law, 4, (some .boolean), 18, 9, 231)]
def am_ms : List am_T := am_ms0 ++ (am_ms1 ++ (am_ms2 ++ (am_ms3 ++ (am_ms4 ++ (am_ms5 ++ (am_ms6 ++ (am_ms7)))))))
def am_m (i : Nat) : am_T := am_ms.getD i (⟨"", "", ""⟩, ⟨#[]⟩, 0, none, 0, 0, 0)
def am_y (i : Nat) : MethodName := (am_m i).1
def am_c (i : Nat) : ByteArray := (am_m i).2.1
def am_mx (i : Nat) : Nat := (am_m i).2.2.1
def am_rt (i : Nat) : Option FieldType := (am_m i).2.2.2.1
def am_ow (i : Nat) : Nat := (am_m i).2.2.2.2.1
def am_fr (i : Nat) : Nat := (am_m i).2.2.2.2.2.1
def am_lo (i : Nat) : Nat := (am_m i).2.2.2.2.2.2
def am_cns : List String := [RX0, RX1, RX2, RX3, RX4, RX5, RX6, RX7, RX8, RX9, RX10, RX11, RJ6, RJ9, RJ0, RJ1, RJ7, RJ3, RL]
def am_cn (o : Nat) : String := am_cns.getD o ""
def am_fls : List (List (Nat × Nat × Nat)) := [[(9, 0, 0), (15, 0, 1), (18, 0, 2), (21, 0, 3), (24, 0, 4), (27, 0, 5), (30, 0, 6), (33, 0, 7)],
  [(122, 8, 0), (126, 8, 1), (136, 8, 2), (129, 8, 3), (139, 8, 4), (31, 0, 0), (36, 0, 3), (39, 0, 4), (42, 0, 6), (27, 1, 0), (9, 1, 1), (15, 1, 2), (18, 1, 3), (21, 1, 4), (24, 1, 5), (62, 1, 6), (65, 1, 7), (68, 1, 8), (70, 1, 9), (105, 1, 10), (111, 1, 11), (73, 1, 12), (76, 1, 13), (79, 1, 14)],
  [(9, 2, 0), (15, 2, 1), (18, 2, 2), (21, 2, 3), (24, 2, 4), (27, 2, 5), (30, 2, 6), (34, 2, 7)],
  [(57, 8, 10), (74, 8, 11), (109, 0, 2), (82, 0, 7), (96, 5, 5), (127, 2, 2), (118, 2, 7), (99, 1, 4), (29, 3, 0), (33, 3, 1), (37, 3, 2), (41, 3, 3), (45, 3, 4), (49, 3, 5), (53, 3, 6), (9, 3, 7), (17, 3, 8), (20, 3, 9), (23, 3, 10), (26, 3, 11)],
  [(42, 8, 10), (32, 8, 11), (37, 0, 7), (56, 1, 4), (20, 4, 0), (24, 4, 1), (28, 4, 2), (11, 4, 3), (16, 4, 4)],
  [(9, 5, 0), (15, 5, 1), (18, 5, 2), (21, 5, 3), (24, 5, 4), (27, 5, 5)],
  [(9, 6, 0), (15, 6, 1), (18, 6, 2), (22, 6, 3), (25, 6, 4), (28, 6, 5), (31, 6, 6), (34, 6, 7)],
  [(56, 0, 1), (50, 0, 2), (66, 0, 3), (49, 0, 5), (42, 0, 7), (53, 2, 0), (45, 2, 1), (74, 2, 2), (77, 2, 3), (80, 2, 4), (92, 2, 6), (32, 2, 7), (69, 4, 3), (16, 7, 0), (20, 7, 1), (24, 7, 2), (28, 7, 3), (11, 7, 4)],
  [(11, 8, 0), (16, 8, 1), (20, 8, 2), (23, 8, 3), (26, 8, 4), (29, 8, 5), (32, 8, 6), (35, 8, 7), (39, 8, 8), (42, 8, 9), (45, 8, 10), (48, 8, 11)],
  [(9, 9, 0), (15, 9, 1), (19, 9, 2)],
  [(116, 8, 0), (183, 8, 10), (162, 8, 11), (165, 0, 0), (168, 0, 1), (171, 0, 2), (174, 0, 3), (177, 0, 4), (180, 0, 5), (109, 0, 7), (309, 5, 4), (204, 5, 5), (242, 2, 2), (321, 2, 3), (245, 2, 5), (217, 2, 6), (210, 2, 7), (287, 9, 1), (297, 9, 2), (318, 6, 6), (292, 6, 7), (12, 10, 0), (19, 10, 1), (26, 10, 2), (33, 10, 3), (42, 10, 4), (46, 10, 5), (54, 10, 6), (63, 10, 7), (72, 10, 8), (79, 10, 9), (86, 10, 10), (90, 10, 11)],
  [(7, 11, 0), (13, 11, 1), (16, 11, 2), (19, 11, 3), (22, 11, 4), (25, 11, 5), (28, 11, 6), (31, 11, 7), (34, 11, 8), (37, 11, 9), (40, 11, 10), (43, 11, 11), (46, 11, 12), (49, 11, 13), (52, 11, 14), (56, 11, 15), (59, 11, 16), (62, 11, 17), (65, 11, 18), (68, 11, 19), (71, 11, 20), (74, 11, 21), (166, 11, 22), (77, 11, 23), (80, 11, 24), (83, 11, 25), (86, 11, 26), (212, 11, 27), (201, 11, 28), (215, 11, 29), (89, 11, 30), (92, 11, 31), (95, 11, 32), (98, 11, 33), (101, 11, 34), (104, 11, 35), (107, 11, 36), (110, 11, 37), (113, 11, 38), (116, 11, 39), (119, 11, 40), (122, 11, 41), (125, 11, 42), (235, 11, 43), (238, 11, 44), (251, 11, 45), (128, 11, 46), (131, 11, 47), (134, 11, 48), (289, 11, 49), (137, 11, 50), (140, 11, 51), (143, 11, 52), (146, 11, 53), (149, 11, 54), (306, 11, 55), (336, 11, 56), (311, 11, 57), (324, 11, 58)],
  [],
  [],
  [],
  [],
  [],
  [],
  []]
def am_fl (i k : Nat) : Option (Nat × Nat) := (am_fls.getD (am_ow i) []).lookup k
def am_cls : List (List (Nat × Nat × Bool)) := [[],
  [(45, 40, false), (49, 41, false), (82, 43, false), (92, 44, false), (85, 45, false), (96, 46, false), (102, 47, false), (108, 48, false), (114, 49, false), (118, 50, false), (132, 51, false), (142, 52, false), (147, 53, false), (152, 12, true), (155, 16, true), (89, 54, false), (159, 58, false)],
  [(38, 82, false), (42, 36, true)],
  [(62, 70, false), (67, 89, false), (112, 41, false), (121, 85, false), (106, 90, false), (70, 91, false), (78, 92, true), (87, 39, false), (93, 42, false), (102, 72, false), (132, 94, false), (136, 93, false), (146, 40, false), (150, 58, false), (153, 52, false)],
  [(46, 39, false), (52, 42, false)],
  [(35, 73, false), (41, 16, true), (31, 128, false)],
  [(40, 108, false), (46, 118, false), (50, 119, false), (56, 120, false), (60, 116, false), (64, 121, false), (71, 117, false), (68, 122, false), (84, 130, false), (87, 131, false)],
  [(38, 34, false), (59, 35, false), (63, 36, true), (83, 72, false), (89, 71, false), (96, 81, false), (100, 75, false), (103, 77, false)],
  [(52, 16, true)],
  [(28, 109, false), (34, 111, false), (38, 116, false), (24, 117, false), (41, 73, false)],
  [(11, 1, true), (18, 2, true), (25, 3, true), (32, 4, true), (39, 5, false), (51, 6, false), (60, 7, false), (69, 8, false), (78, 9, true), (85, 10, true), (94, 12, false), (98, 13, false), (105, 14, false), (112, 15, false), (120, 16, false), (124, 19, false), (128, 20, false), (132, 22, false), (135, 23, false), (138, 25, false), (142, 28, false), (145, 29, false), (148, 30, false), (151, 31, false), (154, 32, false), (158, 33, false), (186, 39, false), (190, 42, false), (193, 55, false), (197, 57, false), (200, 60, false), (205, 62, false), (207, 64, false), (336, 36, false), (211, 65, false), (214, 66, false), (221, 70, false), (224, 71, false), (227, 75, false), (230, 77, false), (233, 79, false), (236, 81, false), (239, 84, false), (248, 85, false), (251, 88, false), (254, 93, false), (258, 92, false), (261, 94, false), (265, 89, false), (268, 97, false), (271, 91, false), (274, 99, false), (277, 101, false), (281, 102, false), (284, 103, false), (288, 105, false), (293, 107, false), (300, 123, false), (303, 124, false), (306, 126, false), (324, 73, false), (329, 127, false), (332, 129, false), (312, 135, false), (315, 136, false)],
  [(152, 139, false), (158, 140, false), (162, 141, false), (170, 142, false), (174, 143, false), (182, 146, false), (198, 152, false), (227, 154, false), (221, 155, false), (218, 156, false), (204, 157, false), (207, 158, false), (231, 159, false), (243, 164, false), (246, 165, false), (256, 168, false), (266, 170, false), (259, 171, false), (262, 172, false), (269, 174, false), (272, 176, false), (278, 179, false), (275, 180, false), (281, 182, false), (284, 183, false), (297, 186, false), (293, 187, false), (301, 192, false), (341, 195, false), (330, 196, false), (314, 197, false), (317, 198, false), (327, 199, false), (333, 200, false), (321, 201, false), (339, 202, false), (351, 204, false), (348, 205, false), (344, 206, false)],
  [],
  [],
  [(335, 110, false), (492, 112, false), (495, 113, false), (1059, 115, false)],
  [(9, 114, false)],
  [],
  [],
  [(9, 0, false), (13, 11, false), (18, 17, false), (23, 18, false), (28, 21, false), (32, 24, false), (36, 26, false), (41, 27, false), (46, 37, false), (51, 38, false), (55, 56, false), (59, 59, false), (63, 61, false), (67, 63, false), (71, 67, false), (75, 68, false), (79, 69, false), (83, 74, false), (87, 76, false), (91, 78, false), (95, 80, false), (99, 83, false), (103, 86, false), (107, 87, false), (111, 95, false), (116, 96, false), (120, 98, false), (124, 100, false), (130, 104, false), (135, 106, false), (140, 125, false), (144, 132, false), (148, 133, false), (152, 134, false), (12, 137, false), (17, 138, false), (22, 144, false), (27, 145, false), (31, 147, false), (35, 148, false), (40, 149, false), (45, 150, false), (50, 151, false), (54, 153, false), (58, 160, false), (62, 161, false), (66, 162, false), (70, 163, false), (74, 166, false), (78, 167, false), (82, 169, false), (86, 173, false), (90, 175, false), (94, 177, false), (98, 178, false), (102, 181, false), (106, 184, false), (110, 185, false), (115, 188, false), (119, 189, false), (123, 190, false), (127, 191, false), (134, 193, false), (139, 194, false), (143, 203, false), (147, 207, false), (151, 208, false), (155, 209, false)]]
def am_cl (i k : Nat) : Option (Nat × Bool) := (am_cls.getD (am_ow i) []).lookup k
def am_ois : List (List Nat) := [[3], [3], [3], [3], [3], [3], [3], [3], [3], [3], [3], [1], [], [], [], [], [], [], []]
def am_oi (i k : Nat) : Bool := (am_ois.getD (am_ow i) []).contains k
def am_acs : List (List Nat) := [[], [55], [], [140], [58], [], [], [], [], [], [], [], [], [], [], [], [], [], []]
def am_ac (i k : Nat) : Bool := (am_acs.getD (am_ow i) []).contains k
def am_nws : List (List (Nat × Nat)) := [[], [], [], [], [], [], [], [], [], [], [(9, 8), (16, 0), (23, 5), (30, 2), (37, 1), (49, 4), (58, 7), (67, 3), (76, 9), (83, 6)], [], [], [], [], [], [], [], [(7, 10), (10, 11)]]
def am_nw (i k : Nat) : Option Nat := (am_nws.getD (am_ow i) []).lookup k
def am_ggs : List (List Nat) := [[], [], [], [15], [9], [], [], [9], [9], [], [], [], [], [], [], [], [], [], []]
def am_gg (i k : Nat) : Bool := (am_ggs.getD (am_ow i) []).contains k
def am_kis : List (List (Nat × Int32)) := [[], [(61, 1000000)], [], [], [], [], [], [], [], [], [(335, 65535)], [(211, 1000000)], [], [], [], [], [], [], []]
def am_ki (i k : Nat) : Option Int32 := (am_kis.getD (am_ow i) []).lookup k
def am_kls : List (List (Nat × Int64)) := [[], [], [], [(130, 1000)], [], [], [], [], [], [(22, 255)], [], [(156, 4), (178, 2), (180, 11), (186, -3), (188, 3), (190, 47), (192, 59), (194, 1000), (196, 12), (225, 5), (241, 65535), (249, 60), (254, 999), (287, -1), (304, 8), (309, 255)], [], [], [], [], [], [], [(128, 4294967295)]]
def am_kl (i k : Nat) : Option Int64 := (am_kls.getD (am_ow i) []).lookup k
def am_kss : List (List (Nat × Nat)) := [[], [], [], [], [], [], [(38, 0), (54, 1), (74, 2), (76, 3), (78, 4), (80, 5), (82, 6)], [], [], [], [], [], [], [], [], [], [], [], []]
def am_ks (i k : Nat) : Option Nat := (am_kss.getD (am_ow i) []).lookup k
def am_sts : List String := ["prize ", " if ", "months", "far", "kind", "tongue", "weight"]
def am_sks : List Nat := [38, 54, 74, 76, 78, 80, 82]
def am_slen : List Nat := [6, 4, 6, 3, 4, 6, 6]
def am_sbyt : List (List Int32) := [[112, 114, 105, 122, 101, 32], [32, 105, 102, 32], [109, 111, 110, 116, 104, 115], [102, 97, 114], [107, 105, 110, 100], [116, 111, 110, 103, 117, 101], [119, 101, 105, 103, 104, 116]]
def am_Tf (ci : Nat) : u_T := match ci with
  | 0 => TX0
  | 1 => TX1
  | 2 => TX2
  | 3 => TX3
  | 4 => TX4
  | 5 => TX5
  | 6 => TX6
  | 7 => TX7
  | 8 => TX8
  | 9 => TX9
  | 10 => TX10
  | _ => TX11
def am_tf (ci : Nat) : Nat → FieldType := match ci with
  | 0 => tyX0
  | 1 => tyX1
  | 2 => tyX2
  | 3 => tyX3
  | 4 => tyX4
  | 5 => tyX5
  | 6 => tyX6
  | 7 => tyX7
  | 8 => tyX8
  | 9 => tyX9
  | 10 => tyX10
  | _ => tyX11
def am_nf (ci : Nat) : Nat := [8, 15, 8, 12, 5, 6, 8, 5, 12, 3, 12, 59].getD ci 0
end
section
def am_t0 : List (Nat × Instr × Nat) := [(0, .aload_n 0, 1), (1, .invokespecial 3, 3), (4, .aload_n 0, 1), (5, .new 9, 3), (8, .dup, 1), (9, .invokespecial 11, 3), (12, .putfield 12, 3), (15, .aload_n 0, 1), (16, .new 16, 3), (19, .dup, 1), (20, .invokespecial 18, 3), (23, .putfield 19, 3), (26, .aload_n 0, 1), (27, .new 23, 3), (30, .dup, 1), (31, .invokespecial 25, 3), (34, .putfield 26, 3), (37, .aload_n 0, 1), (38, .new 30, 3), (41, .dup, 1), (42, .invokespecial 32, 3), (45, .putfield 33, 3), (48, .aload_n 0, 1), (49, .new 37, 3), (52, .dup, 1), (53, .aload_n 0, 1), (54, .getfield 12, 3), (57, .invokespecial 39, 3), (60, .putfield 42, 3), (63, .aload_n 0, 1), (64, .new 37, 3), (67, .dup, 1), (68, .aload_n 0, 1), (69, .getfield 12, 3), (72, .invokespecial 39, 3), (75, .putfield 46, 3), (78, .aload_n 0, 1), (79, .new 49, 3), (82, .dup, 1), (83, .aload_n 0, 1), (84, .getfield 12, 3), (87, .aload_n 0, 1), (88, .getfield 19, 3), (91, .aload_n 0, 1), (92, .getfield 42, 3), (95, .invokespecial 51, 3), (98, .putfield 54, 3), (101, .aload_n 0, 1), (102, .new 58, 3), (105, .dup, 1), (106, .aload_n 0, 1), (107, .getfield 19, 3), (110, .aload_n 0, 1), (111, .getfield 26, 3), (114, .aload_n 0, 1), (115, .getfield 33, 3), (118, .aload_n 0, 1), (119, .getfield 54, 3), (122, .invokespecial 60, 3), (125, .putfield 63, 3), (128, .aload_n 0, 1), (129, .new 67, 3), (132, .dup, 1), (133, .aload_n 0, 1), (134, .getfield 12, 3), (137, .aload_n 0, 1), (138, .getfield 19, 3), (141, .aload_n 0, 1), (142, .getfield 26, 3), (145, .aload_n 0, 1), (146, .getfield 33, 3), (149, .aload_n 0, 1), (150, .getfield 54, 3), (153, .aload_n 0, 1), (154, .getfield 63, 3), (157, .aload_n 0, 1), (158, .getfield 42, 3), (161, .invokespecial 69, 3), (164, .putfield 72, 3), (167, .aload_n 0, 1), (168, .new 76, 3), (171, .dup, 1), (172, .invokespecial 78, 3), (175, .putfield 79, 3), (178, .aload_n 0, 1), (179, .new 83, 3), (182, .dup, 1), (183, .invokespecial 85, 3), (186, .putfield 86, 3), (189, .aload_n 0, 1), (190, .iconst 0, 1), (191, .putfield 90, 3), (194, .return_, 1)]
set_option maxRecDepth 100000 in
theorem am_kt0_0 : ∀ q ∈ (am_t0.drop 0).take 40, decode cX10_init q.1 = .ok q.2 := by decide +kernel
set_option maxRecDepth 100000 in
theorem am_kt0_1 : ∀ q ∈ (am_t0.drop 40).take 40, decode cX10_init q.1 = .ok q.2 := by decide +kernel
set_option maxRecDepth 100000 in
theorem am_kt0_2 : ∀ q ∈ (am_t0.drop 80).take 40, decode cX10_init q.1 = .ok q.2 := by decide +kernel
set_option maxRecDepth 100000 in
theorem am_kt0 : ∀ q ∈ am_t0, decode cX10_init q.1 = .ok q.2 := by
  intro q hq
  rw [← List.take_append_drop 40 (am_t0)] at hq
  rcases List.mem_append.mp hq with hq | hq
  · exact am_kt0_0 q hq
  rw [← List.take_append_drop 40 ((am_t0.drop 40))] at hq
  rcases List.mem_append.mp hq with hq | hq
  · exact am_kt0_1 q hq
  rw [List.drop_drop] at hq
  exact am_kt0_2 q (by rw [List.take_of_length_le (by decide)]; exact hq)
def am_t1 : List (Nat × Instr × Nat) := [(0, .aload_n 0, 1), (1, .invokespecial 3, 3), (4, .aload_n 0, 1), (5, .iconst 5, 1), (6, .bipush 60, 2), (8, .multianewarray 9 2, 4), (12, .putfield 11, 3), (15, .aload_n 0, 1), (16, .bipush 36, 2), (18, .newarray .int, 2), (20, .putfield 16, 3), (23, .aload_n 0, 1), (24, .bipush 36, 2), (26, .newarray .int, 2), (28, .putfield 20, 3), (31, .aload_n 0, 1), (32, .bipush 36, 2), (34, .newarray .int, 2), (36, .putfield 23, 3), (39, .aload_n 0, 1), (40, .bipush 36, 2), (42, .newarray .int, 2), (44, .putfield 26, 3), (47, .aload_n 0, 1), (48, .bipush 12, 2), (50, .newarray .int, 2), (52, .putfield 29, 3), (55, .aload_n 0, 1), (56, .bipush 12, 2), (58, .newarray .int, 2), (60, .putfield 32, 3), (63, .aload_n 0, 1), (64, .bipush 48, 2), (66, .newarray .boolean, 2), (68, .putfield 35, 3), (71, .aload_n 0, 1), (72, .bipush 48, 2), (74, .newarray .int, 2), (76, .putfield 39, 3), (79, .aload_n 0, 1), (80, .bipush 48, 2), (82, .newarray .int, 2), (84, .putfield 42, 3), (87, .aload_n 0, 1), (88, .iconst 3, 1), (89, .newarray .int, 2), (91, .putfield 45, 3), (94, .aload_n 0, 1), (95, .iconst 1, 1), (96, .putfield 48, 3), (99, .return_, 1)]
set_option maxRecDepth 100000 in
theorem am_kt1_0 : ∀ q ∈ (am_t1.drop 0).take 40, decode cX8_init q.1 = .ok q.2 := by decide +kernel
set_option maxRecDepth 100000 in
theorem am_kt1_1 : ∀ q ∈ (am_t1.drop 40).take 40, decode cX8_init q.1 = .ok q.2 := by decide +kernel
set_option maxRecDepth 100000 in
theorem am_kt1 : ∀ q ∈ am_t1, decode cX8_init q.1 = .ok q.2 := by
  intro q hq
  rw [← List.take_append_drop 40 (am_t1)] at hq
  rcases List.mem_append.mp hq with hq | hq
  · exact am_kt1_0 q hq
  exact am_kt1_1 q (by rw [List.take_of_length_le (by decide)]; exact hq)
def am_t2 : List (Nat × Instr × Nat) := [(0, .aload_n 0, 1), (1, .invokespecial 3, 3), (4, .aload_n 0, 1), (5, .iconst 5, 1), (6, .newarray .int, 2), (8, .putfield 9, 3), (11, .aload_n 0, 1), (12, .iconst 5, 1), (13, .newarray .int, 2), (15, .putfield 15, 3), (18, .aload_n 0, 1), (19, .iconst 5, 1), (20, .newarray .int, 2), (22, .putfield 18, 3), (25, .aload_n 0, 1), (26, .iconst 5, 1), (27, .newarray .int, 2), (29, .putfield 21, 3), (32, .aload_n 0, 1), (33, .iconst 5, 1), (34, .newarray .int, 2), (36, .putfield 24, 3), (39, .aload_n 0, 1), (40, .iconst 5, 1), (41, .newarray .int, 2), (43, .putfield 27, 3), (46, .aload_n 0, 1), (47, .iconst 5, 1), (48, .newarray .int, 2), (50, .putfield 30, 3), (53, .aload_n 0, 1), (54, .iconst 0, 1), (55, .putfield 33, 3), (58, .return_, 1)]
set_option maxRecDepth 100000 in
theorem am_kt2 : ∀ q ∈ am_t2, decode cX0_init q.1 = .ok q.2 := by decide +kernel
def am_t3 : List (Nat × Instr × Nat) := [(0, .aload_n 0, 1), (1, .invokespecial 3, 3), (4, .aload_n 0, 1), (5, .bipush 6, 2), (7, .newarray .int, 2), (9, .putfield 9, 3), (12, .aload_n 0, 1), (13, .bipush 6, 2), (15, .newarray .int, 2), (17, .putfield 15, 3), (20, .aload_n 0, 1), (21, .bipush 6, 2), (23, .newarray .int, 2), (25, .putfield 18, 3), (28, .aload_n 0, 1), (29, .bipush 6, 2), (31, .newarray .int, 2), (33, .putfield 21, 3), (36, .aload_n 0, 1), (37, .bipush 6, 2), (39, .newarray .int, 2), (41, .putfield 24, 3), (44, .aload_n 0, 1), (45, .iconst 0, 1), (46, .putfield 27, 3), (49, .return_, 1)]
set_option maxRecDepth 100000 in
theorem am_kt3 : ∀ q ∈ am_t3, decode cX5_init q.1 = .ok q.2 := by decide +kernel
def am_t4 : List (Nat × Instr × Nat) := [(0, .aload_n 0, 1), (1, .invokespecial 3, 3), (4, .aload_n 0, 1), (5, .bipush 16, 2), (7, .newarray .int, 2), (9, .putfield 9, 3), (12, .aload_n 0, 1), (13, .bipush 16, 2), (15, .newarray .int, 2), (17, .putfield 15, 3), (20, .aload_n 0, 1), (21, .bipush 16, 2), (23, .newarray .int, 2), (25, .putfield 18, 3), (28, .aload_n 0, 1), (29, .bipush 16, 2), (31, .newarray .int, 2), (33, .putfield 21, 3), (36, .aload_n 0, 1), (37, .bipush 16, 2), (39, .newarray .int, 2), (41, .putfield 24, 3), (44, .aload_n 0, 1), (45, .bipush 16, 2), (47, .newarray .int, 2), (49, .putfield 27, 3), (52, .aload_n 0, 1), (53, .bipush 16, 2), (55, .newarray .boolean, 2), (57, .putfield 30, 3), (60, .aload_n 0, 1), (61, .iconst 0, 1), (62, .putfield 34, 3), (65, .return_, 1)]
set_option maxRecDepth 100000 in
theorem am_kt4 : ∀ q ∈ am_t4, decode cX2_init q.1 = .ok q.2 := by decide +kernel
def am_t5 : List (Nat × Instr × Nat) := [(0, .aload_n 0, 1), (1, .invokespecial 3, 3), (4, .aload_n 0, 1), (5, .bipush 60, 2), (7, .newarray .int, 2), (9, .putfield 9, 3), (12, .aload_n 0, 1), (13, .bipush 60, 2), (15, .newarray .int, 2), (17, .putfield 15, 3), (20, .aload_n 0, 1), (21, .bipush 60, 2), (23, .newarray .int, 2), (25, .putfield 18, 3), (28, .aload_n 0, 1), (29, .sipush 720, 3), (32, .newarray .int, 2), (34, .putfield 21, 3), (37, .aload_n 0, 1), (38, .iconst 3, 1), (39, .newarray .int, 2), (41, .putfield 24, 3), (44, .aload_n 0, 1), (45, .aload_n 1, 1), (46, .putfield 27, 3), (49, .return_, 1)]
set_option maxRecDepth 100000 in
theorem am_kt5 : ∀ q ∈ am_t5, decode cX1_init q.1 = .ok q.2 := by decide +kernel
def am_t6 : List (Nat × Instr × Nat) := [(0, .aload_n 0, 1), (1, .invokespecial 3, 3), (4, .aload_n 0, 1), (5, .iconst 5, 1), (6, .sipush 720, 3), (9, .multianewarray 9 2, 4), (13, .putfield 11, 3), (16, .aload_n 0, 1), (17, .iconst 0, 1), (18, .putfield 16, 3), (21, .aload_n 0, 1), (22, .aload_n 1, 1), (23, .putfield 20, 3), (26, .aload_n 0, 1), (27, .aload_n 2, 1), (28, .putfield 24, 3), (31, .aload_n 0, 1), (32, .aload_n 3, 1), (33, .putfield 28, 3), (36, .return_, 1)]
set_option maxRecDepth 100000 in
theorem am_kt6 : ∀ q ∈ am_t6, decode cX4_init q.1 = .ok q.2 := by decide +kernel
def am_t7 : List (Nat × Instr × Nat) := [(0, .aload_n 0, 1), (1, .invokespecial 3, 3), (4, .aload_n 0, 1), (5, .bipush 16, 2), (7, .iconst 5, 1), (8, .multianewarray 9 2, 4), (12, .putfield 11, 3), (15, .aload_n 0, 1), (16, .aload_n 1, 1), (17, .putfield 16, 3), (20, .aload_n 0, 1), (21, .aload_n 2, 1), (22, .putfield 20, 3), (25, .aload_n 0, 1), (26, .aload_n 3, 1), (27, .putfield 24, 3), (30, .aload_n 0, 1), (31, .aload 4, 2), (33, .putfield 28, 3), (36, .return_, 1)]
set_option maxRecDepth 100000 in
theorem am_kt7 : ∀ q ∈ am_t7, decode cX7_init q.1 = .ok q.2 := by decide +kernel
def am_t8 : List (Nat × Instr × Nat) := [(0, .aload_n 0, 1), (1, .invokespecial 3, 3), (4, .aload_n 0, 1), (5, .iconst 3, 1), (6, .newarray .int, 2), (8, .putfield 9, 3), (11, .aload_n 0, 1), (12, .bipush 27, 2), (14, .bipush 30, 2), (16, .multianewarray 15 2, 4), (20, .putfield 17, 3), (23, .aload_n 0, 1), (24, .bipush 27, 2), (26, .newarray .int, 2), (28, .putfield 20, 3), (31, .aload_n 0, 1), (32, .bipush 30, 2), (34, .newarray .int, 2), (36, .putfield 23, 3), (39, .aload_n 0, 1), (40, .bipush 60, 2), (42, .newarray .int, 2), (44, .putfield 26, 3), (47, .aload_n 0, 1), (48, .aload_n 1, 1), (49, .putfield 29, 3), (52, .aload_n 0, 1), (53, .aload_n 2, 1), (54, .putfield 33, 3), (57, .aload_n 0, 1), (58, .aload_n 3, 1), (59, .putfield 37, 3), (62, .aload_n 0, 1), (63, .aload 4, 2), (65, .putfield 41, 3), (68, .aload_n 0, 1), (69, .aload 5, 2), (71, .putfield 45, 3), (74, .aload_n 0, 1), (75, .aload 6, 2), (77, .putfield 49, 3), (80, .aload_n 0, 1), (81, .aload 7, 2), (83, .putfield 53, 3), (86, .return_, 1)]
set_option maxRecDepth 100000 in
theorem am_kt8_0 : ∀ q ∈ (am_t8.drop 0).take 40, decode cX3_init q.1 = .ok q.2 := by decide +kernel
set_option maxRecDepth 100000 in
theorem am_kt8_1 : ∀ q ∈ (am_t8.drop 40).take 40, decode cX3_init q.1 = .ok q.2 := by decide +kernel
set_option maxRecDepth 100000 in
theorem am_kt8 : ∀ q ∈ am_t8, decode cX3_init q.1 = .ok q.2 := by
  intro q hq
  rw [← List.take_append_drop 40 (am_t8)] at hq
  rcases List.mem_append.mp hq with hq | hq
  · exact am_kt8_0 q hq
  exact am_kt8_1 q (by rw [List.take_of_length_le (by decide)]; exact hq)
def am_t9 : List (Nat × Instr × Nat) := [(0, .aload_n 0, 1), (1, .invokespecial 3, 3), (4, .aload_n 0, 1), (5, .bipush 120, 2), (7, .newarray .int, 2), (9, .putfield 9, 3), (12, .aload_n 0, 1), (13, .iconst 0, 1), (14, .putfield 15, 3), (17, .aload_n 0, 1), (18, .iconst 0, 1), (19, .putfield 19, 3), (22, .return_, 1)]
set_option maxRecDepth 100000 in
theorem am_kt9 : ∀ q ∈ am_t9, decode cX9_init q.1 = .ok q.2 := by decide +kernel
def am_t10 : List (Nat × Instr × Nat) := [(0, .aload_n 0, 1), (1, .invokespecial 3, 3), (4, .aload_n 0, 1), (5, .bipush 8, 2), (7, .newarray .int, 2), (9, .putfield 9, 3), (12, .aload_n 0, 1), (13, .bipush 8, 2), (15, .newarray .int, 2), (17, .putfield 15, 3), (20, .aload_n 0, 1), (21, .bipush 24, 2), (23, .newarray .boolean, 2), (25, .putfield 18, 3), (28, .aload_n 0, 1), (29, .bipush 24, 2), (31, .newarray .int, 2), (33, .putfield 22, 3), (36, .aload_n 0, 1), (37, .bipush 24, 2), (39, .newarray .int, 2), (41, .putfield 25, 3), (44, .aload_n 0, 1), (45, .bipush 24, 2), (47, .newarray .int, 2), (49, .putfield 28, 3), (52, .aload_n 0, 1), (53, .iconst 5, 1), (54, .newarray .int, 2), (56, .putfield 31, 3), (59, .aload_n 0, 1), (60, .iconst 0, 1), (61, .putfield 34, 3), (64, .return_, 1)]
set_option maxRecDepth 100000 in
theorem am_kt10 : ∀ q ∈ am_t10, decode cX6_init q.1 = .ok q.2 := by decide +kernel
def am_t11 : List (Nat × Instr × Nat) := [(0, .iload_n 1, 1), (1, .iload_n 3, 1), (2, .invokestatic 94, 3), (5, .ifCond .eq 25, 3), (8, .iload_n 2, 1), (9, .iload_n 3, 1), (10, .invokestatic 94, 3), (13, .ifCond .eq 17, 3), (16, .iload_n 1, 1), (17, .iload_n 2, 1), (18, .if_icmp .gt 12, 3), (21, .iload 4, 2), (23, .iconst 5, 1), (24, .invokestatic 98, 3), (27, .ifCond .ne 5, 3), (30, .iconst (-1), 1), (31, .ireturn, 1), (32, .iload 5, 2), (34, .iconst 0, 1), (35, .getstatic 101, 3), (38, .iload 4, 2), (40, .iaload, 1), (41, .invokestatic 105, 3), (44, .ifCond .ne 6, 3), (47, .bipush (-2), 2), (49, .ireturn, 1), (50, .iload 4, 2), (52, .ifCond .ne 16, 3), (55, .aload_n 0, 1), (56, .getfield 19, 3), (59, .getfield 109, 3), (62, .ifCond .le 6, 3), (65, .bipush (-3), 2), (67, .ireturn, 1), (68, .aload_n 0, 1), (69, .getfield 12, 3), (72, .iload_n 1, 1), (73, .iload_n 2, 1), (74, .iload_n 3, 1), (75, .iload 4, 2), (77, .iload 5, 2), (79, .invokevirtual 112, 3), (82, .ireturn, 1)]
set_option maxRecDepth 100000 in
theorem am_kt11_0 : ∀ q ∈ (am_t11.drop 0).take 40, decode cX10_paint q.1 = .ok q.2 := by decide +kernel
set_option maxRecDepth 100000 in
theorem am_kt11_1 : ∀ q ∈ (am_t11.drop 40).take 40, decode cX10_paint q.1 = .ok q.2 := by decide +kernel
set_option maxRecDepth 100000 in
theorem am_kt11 : ∀ q ∈ am_t11, decode cX10_paint q.1 = .ok q.2 := by
  intro q hq
  rw [← List.take_append_drop 40 (am_t11)] at hq
  rcases List.mem_append.mp hq with hq | hq
  · exact am_kt11_0 q hq
  exact am_kt11_1 q (by rw [List.take_of_length_le (by decide)]; exact hq)
def am_t12 : List (Nat × Instr × Nat) := [(0, .iload_n 0, 1), (1, .ifCond .lt 23, 3), (4, .iload_n 0, 1), (5, .bipush 10, 2), (7, .if_icmp .ge 17, 3), (10, .iload_n 1, 1), (11, .ifCond .lt 13, 3), (14, .iload_n 1, 1), (15, .bipush 6, 2), (17, .if_icmp .ge 7, 3), (20, .iconst 1, 1), (21, .goto 4, 3), (24, .iconst 0, 1), (25, .ireturn, 1)]
set_option maxRecDepth 100000 in
theorem am_kt12 : ∀ q ∈ am_t12, decode cX10_isCell q.1 = .ok q.2 := by decide +kernel
def am_t13 : List (Nat × Instr × Nat) := [(0, .iload_n 0, 1), (1, .ifCond .lt 12, 3), (4, .iload_n 0, 1), (5, .iload_n 1, 1), (6, .if_icmp .ge 7, 3), (9, .iconst 1, 1), (10, .goto 4, 3), (13, .iconst 0, 1), (14, .ireturn, 1)]
set_option maxRecDepth 100000 in
theorem am_kt13 : ∀ q ∈ am_t13, decode cX10_isIndex q.1 = .ok q.2 := by decide +kernel
def am_t14 : List (Nat × Instr × Nat) := [(0, .iload_n 0, 1), (1, .iload_n 1, 1), (2, .if_icmp .lt 12, 3), (5, .iload_n 0, 1), (6, .iload_n 2, 1), (7, .if_icmp .gt 7, 3), (10, .iconst 1, 1), (11, .goto 4, 3), (14, .iconst 0, 1), (15, .ireturn, 1)]
set_option maxRecDepth 100000 in
theorem am_kt14 : ∀ q ∈ am_t14, decode cX10_isWithin q.1 = .ok q.2 := by decide +kernel
def am_t15 : List (Nat × Instr × Nat) := [(0, .iconst 0, 1), (1, .istore 6, 2), (3, .iload_n 1, 1), (4, .istore 7, 2), (6, .iload 7, 2), (8, .iload_n 2, 1), (9, .if_icmp .gt 47, 3), (12, .iload 7, 2), (14, .iload_n 3, 1), (15, .invokestatic 52, 3), (18, .istore 8, 2), (20, .aload_n 0, 1), (21, .getfield 11, 3), (24, .iload 4, 2), (26, .aaload, 1), (27, .iload 8, 2), (29, .iaload, 1), (30, .iload 5, 2), (32, .if_icmp .eq 18, 3), (35, .aload_n 0, 1), (36, .getfield 11, 3), (39, .iload 4, 2), (41, .aaload, 1), (42, .iload 8, 2), (44, .iload 5, 2), (46, .iastore, 1), (47, .iinc 6 1, 3), (50, .iinc 7 1, 3), (53, .goto (-47), 3), (56, .aload_n 0, 1), (57, .dup, 1), (58, .getfield 48, 3), (61, .iconst 1, 1), (62, .iadd, 1), (63, .putfield 48, 3), (66, .iload 6, 2), (68, .ireturn, 1)]
set_option maxRecDepth 100000 in
theorem am_kt15 : ∀ q ∈ am_t15, decode cX8_putMarks q.1 = .ok q.2 := by decide +kernel
def am_t16 : List (Nat × Instr × Nat) := [(0, .bipush 6, 2), (2, .iload_n 0, 1), (3, .imul, 1), (4, .iload_n 1, 1), (5, .iadd, 1), (6, .ireturn, 1)]
set_option maxRecDepth 100000 in
theorem am_kt16 : ∀ q ∈ am_t16, decode cX10_placeOf q.1 = .ok q.2 := by decide +kernel
def am_t17 : List (Nat × Instr × Nat) := [(0, .iload_n 1, 1), (1, .iload_n 2, 1), (2, .invokestatic 94, 3), (5, .ifCond .eq 11, 3), (8, .iload_n 3, 1), (9, .iconst 5, 1), (10, .invokestatic 98, 3), (13, .ifCond .ne 5, 3), (16, .iconst (-1), 1), (17, .ireturn, 1), (18, .aload_n 0, 1), (19, .getfield 12, 3), (22, .getfield 116, 3), (25, .iload_n 3, 1), (26, .aaload, 1), (27, .iload_n 1, 1), (28, .iload_n 2, 1), (29, .invokestatic 120, 3), (32, .iaload, 1), (33, .ireturn, 1)]
set_option maxRecDepth 100000 in
theorem am_kt17 : ∀ q ∈ am_t17, decode cX10_cell q.1 = .ok q.2 := by decide +kernel
def am_t18 : List (Nat × Instr × Nat) := [(0, .iload_n 1, 1), (1, .iconst 3, 1), (2, .invokestatic 98, 3), (5, .ifCond .eq 12, 3), (8, .iload_n 2, 1), (9, .bipush 12, 2), (11, .invokestatic 98, 3), (14, .ifCond .ne 5, 3), (17, .iconst (-1), 1), (18, .ireturn, 1), (19, .iload_n 3, 1), (20, .invokestatic 124, 3), (23, .ifCond .eq 11, 3), (26, .iload 4, 2), (28, .invokestatic 124, 3), (31, .ifCond .ne 6, 3), (34, .bipush (-2), 2), (36, .ireturn, 1), (37, .aload_n 0, 1), (38, .getfield 12, 3), (41, .iload_n 1, 1), (42, .bipush 12, 2), (44, .imul, 1), (45, .iload_n 2, 1), (46, .iadd, 1), (47, .iload_n 3, 1), (48, .iload 4, 2), (50, .invokevirtual 128, 3), (53, .iconst 0, 1), (54, .ireturn, 1)]
set_option maxRecDepth 100000 in
theorem am_kt18 : ∀ q ∈ am_t18, decode cX10_current q.1 = .ok q.2 := by decide +kernel
def am_t19 : List (Nat × Instr × Nat) := [(0, .iload_n 0, 1), (1, .ifCond .lt 36, 3), (4, .iload_n 0, 1), (5, .bipush 10, 2), (7, .idiv, 1), (8, .bipush 6, 2), (10, .if_icmp .gt 27, 3), (13, .iload_n 0, 1), (14, .bipush 10, 2), (16, .irem, 1), (17, .bipush 6, 2), (19, .if_icmp .gt 18, 3), (22, .iload_n 0, 1), (23, .bipush 10, 2), (25, .idiv, 1), (26, .iload_n 0, 1), (27, .bipush 10, 2), (29, .irem, 1), (30, .if_icmp .gt 7, 3), (33, .iconst 1, 1), (34, .goto 4, 3), (37, .iconst 0, 1), (38, .ireturn, 1)]
set_option maxRecDepth 100000 in
theorem am_kt19 : ∀ q ∈ am_t19, decode cX10_isSpan q.1 = .ok q.2 := by decide +kernel
def am_t20 : List (Nat × Instr × Nat) := [(0, .aload_n 0, 1), (1, .getfield 16, 3), (4, .iload_n 1, 1), (5, .iload_n 2, 1), (6, .bipush 10, 2), (8, .idiv, 1), (9, .iconst 3, 1), (10, .isub, 1), (11, .iastore, 1), (12, .aload_n 0, 1), (13, .getfield 20, 3), (16, .iload_n 1, 1), (17, .iload_n 2, 1), (18, .bipush 10, 2), (20, .irem, 1), (21, .iconst 3, 1), (22, .isub, 1), (23, .iastore, 1), (24, .aload_n 0, 1), (25, .getfield 23, 3), (28, .iload_n 1, 1), (29, .iload_n 3, 1), (30, .bipush 10, 2), (32, .idiv, 1), (33, .iconst 3, 1), (34, .isub, 1), (35, .iastore, 1), (36, .aload_n 0, 1), (37, .getfield 26, 3), (40, .iload_n 1, 1), (41, .iload_n 3, 1), (42, .bipush 10, 2), (44, .irem, 1), (45, .iconst 3, 1), (46, .isub, 1), (47, .iastore, 1), (48, .aload_n 0, 1), (49, .dup, 1), (50, .getfield 48, 3), (53, .iconst 1, 1), (54, .iadd, 1), (55, .putfield 48, 3), (58, .return_, 1)]
set_option maxRecDepth 100000 in
theorem am_kt20_0 : ∀ q ∈ (am_t20.drop 0).take 40, decode cX8_putCurrent q.1 = .ok q.2 := by decide +kernel
set_option maxRecDepth 100000 in
theorem am_kt20_1 : ∀ q ∈ (am_t20.drop 40).take 40, decode cX8_putCurrent q.1 = .ok q.2 := by decide +kernel
set_option maxRecDepth 100000 in
theorem am_kt20 : ∀ q ∈ am_t20, decode cX8_putCurrent q.1 = .ok q.2 := by
  intro q hq
  rw [← List.take_append_drop 40 (am_t20)] at hq
  rcases List.mem_append.mp hq with hq | hq
  · exact am_kt20_0 q hq
  exact am_kt20_1 q (by rw [List.take_of_length_le (by decide)]; exact hq)
def am_t21 : List (Nat × Instr × Nat) := [(0, .iload_n 1, 1), (1, .bipush 12, 2), (3, .invokestatic 98, 3), (6, .ifCond .ne 5, 3), (9, .iconst (-1), 1), (10, .ireturn, 1), (11, .iload_n 2, 1), (12, .invokestatic 132, 3), (15, .ifCond .eq 10, 3), (18, .iload_n 3, 1), (19, .invokestatic 132, 3), (22, .ifCond .ne 6, 3), (25, .bipush (-2), 2), (27, .ireturn, 1), (28, .aload_n 0, 1), (29, .getfield 12, 3), (32, .iload_n 1, 1), (33, .iload_n 2, 1), (34, .iload_n 3, 1), (35, .invokevirtual 135, 3), (38, .iconst 0, 1), (39, .ireturn, 1)]
set_option maxRecDepth 100000 in
theorem am_kt21 : ∀ q ∈ am_t21, decode cX10_wind q.1 = .ok q.2 := by decide +kernel
def am_t22 : List (Nat × Instr × Nat) := [(0, .iload_n 0, 1), (1, .bipush (-3), 2), (3, .iconst 3, 1), (4, .invokestatic 105, 3), (7, .ireturn, 1)]
set_option maxRecDepth 100000 in
theorem am_kt22 : ∀ q ∈ am_t22, decode cX10_isStrength q.1 = .ok q.2 := by decide +kernel
def am_t23 : List (Nat × Instr × Nat) := [(0, .aload_n 0, 1), (1, .getfield 29, 3), (4, .iload_n 1, 1), (5, .iload_n 2, 1), (6, .iastore, 1), (7, .aload_n 0, 1), (8, .getfield 32, 3), (11, .iload_n 1, 1), (12, .iload_n 3, 1), (13, .iastore, 1), (14, .aload_n 0, 1), (15, .dup, 1), (16, .getfield 48, 3), (19, .iconst 1, 1), (20, .iadd, 1), (21, .putfield 48, 3), (24, .return_, 1)]
set_option maxRecDepth 100000 in
theorem am_kt23 : ∀ q ∈ am_t23, decode cX8_putWind q.1 = .ok q.2 := by decide +kernel
def am_t24 : List (Nat × Instr × Nat) := [(0, .iload_n 1, 1), (1, .bipush 48, 2), (3, .invokestatic 98, 3), (6, .ifCond .ne 5, 3), (9, .iconst (-1), 1), (10, .ireturn, 1), (11, .iload_n 2, 1), (12, .invokestatic 132, 3), (15, .ifCond .eq 10, 3), (18, .iload_n 3, 1), (19, .invokestatic 132, 3), (22, .ifCond .ne 6, 3), (25, .bipush (-2), 2), (27, .ireturn, 1), (28, .aload_n 0, 1), (29, .getfield 12, 3), (32, .iload_n 1, 1), (33, .iconst 1, 1), (34, .iload_n 2, 1), (35, .iload_n 3, 1), (36, .invokevirtual 138, 3), (39, .ireturn, 1)]
set_option maxRecDepth 100000 in
theorem am_kt24 : ∀ q ∈ am_t24, decode cX10_storm q.1 = .ok q.2 := by decide +kernel
def am_t25 : List (Nat × Instr × Nat) := [(0, .aload_n 0, 1), (1, .getfield 35, 3), (4, .iload_n 1, 1), (5, .baload, 1), (6, .ifCond .eq 7, 3), (9, .iconst 1, 1), (10, .goto 4, 3), (13, .iconst 0, 1), (14, .istore 5, 2), (16, .aload_n 0, 1), (17, .getfield 35, 3), (20, .iload_n 1, 1), (21, .iload_n 2, 1), (22, .bastore, 1), (23, .aload_n 0, 1), (24, .getfield 39, 3), (27, .iload_n 1, 1), (28, .iload_n 3, 1), (29, .iastore, 1), (30, .aload_n 0, 1), (31, .getfield 42, 3), (34, .iload_n 1, 1), (35, .iload 4, 2), (37, .iastore, 1), (38, .aload_n 0, 1), (39, .dup, 1), (40, .getfield 48, 3), (43, .iconst 1, 1), (44, .iadd, 1), (45, .putfield 48, 3), (48, .iload 5, 2), (50, .ireturn, 1)]
set_option maxRecDepth 100000 in
theorem am_kt25 : ∀ q ∈ am_t25, decode cX8_putRow q.1 = .ok q.2 := by decide +kernel
def am_t26 : List (Nat × Instr × Nat) := [(0, .iload_n 1, 1), (1, .bipush 48, 2), (3, .invokestatic 98, 3), (6, .ifCond .ne 5, 3), (9, .iconst (-1), 1), (10, .ireturn, 1), (11, .aload_n 0, 1), (12, .getfield 12, 3), (15, .iload_n 1, 1), (16, .iconst 0, 1), (17, .iconst 0, 1), (18, .iconst 0, 1), (19, .invokevirtual 138, 3), (22, .ireturn, 1)]
set_option maxRecDepth 100000 in
theorem am_kt26 : ∀ q ∈ am_t26, decode cX10_calm q.1 = .ok q.2 := by decide +kernel
def am_t27 : List (Nat × Instr × Nat) := [(0, .iload 5, 2), (2, .bipush 60, 2), (4, .invokestatic 98, 3), (7, .ifCond .eq 13, 3), (10, .iload 4, 2), (12, .bipush 48, 2), (14, .invokestatic 98, 3), (17, .ifCond .ne 5, 3), (20, .iconst (-1), 1), (21, .ireturn, 1), (22, .iload_n 1, 1), (23, .iconst 0, 1), (24, .iconst 3, 1), (25, .invokestatic 105, 3), (28, .ifCond .eq 20, 3), (31, .iload_n 2, 1), (32, .iload_n 3, 1), (33, .invokestatic 142, 3), (36, .ifCond .eq 12, 3), (39, .iload_n 1, 1), (40, .iload 6, 2), (42, .invokestatic 145, 3), (45, .ifCond .ne 6, 3), (48, .bipush (-2), 2), (50, .ireturn, 1), (51, .iload 6, 2), (53, .bipush 100, 2), (55, .idiv, 1), (56, .istore 7, 2), (58, .aload_n 0, 1), (59, .getfield 12, 3), (62, .iload 5, 2), (64, .invokevirtual 148, 3), (67, .ifCond .eq 17, 3), (70, .aload_n 0, 1), (71, .getfield 19, 3), (74, .iload 7, 2), (76, .iload_n 2, 1), (77, .iload_n 3, 1), (78, .invokevirtual 151, 3), (81, .ifCond .eq 6, 3), (84, .bipush (-3), 2), (86, .ireturn, 1), (87, .aload_n 0, 1), (88, .getfield 19, 3), (91, .getfield 109, 3), (94, .iconst 5, 1), (95, .if_icmp .lt 6, 3), (98, .bipush (-4), 2), (100, .ireturn, 1), (101, .aload_n 0, 1), (102, .getfield 19, 3), (105, .iload_n 1, 1), (106, .iload_n 2, 1), (107, .iload_n 3, 1), (108, .iload 4, 2), (110, .iload 5, 2), (112, .iload 7, 2), (114, .iload 6, 2), (116, .bipush 100, 2), (118, .irem, 1), (119, .invokevirtual 154, 3), (122, .istore 8, 2), (124, .aload_n 0, 1), (125, .getfield 63, 3), (128, .iload 8, 2), (130, .invokevirtual 158, 3), (133, .aload_n 0, 1), (134, .getfield 12, 3), (137, .dup, 1), (138, .getfield 162, 3), (141, .iconst 1, 1), (142, .iadd, 1), (143, .putfield 162, 3), (146, .iload 8, 2), (148, .ireturn, 1)]
set_option maxRecDepth 100000 in
theorem am_kt27_0 : ∀ q ∈ (am_t27.drop 0).take 40, decode cX10_cast q.1 = .ok q.2 := by decide +kernel
set_option maxRecDepth 100000 in
theorem am_kt27_1 : ∀ q ∈ (am_t27.drop 40).take 40, decode cX10_cast q.1 = .ok q.2 := by decide +kernel
set_option maxRecDepth 100000 in
theorem am_kt27 : ∀ q ∈ am_t27, decode cX10_cast q.1 = .ok q.2 := by
  intro q hq
  rw [← List.take_append_drop 40 (am_t27)] at hq
  rcases List.mem_append.mp hq with hq | hq
  · exact am_kt27_0 q hq
  exact am_kt27_1 q (by rw [List.take_of_length_le (by decide)]; exact hq)
def am_t28 : List (Nat × Instr × Nat) := [(0, .iload_n 0, 1), (1, .iconst 0, 1), (2, .sipush 9999, 3), (5, .invokestatic 105, 3), (8, .ifCond .eq 29, 3), (11, .iload_n 1, 1), (12, .iconst 1, 1), (13, .sipush 1000, 3), (16, .invokestatic 105, 3), (19, .ifCond .eq 18, 3), (22, .iload_n 0, 1), (23, .iload_n 1, 1), (24, .iadd, 1), (25, .iconst 1, 1), (26, .isub, 1), (27, .sipush 9999, 3), (30, .if_icmp .gt 7, 3), (33, .iconst 1, 1), (34, .goto 4, 3), (37, .iconst 0, 1), (38, .ireturn, 1)]
set_option maxRecDepth 100000 in
theorem am_kt28 : ∀ q ∈ am_t28, decode cX10_areNumbers q.1 = .ok q.2 := by decide +kernel
def am_t29 : List (Nat × Instr × Nat) := [(0, .iload_n 1, 1), (1, .ifCond .lt 11, 3), (4, .iload_n 1, 1), (5, .bipush 100, 2), (7, .idiv, 1), (8, .iconst 4, 1), (9, .if_icmp .lt 5, 3), (12, .iconst 0, 1), (13, .ireturn, 1), (14, .iload_n 1, 1), (15, .bipush 100, 2), (17, .irem, 1), (18, .istore_n 2, 1), (19, .iload_n 0, 1), (20, .iconst 2, 1), (21, .if_icmp .ne 13, 3), (24, .iload_n 2, 1), (25, .iconst 1, 1), (26, .bipush 12, 2), (28, .invokestatic 105, 3), (31, .goto 12, 3), (34, .iload_n 2, 1), (35, .ifCond .ne 7, 3), (38, .iconst 1, 1), (39, .goto 4, 3), (42, .iconst 0, 1), (43, .ireturn, 1)]
set_option maxRecDepth 100000 in
theorem am_kt29 : ∀ q ∈ am_t29, decode cX10_isMore q.1 = .ok q.2 := by decide +kernel
end
section
def am_t30 : List (Nat × Instr × Nat) := [(0, .aload_n 0, 1), (1, .getfield 11, 3), (4, .iconst 0, 1), (5, .aaload, 1), (6, .iload_n 1, 1), (7, .iaload, 1), (8, .ifCond .ne 7, 3), (11, .iconst 1, 1), (12, .goto 4, 3), (15, .iconst 0, 1), (16, .ireturn, 1)]
set_option maxRecDepth 100000 in
theorem am_kt30 : ∀ q ∈ am_t30, decode cX8_isWater q.1 = .ok q.2 := by decide +kernel
def am_t31 : List (Nat × Instr × Nat) := [(0, .iconst 0, 1), (1, .istore 4, 2), (3, .iload 4, 2), (5, .aload_n 0, 1), (6, .getfield 33, 3), (9, .if_icmp .ge 54, 3), (12, .aload_n 0, 1), (13, .getfield 27, 3), (16, .iload 4, 2), (18, .iaload, 1), (19, .iload_n 1, 1), (20, .if_icmp .ne 37, 3), (23, .iload_n 2, 1), (24, .aload_n 0, 1), (25, .getfield 15, 3), (28, .iload 4, 2), (30, .iaload, 1), (31, .aload_n 0, 1), (32, .getfield 18, 3), (35, .iload 4, 2), (37, .iaload, 1), (38, .iadd, 1), (39, .if_icmp .ge 18, 3), (42, .aload_n 0, 1), (43, .getfield 15, 3), (46, .iload 4, 2), (48, .iaload, 1), (49, .iload_n 2, 1), (50, .iload_n 3, 1), (51, .iadd, 1), (52, .if_icmp .ge 5, 3), (55, .iconst 1, 1), (56, .ireturn, 1), (57, .iinc 4 1, 3), (60, .goto (-57), 3), (63, .iconst 0, 1), (64, .ireturn, 1)]
set_option maxRecDepth 100000 in
theorem am_kt31 : ∀ q ∈ am_t31, decode cX0_hasNumbers q.1 = .ok q.2 := by decide +kernel
def am_t32 : List (Nat × Instr × Nat) := [(0, .aload_n 0, 1), (1, .getfield 9, 3), (4, .aload_n 0, 1), (5, .getfield 33, 3), (8, .iload_n 1, 1), (9, .iastore, 1), (10, .aload_n 0, 1), (11, .getfield 15, 3), (14, .aload_n 0, 1), (15, .getfield 33, 3), (18, .iload_n 2, 1), (19, .iastore, 1), (20, .aload_n 0, 1), (21, .getfield 18, 3), (24, .aload_n 0, 1), (25, .getfield 33, 3), (28, .iload_n 3, 1), (29, .iastore, 1), (30, .aload_n 0, 1), (31, .getfield 21, 3), (34, .aload_n 0, 1), (35, .getfield 33, 3), (38, .iload 4, 2), (40, .iastore, 1), (41, .aload_n 0, 1), (42, .getfield 24, 3), (45, .aload_n 0, 1), (46, .getfield 33, 3), (49, .iload 5, 2), (51, .iastore, 1), (52, .aload_n 0, 1), (53, .getfield 27, 3), (56, .aload_n 0, 1), (57, .getfield 33, 3), (60, .iload 6, 2), (62, .iastore, 1), (63, .aload_n 0, 1), (64, .getfield 30, 3), (67, .aload_n 0, 1), (68, .getfield 33, 3), (71, .iload 7, 2), (73, .iastore, 1), (74, .aload_n 0, 1), (75, .dup, 1), (76, .getfield 33, 3), (79, .dup_x1, 1), (80, .iconst 1, 1), (81, .iadd, 1), (82, .putfield 33, 3), (85, .ireturn, 1)]
set_option maxRecDepth 100000 in
theorem am_kt32_0 : ∀ q ∈ (am_t32.drop 0).take 40, decode cX0_add q.1 = .ok q.2 := by decide +kernel
set_option maxRecDepth 100000 in
theorem am_kt32_1 : ∀ q ∈ (am_t32.drop 40).take 40, decode cX0_add q.1 = .ok q.2 := by decide +kernel
set_option maxRecDepth 100000 in
theorem am_kt32 : ∀ q ∈ am_t32, decode cX0_add q.1 = .ok q.2 := by
  intro q hq
  rw [← List.take_append_drop 40 (am_t32)] at hq
  rcases List.mem_append.mp hq with hq | hq
  · exact am_kt32_0 q hq
  exact am_kt32_1 q (by rw [List.take_of_length_le (by decide)]; exact hq)
def am_t33 : List (Nat × Instr × Nat) := [(0, .iconst 0, 1), (1, .istore_n 2, 1), (2, .iload_n 2, 1), (3, .aload_n 0, 1), (4, .getfield 24, 3), (7, .getfield 32, 3), (10, .if_icmp .ge 23, 3), (13, .aload_n 0, 1), (14, .getfield 11, 3), (17, .iload_n 2, 1), (18, .aaload, 1), (19, .iload_n 1, 1), (20, .aload_n 0, 1), (21, .iload_n 2, 1), (22, .iload_n 1, 1), (23, .invokevirtual 38, 3), (26, .iastore, 1), (27, .iinc 2 1, 3), (30, .goto (-28), 3), (33, .return_, 1)]
set_option maxRecDepth 100000 in
theorem am_kt33 : ∀ q ∈ am_t33, decode cX7_matchCast q.1 = .ok q.2 := by decide +kernel
def am_t34 : List (Nat × Instr × Nat) := [(0, .aload_n 0, 1), (1, .getfield 24, 3), (4, .getfield 45, 3), (7, .iload_n 1, 1), (8, .iaload, 1), (9, .aload_n 0, 1), (10, .getfield 16, 3), (13, .getfield 49, 3), (16, .iload_n 2, 1), (17, .iaload, 1), (18, .if_icmp .eq 5, 3), (21, .iconst 0, 1), (22, .ireturn, 1), (23, .iconst 0, 1), (24, .istore_n 3, 1), (25, .iconst 0, 1), (26, .istore 4, 2), (28, .iload 4, 2), (30, .aload_n 0, 1), (31, .getfield 16, 3), (34, .getfield 50, 3), (37, .iload_n 2, 1), (38, .iaload, 1), (39, .if_icmp .ge 39, 3), (42, .aload_n 0, 1), (43, .getfield 24, 3), (46, .getfield 53, 3), (49, .iload_n 1, 1), (50, .iaload, 1), (51, .aload_n 0, 1), (52, .getfield 16, 3), (55, .getfield 56, 3), (58, .iload_n 2, 1), (59, .iaload, 1), (60, .iload 4, 2), (62, .iadd, 1), (63, .invokestatic 59, 3), (66, .ifCond .eq 6, 3), (69, .iinc 3 1, 3), (72, .iinc 4 1, 3), (75, .goto (-47), 3), (78, .iload_n 3, 1), (79, .ireturn, 1)]
set_option maxRecDepth 100000 in
theorem am_kt34_0 : ∀ q ∈ (am_t34.drop 0).take 40, decode cX7_countCards q.1 = .ok q.2 := by decide +kernel
set_option maxRecDepth 100000 in
theorem am_kt34_1 : ∀ q ∈ (am_t34.drop 40).take 40, decode cX7_countCards q.1 = .ok q.2 := by decide +kernel
set_option maxRecDepth 100000 in
theorem am_kt34 : ∀ q ∈ am_t34, decode cX7_countCards q.1 = .ok q.2 := by
  intro q hq
  rw [← List.take_append_drop 40 (am_t34)] at hq
  rcases List.mem_append.mp hq with hq | hq
  · exact am_kt34_0 q hq
  exact am_kt34_1 q (by rw [List.take_of_length_le (by decide)]; exact hq)
def am_t35 : List (Nat × Instr × Nat) := [(0, .iload_n 1, 1), (1, .istore_n 2, 1), (2, .iconst 0, 1), (3, .istore_n 3, 1), (4, .iload_n 3, 1), (5, .iconst 4, 1), (6, .if_icmp .ge 39, 3), (9, .iload_n 0, 1), (10, .iload_n 3, 1), (11, .invokestatic 63, 3), (14, .istore 4, 2), (16, .iload 4, 2), (18, .bipush 10, 2), (20, .if_icmp .eq 14, 3), (23, .iload 4, 2), (25, .iload_n 2, 1), (26, .bipush 10, 2), (28, .irem, 1), (29, .if_icmp .eq 5, 3), (32, .iconst 0, 1), (33, .ireturn, 1), (34, .iload_n 2, 1), (35, .bipush 10, 2), (37, .idiv, 1), (38, .istore_n 2, 1), (39, .iinc 3 1, 3), (42, .goto (-38), 3), (45, .iconst 1, 1), (46, .ireturn, 1)]
set_option maxRecDepth 100000 in
theorem am_kt35 : ∀ q ∈ am_t35, decode cX7_agrees q.1 = .ok q.2 := by decide +kernel
def am_t36 : List (Nat × Instr × Nat) := [(0, .iload_n 0, 1), (1, .iconst 4, 1), (2, .iload_n 1, 1), (3, .imul, 1), (4, .ishr, 1), (5, .bipush 15, 2), (7, .iand, 1), (8, .ireturn, 1)]
set_option maxRecDepth 100000 in
theorem am_kt36 : ∀ q ∈ am_t36, decode cX10_digitOf q.1 = .ok q.2 := by decide +kernel
def am_t37 : List (Nat × Instr × Nat) := [(0, .iload_n 1, 1), (1, .aload_n 0, 1), (2, .getfield 19, 3), (5, .getfield 109, 3), (8, .invokestatic 98, 3), (11, .ifCond .ne 5, 3), (14, .iconst (-1), 1), (15, .ireturn, 1), (16, .iload_n 2, 1), (17, .tableswitch 99 0 5 #[39, 49, 59, 69, 79, 89], 39), (56, .aload_n 0, 1), (57, .getfield 19, 3), (60, .getfield 165, 3), (63, .iload_n 1, 1), (64, .iaload, 1), (65, .ireturn, 1), (66, .aload_n 0, 1), (67, .getfield 19, 3), (70, .getfield 168, 3), (73, .iload_n 1, 1), (74, .iaload, 1), (75, .ireturn, 1), (76, .aload_n 0, 1), (77, .getfield 19, 3), (80, .getfield 171, 3), (83, .iload_n 1, 1), (84, .iaload, 1), (85, .ireturn, 1), (86, .aload_n 0, 1), (87, .getfield 19, 3), (90, .getfield 174, 3), (93, .iload_n 1, 1), (94, .iaload, 1), (95, .ireturn, 1), (96, .aload_n 0, 1), (97, .getfield 19, 3), (100, .getfield 177, 3), (103, .iload_n 1, 1), (104, .iaload, 1), (105, .ireturn, 1), (106, .aload_n 0, 1), (107, .getfield 19, 3), (110, .getfield 180, 3), (113, .iload_n 1, 1), (114, .iaload, 1), (115, .ireturn, 1), (116, .iconst (-1), 1), (117, .ireturn, 1)]
set_option maxRecDepth 100000 in
theorem am_kt37_0 : ∀ q ∈ (am_t37.drop 0).take 40, decode cX10_about q.1 = .ok q.2 := by decide +kernel
set_option maxRecDepth 100000 in
theorem am_kt37_1 : ∀ q ∈ (am_t37.drop 40).take 40, decode cX10_about q.1 = .ok q.2 := by decide +kernel
set_option maxRecDepth 100000 in
theorem am_kt37 : ∀ q ∈ am_t37, decode cX10_about q.1 = .ok q.2 := by
  intro q hq
  rw [← List.take_append_drop 40 (am_t37)] at hq
  rcases List.mem_append.mp hq with hq | hq
  · exact am_kt37_0 q hq
  exact am_kt37_1 q (by rw [List.take_of_length_le (by decide)]; exact hq)
def am_t38 : List (Nat × Instr × Nat) := [(0, .iload_n 1, 1), (1, .aload_n 0, 1), (2, .getfield 19, 3), (5, .getfield 109, 3), (8, .invokestatic 98, 3), (11, .ifCond .eq 12, 3), (14, .iload_n 3, 1), (15, .iconst 0, 1), (16, .iconst 5, 1), (17, .invokestatic 105, 3), (20, .ifCond .ne 5, 3), (23, .iconst (-1), 1), (24, .ireturn, 1), (25, .iload_n 2, 1), (26, .iconst 0, 1), (27, .bipush 12, 2), (29, .invokestatic 105, 3), (32, .ifCond .ne 6, 3), (35, .bipush (-2), 2), (37, .ireturn, 1), (38, .aload_n 0, 1), (39, .getfield 42, 3), (42, .aload_n 0, 1), (43, .getfield 19, 3), (46, .iload_n 1, 1), (47, .aload_n 0, 1), (48, .getfield 12, 3), (51, .getfield 183, 3), (54, .invokevirtual 186, 3), (57, .aload_n 0, 1), (58, .getfield 42, 3), (61, .iload_n 2, 1), (62, .invokevirtual 190, 3), (65, .aload_n 0, 1), (66, .getfield 42, 3), (69, .iload_n 3, 1), (70, .invokevirtual 193, 3), (73, .ireturn, 1)]
set_option maxRecDepth 100000 in
theorem am_kt38 : ∀ q ∈ am_t38, decode cX10_parts q.1 = .ok q.2 := by decide +kernel
def am_t39 : List (Nat × Instr × Nat) := [(0, .aload_n 0, 1), (1, .aload_n 1, 1), (2, .getfield 31, 3), (5, .iload_n 2, 1), (6, .iaload, 1), (7, .aload_n 1, 1), (8, .getfield 36, 3), (11, .iload_n 2, 1), (12, .iaload, 1), (13, .aload_n 1, 1), (14, .getfield 39, 3), (17, .iload_n 2, 1), (18, .iaload, 1), (19, .aload_n 1, 1), (20, .getfield 42, 3), (23, .iload_n 2, 1), (24, .iaload, 1), (25, .aload_n 3, 1), (26, .invokevirtual 45, 3), (29, .return_, 1)]
set_option maxRecDepth 100000 in
theorem am_kt39 : ∀ q ∈ am_t39, decode cX1_startCast q.1 = .ok q.2 := by decide +kernel
def am_t40 : List (Nat × Instr × Nat) := [(0, .aload_n 0, 1), (1, .getfield 9, 3), (4, .iconst 0, 1), (5, .invokestatic 49, 3), (8, .aload_n 0, 1), (9, .getfield 18, 3), (12, .iconst 0, 1), (13, .invokestatic 49, 3), (16, .aload_n 0, 1), (17, .getfield 21, 3), (20, .iconst 0, 1), (21, .invokestatic 49, 3), (24, .aload 5, 2), (26, .iconst 0, 1), (27, .aload_n 0, 1), (28, .getfield 24, 3), (31, .iconst 0, 1), (32, .iconst 3, 1), (33, .invokestatic 55, 3), (36, .aload_n 0, 1), (37, .getfield 9, 3), (40, .iload_n 3, 1), (41, .ldc 61, 2), (43, .iastore, 1), (44, .aload_n 0, 1), (45, .iload_n 1, 1), (46, .putfield 62, 3), (49, .aload_n 0, 1), (50, .iload_n 2, 1), (51, .putfield 65, 3), (54, .aload_n 0, 1), (55, .iload 4, 2), (57, .putfield 68, 3), (60, .aload_n 0, 1), (61, .iconst 0, 1), (62, .putfield 70, 3), (65, .aload_n 0, 1), (66, .iconst 0, 1), (67, .putfield 73, 3), (70, .aload_n 0, 1), (71, .iconst 0, 1), (72, .putfield 76, 3), (75, .aload_n 0, 1), (76, .iconst 0, 1), (77, .putfield 79, 3), (80, .return_, 1)]
set_option maxRecDepth 100000 in
theorem am_kt40_0 : ∀ q ∈ (am_t40.drop 0).take 40, decode cX1_start q.1 = .ok q.2 := by decide +kernel
set_option maxRecDepth 100000 in
theorem am_kt40_1 : ∀ q ∈ (am_t40.drop 40).take 40, decode cX1_start q.1 = .ok q.2 := by decide +kernel
set_option maxRecDepth 100000 in
theorem am_kt40 : ∀ q ∈ am_t40, decode cX1_start q.1 = .ok q.2 := by
  intro q hq
  rw [← List.take_append_drop 40 (am_t40)] at hq
  rcases List.mem_append.mp hq with hq | hq
  · exact am_kt40_0 q hq
  exact am_kt40_1 q (by rw [List.take_of_length_le (by decide)]; exact hq)
def am_t41 : List (Nat × Instr × Nat) := [(0, .iconst 0, 1), (1, .istore_n 2, 1), (2, .aload_n 0, 1), (3, .arraylength, 1), (4, .istore_n 3, 1), (5, .iload_n 2, 1), (6, .iload_n 3, 1), (7, .if_icmp .ge 13, 3), (10, .aload_n 0, 1), (11, .iload_n 2, 1), (12, .iload_n 1, 1), (13, .iastore, 1), (14, .iinc 2 1, 3), (17, .goto (-12), 3), (20, .return_, 1)]
set_option maxRecDepth 100000 in
theorem am_kt41 : ∀ q ∈ am_t41, decode cJ7_fill_53178 q.1 = .ok q.2 := by decide +kernel
def am_t42 : List (Nat × Instr × Nat) := [(0, .iconst 0, 1), (1, .istore_n 2, 1), (2, .iload_n 2, 1), (3, .iload_n 1, 1), (4, .if_icmp .ge 68, 3), (7, .aload_n 0, 1), (8, .getfield 70, 3), (11, .bipush 12, 2), (13, .if_icmp .ge 59, 3), (16, .aload_n 0, 1), (17, .getfield 62, 3), (20, .iconst 2, 1), (21, .if_icmp .ne 18, 3), (24, .aload_n 0, 1), (25, .getfield 70, 3), (28, .aload_n 0, 1), (29, .getfield 68, 3), (32, .if_icmp .lt 7, 3), (35, .aload_n 0, 1), (36, .invokevirtual 82, 3), (39, .aload_n 0, 1), (40, .aload_n 0, 1), (41, .getfield 65, 3), (44, .aload_n 0, 1), (45, .getfield 70, 3), (48, .iadd, 1), (49, .invokevirtual 85, 3), (52, .aload_n 0, 1), (53, .invokevirtual 89, 3), (56, .aload_n 0, 1), (57, .dup, 1), (58, .getfield 70, 3), (61, .iconst 1, 1), (62, .iadd, 1), (63, .putfield 70, 3), (66, .iinc 2 1, 3), (69, .goto (-67), 3), (72, .return_, 1)]
set_option maxRecDepth 100000 in
theorem am_kt42 : ∀ q ∈ am_t42, decode cX1_goOn q.1 = .ok q.2 := by decide +kernel
def am_t43 : List (Nat × Instr × Nat) := [(0, .aload_n 0, 1), (1, .dup, 1), (2, .getfield 79, 3), (5, .aload_n 0, 1), (6, .getfield 9, 3), (9, .invokestatic 92, 3), (12, .iadd, 1), (13, .putfield 79, 3), (16, .aload_n 0, 1), (17, .getfield 9, 3), (20, .iconst 0, 1), (21, .invokestatic 49, 3), (24, .return_, 1)]
set_option maxRecDepth 100000 in
theorem am_kt43 : ∀ q ∈ am_t43, decode cX1_sinkAll q.1 = .ok q.2 := by decide +kernel
def am_t44 : List (Nat × Instr × Nat) := [(0, .iconst 0, 1), (1, .istore_n 1, 1), (2, .aload_n 0, 1), (3, .astore_n 2, 1), (4, .aload_n 2, 1), (5, .arraylength, 1), (6, .istore_n 3, 1), (7, .iconst 0, 1), (8, .istore 4, 2), (10, .iload 4, 2), (12, .iload_n 3, 1), (13, .if_icmp .ge 20, 3), (16, .aload_n 2, 1), (17, .iload 4, 2), (19, .iaload, 1), (20, .istore 5, 2), (22, .iload_n 1, 1), (23, .iload 5, 2), (25, .iadd, 1), (26, .istore_n 1, 1), (27, .iinc 4 1, 3), (30, .goto (-20), 3), (33, .iload_n 1, 1), (34, .ireturn, 1)]
set_option maxRecDepth 100000 in
theorem am_kt44 : ∀ q ∈ am_t44, decode cX1_sumOf q.1 = .ok q.2 := by decide +kernel
def am_t45 : List (Nat × Instr × Nat) := [(0, .aload_n 0, 1), (1, .aload_n 0, 1), (2, .aload_n 0, 1), (3, .getfield 27, 3), (6, .iload_n 1, 1), (7, .invokevirtual 96, 3), (10, .invokevirtual 102, 3), (13, .putfield 105, 3), (16, .aload_n 0, 1), (17, .aload_n 0, 1), (18, .aload_n 0, 1), (19, .getfield 27, 3), (22, .iload_n 1, 1), (23, .invokevirtual 108, 3), (26, .invokevirtual 102, 3), (29, .putfield 111, 3), (32, .aload_n 0, 1), (33, .getfield 15, 3), (36, .iconst 0, 1), (37, .invokestatic 49, 3), (40, .iconst 0, 1), (41, .istore_n 2, 1), (42, .iload_n 2, 1), (43, .bipush 60, 2), (45, .if_icmp .ge 57, 3), (48, .aload_n 0, 1), (49, .getfield 9, 3), (52, .iload_n 2, 1), (53, .iaload, 1), (54, .ifCond .ne 6, 3), (57, .goto 39, 3), (60, .aload_n 0, 1), (61, .getfield 27, 3), (64, .iload_n 2, 1), (65, .iload_n 1, 1), (66, .invokevirtual 114, 3), (69, .ifCond .eq 21, 3), (72, .aload_n 0, 1), (73, .getfield 15, 3), (76, .iload_n 2, 1), (77, .dup2, 1), (78, .iaload, 1), (79, .aload_n 0, 1), (80, .getfield 9, 3), (83, .iload_n 2, 1), (84, .iaload, 1), (85, .iadd, 1), (86, .iastore, 1), (87, .goto 9, 3), (90, .aload_n 0, 1), (91, .iload_n 2, 1), (92, .iload_n 1, 1), (93, .invokevirtual 118, 3), (96, .iinc 2 1, 3), (99, .goto (-57), 3), (102, .aload_n 0, 1), (103, .getfield 15, 3), (106, .iconst 0, 1), (107, .aload_n 0, 1), (108, .getfield 9, 3), (111, .iconst 0, 1), (112, .bipush 60, 2), (114, .invokestatic 55, 3), (117, .return_, 1)]
set_option maxRecDepth 100000 in
theorem am_kt45_0 : ∀ q ∈ (am_t45.drop 0).take 40, decode cX1_goInWater q.1 = .ok q.2 := by decide +kernel
set_option maxRecDepth 100000 in
theorem am_kt45_1 : ∀ q ∈ (am_t45.drop 40).take 40, decode cX1_goInWater q.1 = .ok q.2 := by decide +kernel
set_option maxRecDepth 100000 in
theorem am_kt45 : ∀ q ∈ am_t45, decode cX1_goInWater q.1 = .ok q.2 := by
  intro q hq
  rw [← List.take_append_drop 40 (am_t45)] at hq
  rcases List.mem_append.mp hq with hq | hq
  · exact am_kt45_0 q hq
  exact am_kt45_1 q (by rw [List.take_of_length_le (by decide)]; exact hq)
def am_t46 : List (Nat × Instr × Nat) := [(0, .aload_n 0, 1), (1, .getfield 35, 3), (4, .iload_n 1, 1), (5, .bipush 48, 2), (7, .irem, 1), (8, .baload, 1), (9, .ifCond .eq 15, 3), (12, .aload_n 0, 1), (13, .getfield 39, 3), (16, .iload_n 1, 1), (17, .bipush 48, 2), (19, .irem, 1), (20, .iaload, 1), (21, .goto 12, 3), (24, .aload_n 0, 1), (25, .getfield 29, 3), (28, .iload_n 1, 1), (29, .bipush 12, 2), (31, .irem, 1), (32, .iaload, 1), (33, .ireturn, 1)]
set_option maxRecDepth 100000 in
theorem am_kt46 : ∀ q ∈ am_t46, decode cX8_eastWindIn q.1 = .ok q.2 := by decide +kernel
def am_t47 : List (Nat × Instr × Nat) := [(0, .aload_n 0, 1), (1, .getfield 62, 3), (4, .tableswitch 38 1 3 #[28, 30, 34], 28), (32, .iload_n 1, 1), (33, .ireturn, 1), (34, .iload_n 1, 1), (35, .iconst 2, 1), (36, .idiv, 1), (37, .ireturn, 1), (38, .iconst 2, 1), (39, .iload_n 1, 1), (40, .imul, 1), (41, .ireturn, 1), (42, .iconst 0, 1), (43, .ireturn, 1)]
set_option maxRecDepth 100000 in
theorem am_kt47 : ∀ q ∈ am_t47, decode cX1_asItFloats q.1 = .ok q.2 := by decide +kernel
def am_t48 : List (Nat × Instr × Nat) := [(0, .aload_n 0, 1), (1, .getfield 35, 3), (4, .iload_n 1, 1), (5, .bipush 48, 2), (7, .irem, 1), (8, .baload, 1), (9, .ifCond .eq 15, 3), (12, .aload_n 0, 1), (13, .getfield 42, 3), (16, .iload_n 1, 1), (17, .bipush 48, 2), (19, .irem, 1), (20, .iaload, 1), (21, .goto 12, 3), (24, .aload_n 0, 1), (25, .getfield 32, 3), (28, .iload_n 1, 1), (29, .bipush 12, 2), (31, .irem, 1), (32, .iaload, 1), (33, .ireturn, 1)]
set_option maxRecDepth 100000 in
theorem am_kt48 : ∀ q ∈ am_t48, decode cX8_northWindIn q.1 = .ok q.2 := by decide +kernel
def am_t49 : List (Nat × Instr × Nat) := [(0, .aload_n 0, 1), (1, .getfield 11, 3), (4, .iconst 4, 1), (5, .aaload, 1), (6, .iload_n 1, 1), (7, .iaload, 1), (8, .iload_n 2, 1), (9, .bipush 12, 2), (11, .irem, 1), (12, .ishr, 1), (13, .iconst 1, 1), (14, .iand, 1), (15, .iconst 1, 1), (16, .if_icmp .ne 7, 3), (19, .iconst 1, 1), (20, .goto 4, 3), (23, .iconst 0, 1), (24, .ireturn, 1)]
set_option maxRecDepth 100000 in
theorem am_kt49 : ∀ q ∈ am_t49, decode cX8_isIcy q.1 = .ok q.2 := by decide +kernel
def am_t50 : List (Nat × Instr × Nat) := [(0, .aload_n 0, 1), (1, .getfield 27, 3), (4, .getfield 122, 3), (7, .iconst 1, 1), (8, .aaload, 1), (9, .iload_n 1, 1), (10, .iaload, 1), (11, .istore_n 3, 1), (12, .iload_n 3, 1), (13, .bipush 12, 2), (15, .imul, 1), (16, .iload_n 2, 1), (17, .bipush 12, 2), (19, .irem, 1), (20, .iadd, 1), (21, .istore 4, 2), (23, .aload_n 0, 1), (24, .getfield 105, 3), (27, .aload_n 0, 1), (28, .getfield 24, 3), (31, .iload_n 3, 1), (32, .iaload, 1), (33, .iadd, 1), (34, .istore 5, 2), (36, .aload_n 0, 1), (37, .getfield 9, 3), (40, .iload_n 1, 1), (41, .iaload, 1), (42, .iconst 4, 1), (43, .idiv, 1), (44, .istore 6, 2), (46, .aload_n 0, 1), (47, .getfield 9, 3), (50, .iload_n 1, 1), (51, .iaload, 1), (52, .iconst 2, 1), (53, .iload 6, 2), (55, .imul, 1), (56, .isub, 1), (57, .istore 7, 2), (59, .aload_n 0, 1), (60, .iload_n 1, 1), (61, .aload_n 0, 1), (62, .getfield 27, 3), (65, .getfield 126, 3), (68, .iload 4, 2), (70, .iaload, 1), (71, .iload 5, 2), (73, .iadd, 1), (74, .aload_n 0, 1), (75, .getfield 27, 3), (78, .getfield 129, 3), (81, .iload 4, 2), (83, .iaload, 1), (84, .aload_n 0, 1), (85, .getfield 111, 3), (88, .iadd, 1), (89, .iload 6, 2), (91, .invokevirtual 132, 3), (94, .aload_n 0, 1), (95, .iload_n 1, 1), (96, .aload_n 0, 1), (97, .getfield 27, 3), (100, .getfield 136, 3), (103, .iload 4, 2), (105, .iaload, 1), (106, .iload 5, 2), (108, .iadd, 1), (109, .aload_n 0, 1), (110, .getfield 27, 3), (113, .getfield 139, 3), (116, .iload 4, 2), (118, .iaload, 1), (119, .aload_n 0, 1), (120, .getfield 111, 3), (123, .iadd, 1), (124, .iload 6, 2), (126, .invokevirtual 132, 3), (129, .aload_n 0, 1), (130, .iload_n 1, 1), (131, .aload_n 0, 1), (132, .getfield 27, 3), (135, .getfield 126, 3), (138, .iload 4, 2), (140, .iaload, 1), (141, .aload_n 0, 1), (142, .getfield 27, 3), (145, .getfield 136, 3), (148, .iload 4, 2), (150, .iaload, 1), (151, .iadd, 1), (152, .iconst 2, 1), (153, .idiv, 1), (154, .iload 5, 2), (156, .iadd, 1), (157, .aload_n 0, 1), (158, .getfield 27, 3), (161, .getfield 129, 3), (164, .iload 4, 2), (166, .iaload, 1), (167, .aload_n 0, 1), (168, .getfield 27, 3), (171, .getfield 139, 3), (174, .iload 4, 2), (176, .iaload, 1), (177, .iadd, 1), (178, .iconst 2, 1), (179, .idiv, 1), (180, .aload_n 0, 1), (181, .getfield 111, 3), (184, .iadd, 1), (185, .iload 7, 2), (187, .invokevirtual 132, 3), (190, .return_, 1)]
set_option maxRecDepth 100000 in
theorem am_kt50_0 : ∀ q ∈ (am_t50.drop 0).take 40, decode cX1_goFrom q.1 = .ok q.2 := by decide +kernel
set_option maxRecDepth 100000 in
theorem am_kt50_1 : ∀ q ∈ (am_t50.drop 40).take 40, decode cX1_goFrom q.1 = .ok q.2 := by decide +kernel
set_option maxRecDepth 100000 in
theorem am_kt50_2 : ∀ q ∈ (am_t50.drop 80).take 40, decode cX1_goFrom q.1 = .ok q.2 := by decide +kernel
set_option maxRecDepth 100000 in
theorem am_kt50 : ∀ q ∈ am_t50, decode cX1_goFrom q.1 = .ok q.2 := by
  intro q hq
  rw [← List.take_append_drop 40 (am_t50)] at hq
  rcases List.mem_append.mp hq with hq | hq
  · exact am_kt50_0 q hq
  rw [← List.take_append_drop 40 ((am_t50.drop 40))] at hq
  rcases List.mem_append.mp hq with hq | hq
  · exact am_kt50_1 q hq
  rw [List.drop_drop] at hq
  exact am_kt50_2 q (by rw [List.take_of_length_le (by decide)]; exact hq)
def am_t51 : List (Nat × Instr × Nat) := [(0, .iload_n 1, 1), (1, .bipush 6, 2), (3, .idiv, 1), (4, .istore 5, 2), (6, .iload_n 1, 1), (7, .bipush 6, 2), (9, .irem, 1), (10, .istore 6, 2), (12, .iload_n 2, 1), (13, .invokestatic 142, 3), (16, .istore 7, 2), (18, .iload 7, 2), (20, .iload_n 3, 1), (21, .invokestatic 142, 3), (24, .iadd, 1), (25, .istore 8, 2), (27, .iconst 0, 1), (28, .istore 9, 2), (30, .iload 9, 2), (32, .iload 8, 2), (34, .if_icmp .ge 133, 3), (37, .iload 9, 2), (39, .iload 7, 2), (41, .if_icmp .ge 13, 3), (44, .iload 5, 2), (46, .iload_n 2, 1), (47, .invokestatic 147, 3), (50, .iadd, 1), (51, .goto 5, 3), (54, .iload 5, 2), (56, .istore 10, 2), (58, .iload 9, 2), (60, .iload 7, 2), (62, .if_icmp .ge 8, 3), (65, .iload 6, 2), (67, .goto 10, 3), (70, .iload 6, 2), (72, .iload_n 3, 1), (73, .invokestatic 147, 3), (76, .iadd, 1), (77, .istore 11, 2), (79, .iload 10, 2), (81, .iload 11, 2), (83, .invokestatic 152, 3), (86, .ifCond .ne 15, 3), (89, .aload_n 0, 1), (90, .dup, 1), (91, .getfield 76, 3), (94, .iload 4, 2), (96, .iadd, 1), (97, .putfield 76, 3), (100, .return_, 1), (101, .aload_n 0, 1), (102, .getfield 27, 3), (105, .getfield 122, 3), (108, .iconst 0, 1), (109, .aaload, 1), (110, .iload 10, 2), (112, .iload 11, 2), (114, .invokestatic 155, 3), (117, .iaload, 1), (118, .istore 12, 2), (120, .iload 12, 2), (122, .iconst 1, 1), (123, .if_icmp .ne 21, 3), (126, .aload_n 0, 1), (127, .getfield 18, 3), (130, .iload 10, 2), (132, .iload 11, 2), (134, .invokestatic 155, 3), (137, .dup2, 1), (138, .iaload, 1), (139, .iload 4, 2), (141, .iadd, 1), (142, .iastore, 1), (143, .return_, 1), (144, .iload 12, 2), (146, .iconst 2, 1), (147, .if_icmp .ne 6, 3), (150, .goto 17, 3), (153, .iload 10, 2), (155, .istore 5, 2), (157, .iload 11, 2), (159, .istore 6, 2), (161, .iinc 9 1, 3), (164, .goto (-134), 3), (167, .aload_n 0, 1), (168, .getfield 15, 3), (171, .iload 5, 2), (173, .iload 6, 2), (175, .invokestatic 155, 3), (178, .dup2, 1), (179, .iaload, 1), (180, .iload 4, 2), (182, .iadd, 1), (183, .iastore, 1), (184, .return_, 1)]
set_option maxRecDepth 100000 in
theorem am_kt51_0 : ∀ q ∈ (am_t51.drop 0).take 40, decode cX1_send q.1 = .ok q.2 := by decide +kernel
set_option maxRecDepth 100000 in
theorem am_kt51_1 : ∀ q ∈ (am_t51.drop 40).take 40, decode cX1_send q.1 = .ok q.2 := by decide +kernel
set_option maxRecDepth 100000 in
theorem am_kt51_2 : ∀ q ∈ (am_t51.drop 80).take 40, decode cX1_send q.1 = .ok q.2 := by decide +kernel
set_option maxRecDepth 100000 in
theorem am_kt51 : ∀ q ∈ am_t51, decode cX1_send q.1 = .ok q.2 := by
  intro q hq
  rw [← List.take_append_drop 40 (am_t51)] at hq
  rcases List.mem_append.mp hq with hq | hq
  · exact am_kt51_0 q hq
  rw [← List.take_append_drop 40 ((am_t51.drop 40))] at hq
  rcases List.mem_append.mp hq with hq | hq
  · exact am_kt51_1 q hq
  rw [List.drop_drop] at hq
  exact am_kt51_2 q (by rw [List.take_of_length_le (by decide)]; exact hq)
def am_t52 : List (Nat × Instr × Nat) := [(0, .iload_n 0, 1), (1, .ifCond .ge 8, 3), (4, .iload_n 0, 1), (5, .ineg, 1), (6, .goto 4, 3), (9, .iload_n 0, 1), (10, .ireturn, 1)]
set_option maxRecDepth 100000 in
theorem am_kt52 : ∀ q ∈ am_t52, decode cJ9_abs_0f7a4 q.1 = .ok q.2 := by decide +kernel
def am_t53 : List (Nat × Instr × Nat) := [(0, .iload_n 0, 1), (1, .bipush 31, 2), (3, .ishr, 1), (4, .iload_n 0, 1), (5, .ineg, 1), (6, .bipush 31, 2), (8, .iushr, 1), (9, .ior, 1), (10, .ireturn, 1)]
set_option maxRecDepth 100000 in
theorem am_kt53 : ∀ q ∈ am_t53, decode cJ6_signum_0f7a4 q.1 = .ok q.2 := by decide +kernel
def am_t54 : List (Nat × Instr × Nat) := [(0, .iconst 0, 1), (1, .istore_n 1, 1), (2, .iload_n 1, 1), (3, .bipush 60, 2), (5, .if_icmp .ge 106, 3), (8, .aload_n 0, 1), (9, .getfield 18, 3), (12, .iload_n 1, 1), (13, .iaload, 1), (14, .ifCond .ne 6, 3), (17, .goto 88, 3), (20, .aload_n 0, 1), (21, .getfield 18, 3), (24, .iload_n 1, 1), (25, .iaload, 1), (26, .aload_n 0, 1), (27, .getfield 27, 3), (30, .getfield 122, 3), (33, .iconst 3, 1), (34, .aaload, 1), (35, .iload_n 1, 1), (36, .iaload, 1), (37, .imul, 1), (38, .bipush 16, 2), (40, .idiv, 1), (41, .istore_n 2, 1), (42, .aload_n 0, 1), (43, .getfield 18, 3), (46, .iload_n 1, 1), (47, .iaload, 1), (48, .iload_n 2, 1), (49, .isub, 1), (50, .istore_n 3, 1), (51, .iload_n 3, 1), (52, .aload_n 0, 1), (53, .getfield 27, 3), (56, .getfield 122, 3), (59, .iconst 2, 1), (60, .aaload, 1), (61, .iload_n 1, 1), (62, .iaload, 1), (63, .imul, 1), (64, .bipush 16, 2), (66, .idiv, 1), (67, .istore 4, 2), (69, .aload_n 0, 1), (70, .getfield 21, 3), (73, .aload_n 0, 1), (74, .getfield 70, 3), (77, .bipush 60, 2), (79, .imul, 1), (80, .iload_n 1, 1), (81, .iadd, 1), (82, .iload_n 2, 1), (83, .iastore, 1), (84, .aload_n 0, 1), (85, .dup, 1), (86, .getfield 73, 3), (89, .iload 4, 2), (91, .iadd, 1), (92, .putfield 73, 3), (95, .aload_n 0, 1), (96, .getfield 18, 3), (99, .iload_n 1, 1), (100, .iload_n 3, 1), (101, .iload 4, 2), (103, .isub, 1), (104, .iastore, 1), (105, .iinc 1 1, 3), (108, .goto (-106), 3), (111, .return_, 1)]
set_option maxRecDepth 100000 in
theorem am_kt54_0 : ∀ q ∈ (am_t54.drop 0).take 40, decode cX1_beWalked q.1 = .ok q.2 := by decide +kernel
set_option maxRecDepth 100000 in
theorem am_kt54_1 : ∀ q ∈ (am_t54.drop 40).take 40, decode cX1_beWalked q.1 = .ok q.2 := by decide +kernel
set_option maxRecDepth 100000 in
theorem am_kt54 : ∀ q ∈ am_t54, decode cX1_beWalked q.1 = .ok q.2 := by
  intro q hq
  rw [← List.take_append_drop 40 (am_t54)] at hq
  rcases List.mem_append.mp hq with hq | hq
  · exact am_kt54_0 q hq
  exact am_kt54_1 q (by rw [List.take_of_length_le (by decide)]; exact hq)
def am_t55 : List (Nat × Instr × Nat) := [(0, .iload_n 1, 1), (1, .tableswitch 69 0 4 #[35, 43, 51, 59, 64], 35), (36, .aload_n 0, 1), (37, .getfield 9, 3), (40, .invokestatic 92, 3), (43, .ireturn, 1), (44, .aload_n 0, 1), (45, .getfield 18, 3), (48, .invokestatic 92, 3), (51, .ireturn, 1), (52, .aload_n 0, 1), (53, .getfield 21, 3), (56, .invokestatic 92, 3), (59, .ireturn, 1), (60, .aload_n 0, 1), (61, .getfield 73, 3), (64, .ireturn, 1), (65, .aload_n 0, 1), (66, .getfield 76, 3), (69, .ireturn, 1), (70, .aload_n 0, 1), (71, .getfield 79, 3), (74, .ireturn, 1)]
set_option maxRecDepth 100000 in
theorem am_kt55 : ∀ q ∈ am_t55, decode cX1_allParts q.1 = .ok q.2 := by decide +kernel
def am_t56 : List (Nat × Instr × Nat) := [(0, .iload_n 1, 1), (1, .aload_n 0, 1), (2, .getfield 19, 3), (5, .getfield 109, 3), (8, .invokestatic 98, 3), (11, .ifCond .eq 22, 3), (14, .iload_n 3, 1), (15, .iload 4, 2), (17, .invokestatic 94, 3), (20, .ifCond .eq 13, 3), (23, .iload 5, 2), (25, .iconst 0, 1), (26, .iconst 2, 1), (27, .invokestatic 105, 3), (30, .ifCond .ne 5, 3), (33, .iconst (-1), 1), (34, .ireturn, 1), (35, .iload_n 2, 1), (36, .iconst 0, 1), (37, .bipush 12, 2), (39, .invokestatic 105, 3), (42, .ifCond .ne 6, 3), (45, .bipush (-2), 2), (47, .ireturn, 1), (48, .aload_n 0, 1), (49, .getfield 42, 3), (52, .aload_n 0, 1), (53, .getfield 19, 3), (56, .iload_n 1, 1), (57, .aload_n 0, 1), (58, .getfield 12, 3), (61, .getfield 183, 3), (64, .invokevirtual 186, 3), (67, .aload_n 0, 1), (68, .getfield 42, 3), (71, .iload_n 2, 1), (72, .invokevirtual 190, 3), (75, .aload_n 0, 1), (76, .getfield 42, 3), (79, .iload_n 3, 1), (80, .iload 4, 2), (82, .invokestatic 120, 3), (85, .iload 5, 2), (87, .invokevirtual 197, 3), (90, .ireturn, 1)]
set_option maxRecDepth 100000 in
theorem am_kt56_0 : ∀ q ∈ (am_t56.drop 0).take 40, decode cX10_partsAt q.1 = .ok q.2 := by decide +kernel
set_option maxRecDepth 100000 in
theorem am_kt56_1 : ∀ q ∈ (am_t56.drop 40).take 40, decode cX10_partsAt q.1 = .ok q.2 := by decide +kernel
set_option maxRecDepth 100000 in
theorem am_kt56 : ∀ q ∈ am_t56, decode cX10_partsAt q.1 = .ok q.2 := by
  intro q hq
  rw [← List.take_append_drop 40 (am_t56)] at hq
  rcases List.mem_append.mp hq with hq | hq
  · exact am_kt56_0 q hq
  exact am_kt56_1 q (by rw [List.take_of_length_le (by decide)]; exact hq)
def am_t57 : List (Nat × Instr × Nat) := [(0, .iload_n 2, 1), (1, .lookupswitch 41 #[(0, 27), (1, 34)], 27), (28, .aload_n 0, 1), (29, .getfield 9, 3), (32, .iload_n 1, 1), (33, .iaload, 1), (34, .ireturn, 1), (35, .aload_n 0, 1), (36, .getfield 18, 3), (39, .iload_n 1, 1), (40, .iaload, 1), (41, .ireturn, 1), (42, .aload_n 0, 1), (43, .iload_n 1, 1), (44, .invokevirtual 159, 3), (47, .ireturn, 1)]
set_option maxRecDepth 100000 in
theorem am_kt57 : ∀ q ∈ am_t57, decode cX1_partsIn q.1 = .ok q.2 := by decide +kernel
def am_t58 : List (Nat × Instr × Nat) := [(0, .iconst 0, 1), (1, .istore_n 2, 1), (2, .iconst 0, 1), (3, .istore_n 3, 1), (4, .iload_n 3, 1), (5, .bipush 12, 2), (7, .if_icmp .ge 23, 3), (10, .iload_n 2, 1), (11, .aload_n 0, 1), (12, .getfield 21, 3), (15, .iload_n 3, 1), (16, .bipush 60, 2), (18, .imul, 1), (19, .iload_n 1, 1), (20, .iadd, 1), (21, .iaload, 1), (22, .iadd, 1), (23, .istore_n 2, 1), (24, .iinc 3 1, 3), (27, .goto (-23), 3), (30, .iload_n 2, 1), (31, .ireturn, 1)]
set_option maxRecDepth 100000 in
theorem am_kt58 : ∀ q ∈ am_t58, decode cX1_foundIn q.1 = .ok q.2 := by decide +kernel
def am_t59 : List (Nat × Instr × Nat) := [(0, .iload_n 1, 1), (1, .aload_n 0, 1), (2, .getfield 19, 3), (5, .getfield 109, 3), (8, .invokestatic 98, 3), (11, .ifCond .eq 22, 3), (14, .iload_n 2, 1), (15, .aload_n 0, 1), (16, .getfield 19, 3), (19, .getfield 109, 3), (22, .invokestatic 98, 3), (25, .ifCond .eq 8, 3), (28, .iload_n 1, 1), (29, .iload_n 2, 1), (30, .if_icmp .ne 5, 3), (33, .iconst (-1), 1), (34, .ireturn, 1), (35, .aload_n 0, 1), (36, .getfield 42, 3), (39, .aload_n 0, 1), (40, .getfield 19, 3), (43, .iload_n 1, 1), (44, .aload_n 0, 1), (45, .getfield 12, 3), (48, .getfield 183, 3), (51, .invokevirtual 186, 3), (54, .aload_n 0, 1), (55, .getfield 46, 3), (58, .aload_n 0, 1), (59, .getfield 19, 3), (62, .iload_n 2, 1), (63, .aload_n 0, 1), (64, .getfield 12, 3), (67, .getfield 183, 3), (70, .invokevirtual 186, 3), (73, .iconst 0, 1), (74, .istore_n 3, 1), (75, .iload_n 3, 1), (76, .bipush 12, 2), (78, .if_icmp .gt 41, 3), (81, .aload_n 0, 1), (82, .getfield 42, 3), (85, .aload_n 0, 1), (86, .getfield 46, 3), (89, .invokevirtual 200, 3), (92, .ifCond .ne 5, 3), (95, .iload_n 3, 1), (96, .ireturn, 1), (97, .aload_n 0, 1), (98, .getfield 42, 3), (101, .iconst 1, 1), (102, .invokevirtual 190, 3), (105, .aload_n 0, 1), (106, .getfield 46, 3), (109, .iconst 1, 1), (110, .invokevirtual 190, 3), (113, .iinc 3 1, 3), (116, .goto (-41), 3), (119, .bipush (-3), 2), (121, .ireturn, 1)]
set_option maxRecDepth 100000 in
theorem am_kt59_0 : ∀ q ∈ (am_t59.drop 0).take 40, decode cX10_apart q.1 = .ok q.2 := by decide +kernel
set_option maxRecDepth 100000 in
theorem am_kt59_1 : ∀ q ∈ (am_t59.drop 40).take 40, decode cX10_apart q.1 = .ok q.2 := by decide +kernel
set_option maxRecDepth 100000 in
theorem am_kt59 : ∀ q ∈ am_t59, decode cX10_apart q.1 = .ok q.2 := by
  intro q hq
  rw [← List.take_append_drop 40 (am_t59)] at hq
  rcases List.mem_append.mp hq with hq | hq
  · exact am_kt59_0 q hq
  exact am_kt59_1 q (by rw [List.take_of_length_le (by decide)]; exact hq)
end
section
def am_t60 : List (Nat × Instr × Nat) := [(0, .iconst 0, 1), (1, .istore_n 2, 1), (2, .iload_n 2, 1), (3, .bipush 60, 2), (5, .if_icmp .ge 43, 3), (8, .aload_n 0, 1), (9, .getfield 9, 3), (12, .iload_n 2, 1), (13, .iaload, 1), (14, .aload_n 0, 1), (15, .getfield 18, 3), (18, .iload_n 2, 1), (19, .iaload, 1), (20, .iadd, 1), (21, .ifCond .le 21, 3), (24, .aload_n 1, 1), (25, .getfield 9, 3), (28, .iload_n 2, 1), (29, .iaload, 1), (30, .aload_n 1, 1), (31, .getfield 18, 3), (34, .iload_n 2, 1), (35, .iaload, 1), (36, .iadd, 1), (37, .ifCond .le 5, 3), (40, .iconst 1, 1), (41, .ireturn, 1), (42, .iinc 2 1, 3), (45, .goto (-43), 3), (48, .iconst 0, 1), (49, .ireturn, 1)]
set_option maxRecDepth 100000 in
theorem am_kt60 : ∀ q ∈ am_t60, decode cX1_meets q.1 = .ok q.2 := by decide +kernel
def am_t61 : List (Nat × Instr × Nat) := [(0, .iload_n 1, 1), (1, .bipush 100, 2), (3, .idiv, 1), (4, .istore 4, 2), (6, .iload_n 1, 1), (7, .bipush 100, 2), (9, .irem, 1), (10, .istore 5, 2), (12, .iload_n 2, 1), (13, .bipush 100, 2), (15, .idiv, 1), (16, .istore 6, 2), (18, .iload_n 2, 1), (19, .bipush 100, 2), (21, .irem, 1), (22, .istore 7, 2), (24, .iload 4, 2), (26, .iload 6, 2), (28, .invokestatic 94, 3), (31, .ifCond .eq 13, 3), (34, .iload 5, 2), (36, .iload 7, 2), (38, .invokestatic 94, 3), (41, .ifCond .ne 5, 3), (44, .iconst (-1), 1), (45, .ireturn, 1), (46, .iload 4, 2), (48, .iload 5, 2), (50, .if_icmp .gt 19, 3), (53, .iload 6, 2), (55, .iload 7, 2), (57, .if_icmp .gt 12, 3), (60, .iload_n 3, 1), (61, .bipush 6, 2), (63, .invokestatic 98, 3), (66, .ifCond .ne 6, 3), (69, .bipush (-2), 2), (71, .ireturn, 1), (72, .aload_n 0, 1), (73, .getfield 26, 3), (76, .getfield 204, 3), (79, .bipush 6, 2), (81, .if_icmp .lt 6, 3), (84, .bipush (-4), 2), (86, .ireturn, 1), (87, .aload_n 0, 1), (88, .getfield 12, 3), (91, .dup, 1), (92, .getfield 162, 3), (95, .iconst 1, 1), (96, .iadd, 1), (97, .putfield 162, 3), (100, .aload_n 0, 1), (101, .getfield 26, 3), (104, .iload 4, 2), (106, .iload 5, 2), (108, .iload 6, 2), (110, .iload 7, 2), (112, .iload_n 3, 1), (113, .invokevirtual 205, 3), (116, .ireturn, 1)]
set_option maxRecDepth 100000 in
theorem am_kt61_0 : ∀ q ∈ (am_t61.drop 0).take 40, decode cX10_name q.1 = .ok q.2 := by decide +kernel
set_option maxRecDepth 100000 in
theorem am_kt61_1 : ∀ q ∈ (am_t61.drop 40).take 40, decode cX10_name q.1 = .ok q.2 := by decide +kernel
set_option maxRecDepth 100000 in
theorem am_kt61 : ∀ q ∈ am_t61, decode cX10_name q.1 = .ok q.2 := by
  intro q hq
  rw [← List.take_append_drop 40 (am_t61)] at hq
  rcases List.mem_append.mp hq with hq | hq
  · exact am_kt61_0 q hq
  exact am_kt61_1 q (by rw [List.take_of_length_le (by decide)]; exact hq)
def am_t62 : List (Nat × Instr × Nat) := [(0, .aload_n 0, 1), (1, .getfield 9, 3), (4, .aload_n 0, 1), (5, .getfield 27, 3), (8, .iload_n 1, 1), (9, .iastore, 1), (10, .aload_n 0, 1), (11, .getfield 15, 3), (14, .aload_n 0, 1), (15, .getfield 27, 3), (18, .iload_n 2, 1), (19, .iastore, 1), (20, .aload_n 0, 1), (21, .getfield 18, 3), (24, .aload_n 0, 1), (25, .getfield 27, 3), (28, .iload_n 3, 1), (29, .iastore, 1), (30, .aload_n 0, 1), (31, .getfield 21, 3), (34, .aload_n 0, 1), (35, .getfield 27, 3), (38, .iload 4, 2), (40, .iastore, 1), (41, .aload_n 0, 1), (42, .getfield 24, 3), (45, .aload_n 0, 1), (46, .getfield 27, 3), (49, .iload 5, 2), (51, .iastore, 1), (52, .aload_n 0, 1), (53, .dup, 1), (54, .getfield 27, 3), (57, .dup_x1, 1), (58, .iconst 1, 1), (59, .iadd, 1), (60, .putfield 27, 3), (63, .ireturn, 1)]
set_option maxRecDepth 100000 in
theorem am_kt62 : ∀ q ∈ am_t62, decode cX5_add q.1 = .ok q.2 := by decide +kernel
def am_t63 : List (Nat × Instr × Nat) := [(0, .iload_n 3, 1), (1, .aload_n 0, 1), (2, .getfield 26, 3), (5, .getfield 204, 3), (8, .invokestatic 98, 3), (11, .ifCond .eq 11, 3), (14, .iload_n 2, 1), (15, .iconst 4, 1), (16, .invokestatic 98, 3), (19, .ifCond .ne 5, 3), (22, .iconst (-1), 1), (23, .ireturn, 1), (24, .iload_n 1, 1), (25, .invokestatic 207, 3), (28, .ifCond .eq 22, 3), (31, .iload 4, 2), (33, .ifCond .lt 17, 3), (36, .iload 4, 2), (38, .iload 5, 2), (40, .if_icmp .gt 10, 3), (43, .iload 5, 2), (45, .bipush 60, 2), (47, .if_icmp .le 6, 3), (50, .bipush (-2), 2), (52, .ireturn, 1), (53, .aload_n 0, 1), (54, .getfield 33, 3), (57, .getfield 210, 3), (60, .bipush 16, 2), (62, .if_icmp .lt 6, 3), (65, .bipush (-4), 2), (67, .ireturn, 1), (68, .aload_n 0, 1), (69, .getfield 33, 3), (72, .iload_n 1, 1), (73, .iload_n 2, 1), (74, .iload_n 3, 1), (75, .iload 4, 2), (77, .iload 5, 2), (79, .aload_n 0, 1), (80, .getfield 90, 3), (83, .invokevirtual 211, 3), (86, .istore 6, 2), (88, .aload_n 0, 1), (89, .getfield 63, 3), (92, .iload 6, 2), (94, .invokevirtual 214, 3), (97, .iload 6, 2), (99, .ireturn, 1)]
set_option maxRecDepth 100000 in
theorem am_kt63_0 : ∀ q ∈ (am_t63.drop 0).take 40, decode cX10_find q.1 = .ok q.2 := by decide +kernel
set_option maxRecDepth 100000 in
theorem am_kt63_1 : ∀ q ∈ (am_t63.drop 40).take 40, decode cX10_find q.1 = .ok q.2 := by decide +kernel
set_option maxRecDepth 100000 in
theorem am_kt63 : ∀ q ∈ am_t63, decode cX10_find q.1 = .ok q.2 := by
  intro q hq
  rw [← List.take_append_drop 40 (am_t63)] at hq
  rcases List.mem_append.mp hq with hq | hq
  · exact am_kt63_0 q hq
  exact am_kt63_1 q (by rw [List.take_of_length_le (by decide)]; exact hq)
def am_t64 : List (Nat × Instr × Nat) := [(0, .iload_n 0, 1), (1, .iconst 0, 1), (2, .ldc_w 335, 3), (5, .invokestatic 105, 3), (8, .ifCond .ne 5, 3), (11, .iconst 0, 1), (12, .ireturn, 1), (13, .iconst 0, 1), (14, .istore_n 1, 1), (15, .iload_n 1, 1), (16, .iconst 4, 1), (17, .if_icmp .ge 21, 3), (20, .iload_n 0, 1), (21, .iload_n 1, 1), (22, .invokestatic 336, 3), (25, .bipush 10, 2), (27, .if_icmp .le 5, 3), (30, .iconst 0, 1), (31, .ireturn, 1), (32, .iinc 1 1, 3), (35, .goto (-20), 3), (38, .iconst 1, 1), (39, .ireturn, 1)]
set_option maxRecDepth 100000 in
theorem am_kt64 : ∀ q ∈ am_t64, decode cX10_isRow q.1 = .ok q.2 := by decide +kernel
def am_t65 : List (Nat × Instr × Nat) := [(0, .aload_n 0, 1), (1, .getfield 9, 3), (4, .aload_n 0, 1), (5, .getfield 34, 3), (8, .iload_n 1, 1), (9, .iastore, 1), (10, .aload_n 0, 1), (11, .getfield 15, 3), (14, .aload_n 0, 1), (15, .getfield 34, 3), (18, .iload_n 2, 1), (19, .iastore, 1), (20, .aload_n 0, 1), (21, .getfield 18, 3), (24, .aload_n 0, 1), (25, .getfield 34, 3), (28, .iload_n 3, 1), (29, .iastore, 1), (30, .aload_n 0, 1), (31, .getfield 21, 3), (34, .aload_n 0, 1), (35, .getfield 34, 3), (38, .iload 4, 2), (40, .iastore, 1), (41, .aload_n 0, 1), (42, .getfield 24, 3), (45, .aload_n 0, 1), (46, .getfield 34, 3), (49, .iload 5, 2), (51, .iastore, 1), (52, .aload_n 0, 1), (53, .getfield 27, 3), (56, .aload_n 0, 1), (57, .getfield 34, 3), (60, .iload 6, 2), (62, .iastore, 1), (63, .aload_n 0, 1), (64, .getfield 30, 3), (67, .aload_n 0, 1), (68, .getfield 34, 3), (71, .iconst 0, 1), (72, .bastore, 1), (73, .aload_n 0, 1), (74, .dup, 1), (75, .getfield 34, 3), (78, .dup_x1, 1), (79, .iconst 1, 1), (80, .iadd, 1), (81, .putfield 34, 3), (84, .ireturn, 1)]
set_option maxRecDepth 100000 in
theorem am_kt65_0 : ∀ q ∈ (am_t65.drop 0).take 40, decode cX2_add q.1 = .ok q.2 := by decide +kernel
set_option maxRecDepth 100000 in
theorem am_kt65_1 : ∀ q ∈ (am_t65.drop 40).take 40, decode cX2_add q.1 = .ok q.2 := by decide +kernel
set_option maxRecDepth 100000 in
theorem am_kt65 : ∀ q ∈ am_t65, decode cX2_add q.1 = .ok q.2 := by
  intro q hq
  rw [← List.take_append_drop 40 (am_t65)] at hq
  rcases List.mem_append.mp hq with hq | hq
  · exact am_kt65_0 q hq
  exact am_kt65_1 q (by rw [List.take_of_length_le (by decide)]; exact hq)
def am_t66 : List (Nat × Instr × Nat) := [(0, .iconst 0, 1), (1, .istore_n 2, 1), (2, .iload_n 2, 1), (3, .aload_n 0, 1), (4, .getfield 16, 3), (7, .getfield 42, 3), (10, .if_icmp .ge 23, 3), (13, .aload_n 0, 1), (14, .getfield 11, 3), (17, .iload_n 1, 1), (18, .aaload, 1), (19, .iload_n 2, 1), (20, .aload_n 0, 1), (21, .iload_n 1, 1), (22, .iload_n 2, 1), (23, .invokevirtual 38, 3), (26, .iastore, 1), (27, .iinc 2 1, 3), (30, .goto (-28), 3), (33, .return_, 1)]
set_option maxRecDepth 100000 in
theorem am_kt66 : ∀ q ∈ am_t66, decode cX7_matchFind q.1 = .ok q.2 := by decide +kernel
def am_t67 : List (Nat × Instr × Nat) := [(0, .iload_n 1, 1), (1, .aload_n 0, 1), (2, .getfield 90, 3), (5, .if_icmp .lt 10, 3), (8, .iload_n 1, 1), (9, .sipush 999, 3), (12, .if_icmp .le 6, 3), (15, .bipush (-2), 2), (17, .ireturn, 1), (18, .aload_n 0, 1), (19, .getfield 90, 3), (22, .istore_n 2, 1), (23, .aload_n 0, 1), (24, .iload_n 1, 1), (25, .putfield 90, 3), (28, .iload_n 2, 1), (29, .ireturn, 1)]
set_option maxRecDepth 100000 in
theorem am_kt67 : ∀ q ∈ am_t67, decode cX10_clock q.1 = .ok q.2 := by decide +kernel
def am_t68 : List (Nat × Instr × Nat) := [(0, .iload_n 1, 1), (1, .aload_n 0, 1), (2, .getfield 33, 3), (5, .getfield 210, 3), (8, .invokestatic 98, 3), (11, .ifCond .ne 5, 3), (14, .iconst (-1), 1), (15, .ireturn, 1), (16, .iload_n 2, 1), (17, .iconst 0, 1), (18, .iconst 1, 1), (19, .invokestatic 105, 3), (22, .ifCond .ne 6, 3), (25, .bipush (-2), 2), (27, .ireturn, 1), (28, .aload_n 0, 1), (29, .getfield 33, 3), (32, .getfield 217, 3), (35, .iload_n 1, 1), (36, .baload, 1), (37, .ifCond .eq 7, 3), (40, .iconst 1, 1), (41, .goto 4, 3), (44, .iconst 0, 1), (45, .istore_n 3, 1), (46, .aload_n 0, 1), (47, .getfield 33, 3), (50, .getfield 217, 3), (53, .iload_n 1, 1), (54, .iload_n 2, 1), (55, .iconst 1, 1), (56, .if_icmp .ne 7, 3), (59, .iconst 1, 1), (60, .goto 4, 3), (63, .iconst 0, 1), (64, .bastore, 1), (65, .iload_n 3, 1), (66, .ireturn, 1)]
set_option maxRecDepth 100000 in
theorem am_kt68 : ∀ q ∈ am_t68, decode cX10_drop q.1 = .ok q.2 := by decide +kernel
def am_t69 : List (Nat × Instr × Nat) := [(0, .iload_n 1, 1), (1, .aload_n 0, 1), (2, .getfield 33, 3), (5, .getfield 210, 3), (8, .invokestatic 98, 3), (11, .ifCond .eq 17, 3), (14, .iload_n 2, 1), (15, .aload_n 0, 1), (16, .getfield 19, 3), (19, .getfield 109, 3), (22, .invokestatic 98, 3), (25, .ifCond .ne 5, 3), (28, .iconst (-1), 1), (29, .ireturn, 1), (30, .aload_n 0, 1), (31, .getfield 54, 3), (34, .invokevirtual 221, 3), (37, .aload_n 0, 1), (38, .getfield 63, 3), (41, .iload_n 1, 1), (42, .iload_n 2, 1), (43, .invokevirtual 224, 3), (46, .ireturn, 1)]
set_option maxRecDepth 100000 in
theorem am_kt69 : ∀ q ∈ am_t69, decode cX10_weight q.1 = .ok q.2 := by decide +kernel
def am_t70 : List (Nat × Instr × Nat) := [(0, .aload_n 0, 1), (1, .getfield 16, 3), (4, .aload_n 0, 1), (5, .getfield 20, 3), (8, .getfield 32, 3), (11, .if_icmp .ne 4, 3), (14, .return_, 1), (15, .iconst 0, 1), (16, .istore_n 1, 1), (17, .iload_n 1, 1), (18, .aload_n 0, 1), (19, .getfield 24, 3), (22, .getfield 37, 3), (25, .if_icmp .ge 58, 3), (28, .aload_n 0, 1), (29, .getfield 28, 3), (32, .aload_n 0, 1), (33, .getfield 24, 3), (36, .iload_n 1, 1), (37, .aload_n 0, 1), (38, .getfield 20, 3), (41, .getfield 42, 3), (44, .invokevirtual 46, 3), (47, .aload_n 0, 1), (48, .getfield 28, 3), (51, .bipush 12, 2), (53, .invokevirtual 52, 3), (56, .aload_n 0, 1), (57, .getfield 28, 3), (60, .getfield 56, 3), (63, .iconst 0, 1), (64, .aload_n 0, 1), (65, .getfield 11, 3), (68, .iload_n 1, 1), (69, .aaload, 1), (70, .iconst 0, 1), (71, .sipush 720, 3), (74, .invokestatic 58, 3), (77, .iinc 1 1, 3), (80, .goto (-63), 3), (83, .aload_n 0, 1), (84, .aload_n 0, 1), (85, .getfield 20, 3), (88, .getfield 32, 3), (91, .putfield 16, 3), (94, .return_, 1)]
set_option maxRecDepth 100000 in
theorem am_kt70_0 : ∀ q ∈ (am_t70.drop 0).take 40, decode cX4_refresh q.1 = .ok q.2 := by decide +kernel
set_option maxRecDepth 100000 in
theorem am_kt70_1 : ∀ q ∈ (am_t70.drop 40).take 40, decode cX4_refresh q.1 = .ok q.2 := by decide +kernel
set_option maxRecDepth 100000 in
theorem am_kt70 : ∀ q ∈ am_t70, decode cX4_refresh q.1 = .ok q.2 := by
  intro q hq
  rw [← List.take_append_drop 40 (am_t70)] at hq
  rcases List.mem_append.mp hq with hq | hq
  · exact am_kt70_0 q hq
  exact am_kt70_1 q (by rw [List.take_of_length_le (by decide)]; exact hq)
def am_t71 : List (Nat × Instr × Nat) := [(0, .aload_n 0, 1), (1, .getfield 11, 3), (4, .iload_n 1, 1), (5, .aaload, 1), (6, .iload_n 2, 1), (7, .iaload, 1), (8, .ifCond .ne 5, 3), (11, .iconst 0, 1), (12, .ireturn, 1), (13, .aload_n 0, 1), (14, .getfield 16, 3), (17, .getfield 66, 3), (20, .iload_n 2, 1), (21, .iaload, 1), (22, .istore_n 3, 1), (23, .aload_n 0, 1), (24, .getfield 20, 3), (27, .aload_n 0, 1), (28, .getfield 28, 3), (31, .getfield 69, 3), (34, .iload_n 2, 1), (35, .aaload, 1), (36, .aload_n 0, 1), (37, .getfield 24, 3), (40, .getfield 74, 3), (43, .iload_n 1, 1), (44, .iaload, 1), (45, .aload_n 0, 1), (46, .getfield 24, 3), (49, .getfield 77, 3), (52, .iload_n 1, 1), (53, .iaload, 1), (54, .iload_n 3, 1), (55, .isub, 1), (56, .aload_n 0, 1), (57, .getfield 24, 3), (60, .getfield 80, 3), (63, .iload_n 1, 1), (64, .iaload, 1), (65, .iload_n 3, 1), (66, .isub, 1), (67, .invokevirtual 83, 3), (70, .ireturn, 1)]
set_option maxRecDepth 100000 in
theorem am_kt71_0 : ∀ q ∈ (am_t71.drop 0).take 40, decode cX7_weightOf q.1 = .ok q.2 := by decide +kernel
set_option maxRecDepth 100000 in
theorem am_kt71_1 : ∀ q ∈ (am_t71.drop 40).take 40, decode cX7_weightOf q.1 = .ok q.2 := by decide +kernel
set_option maxRecDepth 100000 in
theorem am_kt71 : ∀ q ∈ am_t71, decode cX7_weightOf q.1 = .ok q.2 := by
  intro q hq
  rw [← List.take_append_drop 40 (am_t71)] at hq
  rcases List.mem_append.mp hq with hq | hq
  · exact am_kt71_0 q hq
  exact am_kt71_1 q (by rw [List.take_of_length_le (by decide)]; exact hq)
def am_t72 : List (Nat × Instr × Nat) := [(0, .iconst 0, 1), (1, .istore 5, 2), (3, .iload_n 3, 1), (4, .iconst 0, 1), (5, .invokestatic 35, 3), (8, .istore 6, 2), (10, .iload 6, 2), (12, .iload 4, 2), (14, .if_icmp .gt 92, 3), (17, .iload 6, 2), (19, .bipush 12, 2), (21, .if_icmp .ge 85, 3), (24, .aload_n 0, 1), (25, .getfield 9, 3), (28, .iload_n 2, 1), (29, .iaload, 1), (30, .istore 7, 2), (32, .iload 7, 2), (34, .aload_n 0, 1), (35, .getfield 15, 3), (38, .iload_n 2, 1), (39, .iaload, 1), (40, .if_icmp .gt 60, 3), (43, .iload 6, 2), (45, .bipush 60, 2), (47, .imul, 1), (48, .iload 7, 2), (50, .iconst 0, 1), (51, .invokestatic 41, 3), (54, .iadd, 1), (55, .istore 8, 2), (57, .aload_n 0, 1), (58, .getfield 18, 3), (61, .iload_n 2, 1), (62, .iaload, 1), (63, .istore 9, 2), (65, .iload 9, 2), (67, .aload_n 0, 1), (68, .getfield 21, 3), (71, .iload_n 2, 1), (72, .iaload, 1), (73, .if_icmp .gt 21, 3), (76, .iload 5, 2), (78, .aload_n 1, 1), (79, .iload 8, 2), (81, .iload 9, 2), (83, .iadd, 1), (84, .iaload, 1), (85, .iadd, 1), (86, .istore 5, 2), (88, .iinc 9 1, 3), (91, .goto (-26), 3), (94, .iinc 7 1, 3), (97, .goto (-65), 3), (100, .iinc 6 1, 3), (103, .goto (-93), 3), (106, .iload 5, 2), (108, .ireturn, 1)]
set_option maxRecDepth 100000 in
theorem am_kt72_0 : ∀ q ∈ (am_t72.drop 0).take 40, decode cX5_foundWithin q.1 = .ok q.2 := by decide +kernel
set_option maxRecDepth 100000 in
theorem am_kt72_1 : ∀ q ∈ (am_t72.drop 40).take 40, decode cX5_foundWithin q.1 = .ok q.2 := by decide +kernel
set_option maxRecDepth 100000 in
theorem am_kt72 : ∀ q ∈ am_t72, decode cX5_foundWithin q.1 = .ok q.2 := by
  intro q hq
  rw [← List.take_append_drop 40 (am_t72)] at hq
  rcases List.mem_append.mp hq with hq | hq
  · exact am_kt72_0 q hq
  exact am_kt72_1 q (by rw [List.take_of_length_le (by decide)]; exact hq)
def am_t73 : List (Nat × Instr × Nat) := [(0, .iload_n 0, 1), (1, .iload_n 1, 1), (2, .if_icmp .lt 7, 3), (5, .iload_n 0, 1), (6, .goto 4, 3), (9, .iload_n 1, 1), (10, .ireturn, 1)]
set_option maxRecDepth 100000 in
theorem am_kt73 : ∀ q ∈ am_t73, decode cJ9_max_7cf53 q.1 = .ok q.2 := by decide +kernel
def am_t74 : List (Nat × Instr × Nat) := [(0, .iload_n 1, 1), (1, .aload_n 0, 1), (2, .getfield 33, 3), (5, .getfield 210, 3), (8, .invokestatic 98, 3), (11, .ifCond .ne 5, 3), (14, .iconst (-1), 1), (15, .ireturn, 1), (16, .aload_n 0, 1), (17, .getfield 54, 3), (20, .invokevirtual 221, 3), (23, .aload_n 0, 1), (24, .getfield 63, 3), (27, .iload_n 1, 1), (28, .invokevirtual 227, 3), (31, .ireturn, 1)]
set_option maxRecDepth 100000 in
theorem am_kt74 : ∀ q ∈ am_t74, decode cX10_judge q.1 = .ok q.2 := by decide +kernel
def am_t75 : List (Nat × Instr × Nat) := [(0, .iconst 0, 1), (1, .istore_n 2, 1), (2, .iconst 0, 1), (3, .istore_n 3, 1), (4, .iconst 0, 1), (5, .istore 4, 2), (7, .iload 4, 2), (9, .aload_n 0, 1), (10, .getfield 16, 3), (13, .getfield 42, 3), (16, .if_icmp .ge 37, 3), (19, .aload_n 0, 1), (20, .getfield 11, 3), (23, .iload_n 1, 1), (24, .aaload, 1), (25, .iload 4, 2), (27, .iaload, 1), (28, .ifCond .le 6, 3), (31, .iinc 2 1, 3), (34, .aload_n 0, 1), (35, .iload_n 1, 1), (36, .iload 4, 2), (38, .invokevirtual 89, 3), (41, .ifCond .le 6, 3), (44, .iinc 3 1, 3), (47, .iinc 4 1, 3), (50, .goto (-43), 3), (53, .iload_n 2, 1), (54, .ifCond .ne 5, 3), (57, .iconst 3, 1), (58, .ireturn, 1), (59, .iload_n 3, 1), (60, .ifCond .ne 5, 3), (63, .iconst 0, 1), (64, .ireturn, 1), (65, .iload_n 3, 1), (66, .iconst 1, 1), (67, .if_icmp .ne 7, 3), (70, .iconst 2, 1), (71, .goto 4, 3), (74, .iconst 1, 1), (75, .ireturn, 1)]
set_option maxRecDepth 100000 in
theorem am_kt75_0 : ∀ q ∈ (am_t75.drop 0).take 40, decode cX7_verdictOf q.1 = .ok q.2 := by decide +kernel
set_option maxRecDepth 100000 in
theorem am_kt75_1 : ∀ q ∈ (am_t75.drop 40).take 40, decode cX7_verdictOf q.1 = .ok q.2 := by decide +kernel
set_option maxRecDepth 100000 in
theorem am_kt75 : ∀ q ∈ am_t75, decode cX7_verdictOf q.1 = .ok q.2 := by
  intro q hq
  rw [← List.take_append_drop 40 (am_t75)] at hq
  rcases List.mem_append.mp hq with hq | hq
  · exact am_kt75_0 q hq
  exact am_kt75_1 q (by rw [List.take_of_length_le (by decide)]; exact hq)
def am_t76 : List (Nat × Instr × Nat) := [(0, .iload_n 1, 1), (1, .aload_n 0, 1), (2, .getfield 33, 3), (5, .getfield 210, 3), (8, .invokestatic 98, 3), (11, .ifCond .ne 5, 3), (14, .iconst (-1), 1), (15, .ireturn, 1), (16, .aload_n 0, 1), (17, .getfield 54, 3), (20, .invokevirtual 221, 3), (23, .aload_n 0, 1), (24, .getfield 63, 3), (27, .iload_n 1, 1), (28, .invokevirtual 230, 3), (31, .ireturn, 1)]
set_option maxRecDepth 100000 in
theorem am_kt76 : ∀ q ∈ am_t76, decode cX10_best q.1 = .ok q.2 := by decide +kernel
def am_t77 : List (Nat × Instr × Nat) := [(0, .iconst (-1), 1), (1, .istore_n 2, 1), (2, .iconst 0, 1), (3, .istore_n 3, 1), (4, .iconst 0, 1), (5, .istore 4, 2), (7, .iload 4, 2), (9, .aload_n 0, 1), (10, .getfield 16, 3), (13, .getfield 42, 3), (16, .if_icmp .ge 30, 3), (19, .aload_n 0, 1), (20, .iload_n 1, 1), (21, .iload 4, 2), (23, .invokevirtual 89, 3), (26, .istore 5, 2), (28, .iload 5, 2), (30, .iload_n 3, 1), (31, .if_icmp .le 9, 3), (34, .iload 5, 2), (36, .istore_n 3, 1), (37, .iload 4, 2), (39, .istore_n 2, 1), (40, .iinc 4 1, 3), (43, .goto (-36), 3), (46, .iload_n 2, 1), (47, .ireturn, 1)]
set_option maxRecDepth 100000 in
theorem am_kt77 : ∀ q ∈ am_t77, decode cX7_bestOf q.1 = .ok q.2 := by decide +kernel
def am_t78 : List (Nat × Instr × Nat) := [(0, .iload_n 1, 1), (1, .aload_n 0, 1), (2, .getfield 33, 3), (5, .getfield 210, 3), (8, .invokestatic 98, 3), (11, .ifCond .ne 5, 3), (14, .iconst (-1), 1), (15, .ireturn, 1), (16, .aload_n 0, 1), (17, .getfield 54, 3), (20, .invokevirtual 221, 3), (23, .aload_n 0, 1), (24, .getfield 63, 3), (27, .iload_n 1, 1), (28, .invokevirtual 230, 3), (31, .istore_n 2, 1), (32, .iload_n 2, 1), (33, .ifCond .ge 7, 3), (36, .iconst 0, 1), (37, .goto 12, 3), (40, .aload_n 0, 1), (41, .getfield 63, 3), (44, .iload_n 1, 1), (45, .iload_n 2, 1), (46, .invokevirtual 233, 3), (49, .ireturn, 1)]
set_option maxRecDepth 100000 in
theorem am_kt78 : ∀ q ∈ am_t78, decode cX10_cards q.1 = .ok q.2 := by decide +kernel
def am_t79 : List (Nat × Instr × Nat) := [(0, .aload_n 0, 1), (1, .getfield 11, 3), (4, .iload_n 1, 1), (5, .aaload, 1), (6, .iload_n 2, 1), (7, .iaload, 1), (8, .ireturn, 1)]
set_option maxRecDepth 100000 in
theorem am_kt79 : ∀ q ∈ am_t79, decode cX7_cardsOf q.1 = .ok q.2 := by decide +kernel
def am_t80 : List (Nat × Instr × Nat) := [(0, .iload_n 1, 1), (1, .aload_n 0, 1), (2, .getfield 33, 3), (5, .getfield 210, 3), (8, .invokestatic 98, 3), (11, .ifCond .ne 5, 3), (14, .iconst (-1), 1), (15, .ireturn, 1), (16, .aload_n 0, 1), (17, .getfield 33, 3), (20, .iload_n 1, 1), (21, .invokevirtual 236, 3), (24, .ireturn, 1)]
set_option maxRecDepth 100000 in
theorem am_kt80 : ∀ q ∈ am_t80, decode cX10_twin q.1 = .ok q.2 := by decide +kernel
def am_t81 : List (Nat × Instr × Nat) := [(0, .aload_n 0, 1), (1, .getfield 9, 3), (4, .iload_n 1, 1), (5, .iaload, 1), (6, .invokestatic 38, 3), (9, .ifCond .ne 5, 3), (12, .iconst (-1), 1), (13, .ireturn, 1), (14, .iconst 0, 1), (15, .istore_n 2, 1), (16, .iload_n 2, 1), (17, .iload_n 1, 1), (18, .if_icmp .ge 50, 3), (21, .aload_n 0, 1), (22, .getfield 30, 3), (25, .iload_n 2, 1), (26, .baload, 1), (27, .ifCond .ne 35, 3), (30, .aload_n 0, 1), (31, .getfield 9, 3), (34, .iload_n 2, 1), (35, .iaload, 1), (36, .aload_n 0, 1), (37, .getfield 9, 3), (40, .iload_n 1, 1), (41, .iaload, 1), (42, .if_icmp .ne 20, 3), (45, .aload_n 0, 1), (46, .getfield 15, 3), (49, .iload_n 2, 1), (50, .iaload, 1), (51, .aload_n 0, 1), (52, .getfield 15, 3), (55, .iload_n 1, 1), (56, .iaload, 1), (57, .if_icmp .ne 5, 3), (60, .iload_n 2, 1), (61, .ireturn, 1), (62, .iinc 2 1, 3), (65, .goto (-49), 3), (68, .iconst (-1), 1), (69, .ireturn, 1)]
set_option maxRecDepth 100000 in
theorem am_kt81_0 : ∀ q ∈ (am_t81.drop 0).take 40, decode cX2_twinOf q.1 = .ok q.2 := by decide +kernel
set_option maxRecDepth 100000 in
theorem am_kt81_1 : ∀ q ∈ (am_t81.drop 40).take 40, decode cX2_twinOf q.1 = .ok q.2 := by decide +kernel
set_option maxRecDepth 100000 in
theorem am_kt81 : ∀ q ∈ am_t81, decode cX2_twinOf q.1 = .ok q.2 := by
  intro q hq
  rw [← List.take_append_drop 40 (am_t81)] at hq
  rcases List.mem_append.mp hq with hq | hq
  · exact am_kt81_0 q hq
  exact am_kt81_1 q (by rw [List.take_of_length_le (by decide)]; exact hq)
def am_t82 : List (Nat × Instr × Nat) := [(0, .iconst 0, 1), (1, .istore_n 1, 1), (2, .iload_n 1, 1), (3, .iconst 4, 1), (4, .if_icmp .ge 21, 3), (7, .iload_n 0, 1), (8, .iload_n 1, 1), (9, .invokestatic 42, 3), (12, .bipush 10, 2), (14, .if_icmp .ne 5, 3), (17, .iconst 0, 1), (18, .ireturn, 1), (19, .iinc 1 1, 3), (22, .goto (-20), 3), (25, .iconst 1, 1), (26, .ireturn, 1)]
set_option maxRecDepth 100000 in
theorem am_kt82 : ∀ q ∈ am_t82, decode cX2_isAllRead q.1 = .ok q.2 := by decide +kernel
def am_t83 : List (Nat × Instr × Nat) := [(0, .iload_n 2, 1), (1, .iconst (-1), 1), (2, .if_icmp .ne 7, 3), (5, .iconst 1, 1), (6, .goto 4, 3), (9, .iconst 0, 1), (10, .istore 4, 2), (12, .iload_n 1, 1), (13, .aload_n 0, 1), (14, .getfield 19, 3), (17, .getfield 109, 3), (20, .invokestatic 98, 3), (23, .ifCond .eq 22, 3), (26, .iload 4, 2), (28, .ifCond .ne 19, 3), (31, .iload_n 2, 1), (32, .aload_n 0, 1), (33, .getfield 26, 3), (36, .getfield 204, 3), (39, .invokestatic 98, 3), (42, .ifCond .ne 5, 3), (45, .iconst (-1), 1), (46, .ireturn, 1), (47, .iload_n 3, 1), (48, .invokestatic 239, 3), (51, .ifCond .ne 6, 3), (54, .bipush (-2), 2), (56, .ireturn, 1), (57, .aload_n 0, 1), (58, .getfield 54, 3), (61, .invokevirtual 221, 3), (64, .iconst 0, 1), (65, .istore 5, 2), (67, .iconst 0, 1), (68, .istore 6, 2), (70, .iload 6, 2), (72, .aload_n 0, 1), (73, .getfield 33, 3), (76, .getfield 210, 3), (79, .if_icmp .ge 70, 3), (82, .iload 4, 2), (84, .ifCond .ne 17, 3), (87, .aload_n 0, 1), (88, .getfield 33, 3), (91, .getfield 242, 3), (94, .iload 6, 2), (96, .iaload, 1), (97, .iload_n 2, 1), (98, .if_icmp .ne 7, 3), (101, .iconst 1, 1), (102, .goto 4, 3), (105, .iconst 0, 1), (106, .istore 7, 2), (108, .iload 7, 2), (110, .ifCond .eq 33, 3), (113, .aload_n 0, 1), (114, .getfield 33, 3), (117, .getfield 245, 3), (120, .iload 6, 2), (122, .iaload, 1), (123, .iload_n 3, 1), (124, .if_icmp .gt 19, 3), (127, .aload_n 0, 1), (128, .getfield 63, 3), (131, .iload 6, 2), (133, .invokevirtual 248, 3), (136, .iload_n 1, 1), (137, .if_icmp .ne 6, 3), (140, .iinc 5 1, 3), (143, .iinc 6 1, 3), (146, .goto (-76), 3), (149, .iload 5, 2), (151, .ireturn, 1)]
set_option maxRecDepth 100000 in
theorem am_kt83_0 : ∀ q ∈ (am_t83.drop 0).take 40, decode cX10_got q.1 = .ok q.2 := by decide +kernel
set_option maxRecDepth 100000 in
theorem am_kt83_1 : ∀ q ∈ (am_t83.drop 40).take 40, decode cX10_got q.1 = .ok q.2 := by decide +kernel
set_option maxRecDepth 100000 in
theorem am_kt83 : ∀ q ∈ am_t83, decode cX10_got q.1 = .ok q.2 := by
  intro q hq
  rw [← List.take_append_drop 40 (am_t83)] at hq
  rcases List.mem_append.mp hq with hq | hq
  · exact am_kt83_0 q hq
  exact am_kt83_1 q (by rw [List.take_of_length_le (by decide)]; exact hq)
def am_t84 : List (Nat × Instr × Nat) := [(0, .iload_n 0, 1), (1, .iconst 0, 1), (2, .sipush 999, 3), (5, .invokestatic 105, 3), (8, .ireturn, 1)]
set_option maxRecDepth 100000 in
theorem am_kt84 : ∀ q ∈ am_t84, decode cX10_isTime q.1 = .ok q.2 := by decide +kernel
def am_t85 : List (Nat × Instr × Nat) := [(0, .aload_n 0, 1), (1, .getfield 24, 3), (4, .getfield 92, 3), (7, .iload_n 1, 1), (8, .baload, 1), (9, .ifCond .ne 24, 3), (12, .aload_n 0, 1), (13, .getfield 24, 3), (16, .iload_n 1, 1), (17, .invokevirtual 96, 3), (20, .iconst (-1), 1), (21, .if_icmp .ne 12, 3), (24, .aload_n 0, 1), (25, .iload_n 1, 1), (26, .invokevirtual 100, 3), (29, .iconst 2, 1), (30, .if_icmp .eq 5, 3), (33, .iconst (-1), 1), (34, .ireturn, 1), (35, .aload_n 0, 1), (36, .iload_n 1, 1), (37, .invokevirtual 103, 3), (40, .ireturn, 1)]
set_option maxRecDepth 100000 in
theorem am_kt85 : ∀ q ∈ am_t85, decode cX7_castGot q.1 = .ok q.2 := by decide +kernel
def am_t86 : List (Nat × Instr × Nat) := [(0, .iload_n 1, 1), (1, .iconst 3, 1), (2, .invokestatic 98, 3), (5, .ifCond .ne 6, 3), (8, .bipush (-3), 2), (10, .ireturn, 1), (11, .iload_n 2, 1), (12, .iconst (-1), 1), (13, .iconst 1, 1), (14, .invokestatic 105, 3), (17, .ifCond .ne 6, 3), (20, .bipush (-2), 2), (22, .ireturn, 1), (23, .aload_n 0, 1), (24, .getfield 12, 3), (27, .getfield 183, 3), (30, .iload_n 1, 1), (31, .iaload, 1), (32, .istore_n 3, 1), (33, .aload_n 0, 1), (34, .getfield 12, 3), (37, .getfield 183, 3), (40, .iload_n 1, 1), (41, .iload_n 2, 1), (42, .iastore, 1), (43, .aload_n 0, 1), (44, .getfield 12, 3), (47, .dup, 1), (48, .getfield 162, 3), (51, .iconst 1, 1), (52, .iadd, 1), (53, .putfield 162, 3), (56, .iload_n 3, 1), (57, .ireturn, 1)]
set_option maxRecDepth 100000 in
theorem am_kt86 : ∀ q ∈ am_t86, decode cX10_move q.1 = .ok q.2 := by decide +kernel
def am_t87 : List (Nat × Instr × Nat) := [(0, .iload_n 1, 1), (1, .iconst 3, 1), (2, .invokestatic 98, 3), (5, .ifCond .ne 6, 3), (8, .bipush (-3), 2), (10, .ireturn, 1), (11, .aload_n 0, 1), (12, .getfield 72, 3), (15, .invokevirtual 251, 3), (18, .aload_n 0, 1), (19, .getfield 72, 3), (22, .invokevirtual 254, 3), (25, .iload_n 1, 1), (26, .invokestatic 258, 3), (29, .ireturn, 1)]
set_option maxRecDepth 100000 in
theorem am_kt87 : ∀ q ∈ am_t87, decode cX10_fit q.1 = .ok q.2 := by decide +kernel
def am_t88 : List (Nat × Instr × Nat) := [(0, .aload_n 0, 1), (1, .getfield 45, 3), (4, .invokevirtual 62, 3), (7, .aload_n 0, 1), (8, .invokevirtual 67, 3), (11, .iconst 0, 1), (12, .istore_n 1, 1), (13, .iload_n 1, 1), (14, .bipush 27, 2), (16, .if_icmp .ge 14, 3), (19, .aload_n 0, 1), (20, .iload_n 1, 1), (21, .invokevirtual 70, 3), (24, .iinc 1 1, 3), (27, .goto (-14), 3), (30, .return_, 1)]
set_option maxRecDepth 100000 in
theorem am_kt88 : ∀ q ∈ am_t88, decode cX3_refreshAll q.1 = .ok q.2 := by decide +kernel
def am_t89 : List (Nat × Instr × Nat) := [(0, .aload_n 0, 1), (1, .getfield 23, 3), (4, .iconst 0, 1), (5, .invokestatic 112, 3), (8, .iconst 0, 1), (9, .istore_n 1, 1), (10, .iload_n 1, 1), (11, .aload_n 0, 1), (12, .getfield 41, 3), (15, .getfield 118, 3), (18, .if_icmp .ge 44, 3), (21, .aload_n 0, 1), (22, .getfield 49, 3), (25, .iload_n 1, 1), (26, .invokevirtual 121, 3), (29, .istore_n 2, 1), (30, .iload_n 2, 1), (31, .ifCond .lt 25, 3), (34, .aload_n 0, 1), (35, .getfield 23, 3), (38, .iload_n 2, 1), (39, .aload_n 0, 1), (40, .getfield 41, 3), (43, .getfield 127, 3), (46, .iload_n 1, 1), (47, .iaload, 1), (48, .invokestatic 106, 3), (51, .dup2, 1), (52, .iaload, 1), (53, .iconst 1, 1), (54, .iadd, 1), (55, .iastore, 1), (56, .iinc 1 1, 3), (59, .goto (-49), 3), (62, .return_, 1)]
set_option maxRecDepth 100000 in
theorem am_kt89 : ∀ q ∈ am_t89, decode cX3_countGot q.1 = .ok q.2 := by decide +kernel
end
section
def am_t90 : List (Nat × Instr × Nat) := [(0, .iload_n 0, 1), (1, .bipush 6, 2), (3, .imul, 1), (4, .iload_n 1, 1), (5, .iadd, 1), (6, .ireturn, 1)]
set_option maxRecDepth 100000 in
theorem am_kt90 : ∀ q ∈ am_t90, decode cX3_slotOf q.1 = .ok q.2 := by decide +kernel
def am_t91 : List (Nat × Instr × Nat) := [(0, .aload_n 0, 1), (1, .getfield 20, 3), (4, .iload_n 1, 1), (5, .iaload, 1), (6, .aload_n 0, 1), (7, .getfield 29, 3), (10, .getfield 74, 3), (13, .if_icmp .ne 4, 3), (16, .return_, 1), (17, .iconst 0, 1), (18, .istore_n 2, 1), (19, .iload_n 2, 1), (20, .iconst 3, 1), (21, .if_icmp .ge 20, 3), (24, .aload_n 0, 1), (25, .getfield 9, 3), (28, .iload_n 2, 1), (29, .iload_n 1, 1), (30, .iload_n 2, 1), (31, .invokestatic 78, 3), (34, .iastore, 1), (35, .iinc 2 1, 3), (38, .goto (-19), 3), (41, .iconst 0, 1), (42, .istore_n 2, 1), (43, .iload_n 2, 1), (44, .aload_n 0, 1), (45, .getfield 33, 3), (48, .getfield 82, 3), (51, .if_icmp .ge 101, 3), (54, .aload_n 0, 1), (55, .getfield 53, 3), (58, .aload_n 0, 1), (59, .getfield 33, 3), (62, .iload_n 2, 1), (63, .aload_n 0, 1), (64, .getfield 9, 3), (67, .invokevirtual 87, 3), (70, .aload_n 0, 1), (71, .getfield 53, 3), (74, .bipush 12, 2), (76, .invokevirtual 93, 3), (79, .iconst 0, 1), (80, .istore_n 3, 1), (81, .iload_n 3, 1), (82, .aload_n 0, 1), (83, .getfield 37, 3), (86, .getfield 96, 3), (89, .if_icmp .ge 57, 3), (92, .aload_n 0, 1), (93, .getfield 37, 3), (96, .aload_n 0, 1), (97, .getfield 53, 3), (100, .getfield 99, 3), (103, .iload_n 3, 1), (104, .iconst 0, 1), (105, .bipush 11, 2), (107, .invokevirtual 102, 3), (110, .istore 4, 2), (112, .aload_n 0, 1), (113, .getfield 17, 3), (116, .iload_n 1, 1), (117, .aaload, 1), (118, .iload_n 2, 1), (119, .iload_n 3, 1), (120, .invokestatic 106, 3), (123, .iload 4, 2), (125, .aload_n 0, 1), (126, .getfield 33, 3), (129, .getfield 109, 3), (132, .iload_n 2, 1), (133, .iaload, 1), (134, .imul, 1), (135, .sipush 1000, 3), (138, .idiv, 1), (139, .iastore, 1), (140, .iinc 3 1, 3), (143, .goto (-62), 3), (146, .iinc 2 1, 3), (149, .goto (-106), 3), (152, .aload_n 0, 1), (153, .getfield 20, 3), (156, .iload_n 1, 1), (157, .aload_n 0, 1), (158, .getfield 29, 3), (161, .getfield 74, 3), (164, .iastore, 1), (165, .return_, 1)]
set_option maxRecDepth 100000 in
theorem am_kt91_0 : ∀ q ∈ (am_t91.drop 0).take 40, decode cX3_refreshOne q.1 = .ok q.2 := by decide +kernel
set_option maxRecDepth 100000 in
theorem am_kt91_1 : ∀ q ∈ (am_t91.drop 40).take 40, decode cX3_refreshOne q.1 = .ok q.2 := by decide +kernel
set_option maxRecDepth 100000 in
theorem am_kt91_2 : ∀ q ∈ (am_t91.drop 80).take 40, decode cX3_refreshOne q.1 = .ok q.2 := by decide +kernel
set_option maxRecDepth 100000 in
theorem am_kt91 : ∀ q ∈ am_t91, decode cX3_refreshOne q.1 = .ok q.2 := by
  intro q hq
  rw [← List.take_append_drop 40 (am_t91)] at hq
  rcases List.mem_append.mp hq with hq | hq
  · exact am_kt91_0 q hq
  rw [← List.take_append_drop 40 ((am_t91.drop 40))] at hq
  rcases List.mem_append.mp hq with hq | hq
  · exact am_kt91_1 q hq
  rw [List.drop_drop] at hq
  exact am_kt91_2 q (by rw [List.take_of_length_le (by decide)]; exact hq)
def am_t92 : List (Nat × Instr × Nat) := [(0, .iload_n 1, 1), (1, .lookupswitch 42 #[(0, 27), (1, 34)], 27), (28, .iload_n 0, 1), (29, .bipush 9, 2), (31, .idiv, 1), (32, .iconst 1, 1), (33, .isub, 1), (34, .ireturn, 1), (35, .iload_n 0, 1), (36, .iconst 3, 1), (37, .idiv, 1), (38, .iconst 3, 1), (39, .irem, 1), (40, .iconst 1, 1), (41, .isub, 1), (42, .ireturn, 1), (43, .iload_n 0, 1), (44, .iconst 3, 1), (45, .irem, 1), (46, .iconst 1, 1), (47, .isub, 1), (48, .ireturn, 1)]
set_option maxRecDepth 100000 in
theorem am_kt92 : ∀ q ∈ am_t92, decode cX10_shiftIn q.1 = .ok q.2 := by decide +kernel
def am_t93 : List (Nat × Instr × Nat) := [(0, .iconst 0, 1), (1, .istore_n 1, 1), (2, .aload_n 0, 1), (3, .iconst 0, 1), (4, .invokevirtual 132, 3), (7, .lstore_n 2, 1), (8, .iconst 1, 1), (9, .istore 4, 2), (11, .iload 4, 2), (13, .bipush 27, 2), (15, .if_icmp .ge 30, 3), (18, .aload_n 0, 1), (19, .iload 4, 2), (21, .invokevirtual 132, 3), (24, .lstore 5, 2), (26, .lload 5, 2), (28, .lload_n 2, 1), (29, .lcmp, 1), (30, .ifCond .ge 9, 3), (33, .lload 5, 2), (35, .lstore_n 2, 1), (36, .iload 4, 2), (38, .istore_n 1, 1), (39, .iinc 4 1, 3), (42, .goto (-31), 3), (45, .iload_n 1, 1), (46, .ireturn, 1)]
set_option maxRecDepth 100000 in
theorem am_kt93 : ∀ q ∈ am_t93, decode cX3_leastMissed q.1 = .ok q.2 := by decide +kernel
def am_t94 : List (Nat × Instr × Nat) := [(0, .lconst 0, 1), (1, .lstore_n 2, 1), (2, .iconst 0, 1), (3, .istore 4, 2), (5, .iload 4, 2), (7, .aload_n 0, 1), (8, .getfield 33, 3), (11, .getfield 82, 3), (14, .if_icmp .ge 73, 3), (17, .iconst 0, 1), (18, .istore 5, 2), (20, .iload 5, 2), (22, .aload_n 0, 1), (23, .getfield 37, 3), (26, .getfield 96, 3), (29, .if_icmp .ge 52, 3), (32, .aload_n 0, 1), (33, .getfield 17, 3), (36, .iload_n 1, 1), (37, .aaload, 1), (38, .iload 4, 2), (40, .iload 5, 2), (42, .invokestatic 106, 3), (45, .iaload, 1), (46, .i2l, 1), (47, .ldc2_w 130, 3), (50, .aload_n 0, 1), (51, .getfield 23, 3), (54, .iload 4, 2), (56, .iload 5, 2), (58, .invokestatic 106, 3), (61, .iaload, 1), (62, .i2l, 1), (63, .lmul, 1), (64, .lsub, 1), (65, .lstore 6, 2), (67, .lload_n 2, 1), (68, .lload 6, 2), (70, .lload 6, 2), (72, .lmul, 1), (73, .ladd, 1), (74, .lstore_n 2, 1), (75, .iinc 5 1, 3), (78, .goto (-58), 3), (81, .iinc 4 1, 3), (84, .goto (-79), 3), (87, .lload_n 2, 1), (88, .lreturn, 1)]
set_option maxRecDepth 100000 in
theorem am_kt94_0 : ∀ q ∈ (am_t94.drop 0).take 40, decode cX3_missedWith q.1 = .ok q.2 := by decide +kernel
set_option maxRecDepth 100000 in
theorem am_kt94_1 : ∀ q ∈ (am_t94.drop 40).take 40, decode cX3_missedWith q.1 = .ok q.2 := by decide +kernel
set_option maxRecDepth 100000 in
theorem am_kt94 : ∀ q ∈ am_t94, decode cX3_missedWith q.1 = .ok q.2 := by
  intro q hq
  rw [← List.take_append_drop 40 (am_t94)] at hq
  rcases List.mem_append.mp hq with hq | hq
  · exact am_kt94_0 q hq
  exact am_kt94_1 q (by rw [List.take_of_length_le (by decide)]; exact hq)
def am_t95 : List (Nat × Instr × Nat) := [(0, .aload_n 0, 1), (1, .getfield 72, 3), (4, .invokevirtual 251, 3), (7, .aload_n 0, 1), (8, .getfield 72, 3), (11, .aload_n 0, 1), (12, .getfield 72, 3), (15, .invokevirtual 254, 3), (18, .invokevirtual 261, 3), (21, .lreturn, 1)]
set_option maxRecDepth 100000 in
theorem am_kt95 : ∀ q ∈ am_t95, decode cX10_misfit q.1 = .ok q.2 := by decide +kernel
def am_t96 : List (Nat × Instr × Nat) := [(0, .aload_n 0, 1), (1, .getfield 54, 3), (4, .invokevirtual 221, 3), (7, .aload_n 0, 1), (8, .getfield 72, 3), (11, .invokevirtual 265, 3), (14, .aload_n 0, 1), (15, .getfield 72, 3), (18, .invokevirtual 268, 3), (21, .istore_n 1, 1), (22, .aload_n 0, 1), (23, .getfield 72, 3), (26, .iload_n 1, 1), (27, .invokevirtual 271, 3), (30, .aload_n 0, 1), (31, .getfield 72, 3), (34, .iload_n 1, 1), (35, .invokevirtual 261, 3), (38, .lreturn, 1)]
set_option maxRecDepth 100000 in
theorem am_kt96 : ∀ q ∈ am_t96, decode cX10_misses q.1 = .ok q.2 := by decide +kernel
def am_t97 : List (Nat × Instr × Nat) := [(0, .bipush 9, 2), (2, .aload_n 0, 1), (3, .getfield 29, 3), (6, .getfield 57, 3), (9, .iconst 0, 1), (10, .iaload, 1), (11, .iconst 1, 1), (12, .iadd, 1), (13, .imul, 1), (14, .iconst 3, 1), (15, .aload_n 0, 1), (16, .getfield 29, 3), (19, .getfield 57, 3), (22, .iconst 1, 1), (23, .iaload, 1), (24, .iconst 1, 1), (25, .iadd, 1), (26, .imul, 1), (27, .iadd, 1), (28, .aload_n 0, 1), (29, .getfield 29, 3), (32, .getfield 57, 3), (35, .iconst 2, 1), (36, .iaload, 1), (37, .iadd, 1), (38, .iconst 1, 1), (39, .iadd, 1), (40, .ireturn, 1)]
set_option maxRecDepth 100000 in
theorem am_kt97 : ∀ q ∈ am_t97, decode cX3_shiftsTold q.1 = .ok q.2 := by decide +kernel
def am_t98 : List (Nat × Instr × Nat) := [(0, .iload_n 1, 1), (1, .iconst 3, 1), (2, .invokestatic 98, 3), (5, .ifCond .ne 5, 3), (8, .iconst (-1), 1), (9, .ireturn, 1), (10, .aload_n 0, 1), (11, .getfield 72, 3), (14, .invokevirtual 251, 3), (17, .aload_n 0, 1), (18, .getfield 72, 3), (21, .iload_n 1, 1), (22, .invokevirtual 274, 3), (25, .ireturn, 1)]
set_option maxRecDepth 100000 in
theorem am_kt98 : ∀ q ∈ am_t98, decode cX10_doubt q.1 = .ok q.2 := by decide +kernel
def am_t99 : List (Nat × Instr × Nat) := [(0, .aload_n 0, 1), (1, .invokevirtual 136, 3), (4, .iload_n 1, 1), (5, .invokestatic 78, 3), (8, .istore_n 2, 1), (9, .iconst 0, 1), (10, .istore_n 3, 1), (11, .iconst 0, 1), (12, .istore 4, 2), (14, .aload_n 0, 1), (15, .getfield 41, 3), (18, .getfield 118, 3), (21, .iconst 1, 1), (22, .isub, 1), (23, .istore 5, 2), (25, .iload 5, 2), (27, .ifCond .lt 90, 3), (30, .iload_n 3, 1), (31, .iconst 3, 1), (32, .if_icmp .ge 85, 3), (35, .aload_n 0, 1), (36, .getfield 49, 3), (39, .iload 5, 2), (41, .invokevirtual 121, 3), (44, .istore 6, 2), (46, .iload 6, 2), (48, .ifCond .ge 6, 3), (51, .goto 60, 3), (54, .iinc 3 1, 3), (57, .iload 6, 2), (59, .aload_n 0, 1), (60, .getfield 41, 3), (63, .getfield 127, 3), (66, .iload 5, 2), (68, .iaload, 1), (69, .invokestatic 106, 3), (72, .istore 7, 2), (74, .aload_n 0, 1), (75, .getfield 23, 3), (78, .iload 7, 2), (80, .dup2, 1), (81, .iaload, 1), (82, .iconst 1, 1), (83, .isub, 1), (84, .iastore, 1), (85, .aload_n 0, 1), (86, .invokevirtual 136, 3), (89, .iload_n 1, 1), (90, .invokestatic 78, 3), (93, .iload_n 2, 1), (94, .if_icmp .eq 6, 3), (97, .iinc 4 1, 3), (100, .aload_n 0, 1), (101, .getfield 23, 3), (104, .iload 7, 2), (106, .dup2, 1), (107, .iaload, 1), (108, .iconst 1, 1), (109, .iadd, 1), (110, .iastore, 1), (111, .iinc 5 (-1), 3), (114, .goto (-89), 3), (117, .iload 4, 2), (119, .ireturn, 1)]
set_option maxRecDepth 100000 in
theorem am_kt99_0 : ∀ q ∈ (am_t99.drop 0).take 40, decode cX3_turnsOf q.1 = .ok q.2 := by decide +kernel
set_option maxRecDepth 100000 in
theorem am_kt99_1 : ∀ q ∈ (am_t99.drop 40).take 40, decode cX3_turnsOf q.1 = .ok q.2 := by decide +kernel
set_option maxRecDepth 100000 in
theorem am_kt99 : ∀ q ∈ am_t99, decode cX3_turnsOf q.1 = .ok q.2 := by
  intro q hq
  rw [← List.take_append_drop 40 (am_t99)] at hq
  rcases List.mem_append.mp hq with hq | hq
  · exact am_kt99_0 q hq
  exact am_kt99_1 q (by rw [List.take_of_length_le (by decide)]; exact hq)
def am_t100 : List (Nat × Instr × Nat) := [(0, .iload_n 3, 1), (1, .bipush 60, 2), (3, .invokestatic 98, 3), (6, .ifCond .eq 21, 3), (9, .iload_n 2, 1), (10, .bipush 48, 2), (12, .invokestatic 98, 3), (15, .ifCond .eq 12, 3), (18, .iload 4, 2), (20, .iconst 3, 1), (21, .invokestatic 98, 3), (24, .ifCond .ne 5, 3), (27, .iconst (-1), 1), (28, .ireturn, 1), (29, .iload_n 1, 1), (30, .iconst 0, 1), (31, .iconst 3, 1), (32, .invokestatic 105, 3), (35, .ifCond .eq 8, 3), (38, .iload_n 1, 1), (39, .iconst 2, 1), (40, .if_icmp .ne 6, 3), (43, .bipush (-2), 2), (45, .ireturn, 1), (46, .aload_n 0, 1), (47, .getfield 12, 3), (50, .iload_n 3, 1), (51, .invokevirtual 148, 3), (54, .ifCond .ne 6, 3), (57, .bipush (-3), 2), (59, .ireturn, 1), (60, .aload_n 0, 1), (61, .getfield 72, 3), (64, .iload_n 1, 1), (65, .iload_n 2, 1), (66, .iload_n 3, 1), (67, .iload 4, 2), (69, .iconst (-1), 1), (70, .invokevirtual 277, 3), (73, .aload_n 0, 1), (74, .getfield 72, 3), (77, .invokevirtual 281, 3), (80, .iconst 0, 1), (81, .istore 5, 2), (83, .iconst 0, 1), (84, .istore 6, 2), (86, .iload 6, 2), (88, .iconst 1, 1), (89, .if_icmp .gt 35, 3), (92, .aload_n 0, 1), (93, .getfield 72, 3), (96, .iload_n 1, 1), (97, .iload_n 2, 1), (98, .iload_n 3, 1), (99, .iload 4, 2), (101, .iload 6, 2), (103, .invokevirtual 277, 3), (106, .iload 5, 2), (108, .aload_n 0, 1), (109, .getfield 72, 3), (112, .invokevirtual 284, 3), (115, .iadd, 1), (116, .istore 5, 2), (118, .iinc 6 1, 3), (121, .goto (-35), 3), (124, .iload 5, 2), (126, .ireturn, 1)]
set_option maxRecDepth 100000 in
theorem am_kt100_0 : ∀ q ∈ (am_t100.drop 0).take 40, decode cX10_tells q.1 = .ok q.2 := by decide +kernel
set_option maxRecDepth 100000 in
theorem am_kt100_1 : ∀ q ∈ (am_t100.drop 40).take 40, decode cX10_tells q.1 = .ok q.2 := by decide +kernel
set_option maxRecDepth 100000 in
theorem am_kt100 : ∀ q ∈ am_t100, decode cX10_tells q.1 = .ok q.2 := by
  intro q hq
  rw [← List.take_append_drop 40 (am_t100)] at hq
  rcases List.mem_append.mp hq with hq | hq
  · exact am_kt100_0 q hq
  exact am_kt100_1 q (by rw [List.take_of_length_le (by decide)]; exact hq)
def am_t101 : List (Nat × Instr × Nat) := [(0, .aload_n 0, 1), (1, .getfield 29, 3), (4, .getfield 57, 3), (7, .iconst 0, 1), (8, .aload_n 0, 1), (9, .getfield 9, 3), (12, .iconst 0, 1), (13, .iconst 3, 1), (14, .invokestatic 140, 3), (17, .aload_n 0, 1), (18, .getfield 9, 3), (21, .iload 4, 2), (23, .iload 5, 2), (25, .iastore, 1), (26, .aload_n 0, 1), (27, .getfield 53, 3), (30, .iload_n 1, 1), (31, .iload_n 2, 1), (32, .iload_n 3, 1), (33, .iconst 0, 1), (34, .aload_n 0, 1), (35, .getfield 9, 3), (38, .invokevirtual 146, 3), (41, .aload_n 0, 1), (42, .getfield 53, 3), (45, .bipush 12, 2), (47, .invokevirtual 93, 3), (50, .return_, 1)]
set_option maxRecDepth 100000 in
theorem am_kt101 : ∀ q ∈ am_t101, decode cX3_tryDrift q.1 = .ok q.2 := by decide +kernel
def am_t102 : List (Nat × Instr × Nat) := [(0, .iconst 0, 1), (1, .istore_n 1, 1), (2, .iload_n 1, 1), (3, .bipush 60, 2), (5, .if_icmp .ge 23, 3), (8, .aload_n 0, 1), (9, .getfield 26, 3), (12, .iload_n 1, 1), (13, .aload_n 0, 1), (14, .getfield 53, 3), (17, .iload_n 1, 1), (18, .invokevirtual 150, 3), (21, .iastore, 1), (22, .iinc 1 1, 3), (25, .goto (-23), 3), (28, .return_, 1)]
set_option maxRecDepth 100000 in
theorem am_kt102 : ∀ q ∈ am_t102, decode cX3_keepFound q.1 = .ok q.2 := by decide +kernel
def am_t103 : List (Nat × Instr × Nat) := [(0, .iconst 0, 1), (1, .istore_n 1, 1), (2, .iconst 0, 1), (3, .istore_n 2, 1), (4, .iload_n 2, 1), (5, .bipush 60, 2), (7, .if_icmp .ge 33, 3), (10, .iload_n 1, 1), (11, .aload_n 0, 1), (12, .getfield 53, 3), (15, .iload_n 2, 1), (16, .invokevirtual 150, 3), (19, .aload_n 0, 1), (20, .getfield 26, 3), (23, .iload_n 2, 1), (24, .iaload, 1), (25, .isub, 1), (26, .invokestatic 153, 3), (29, .bipush 10, 2), (31, .idiv, 1), (32, .iadd, 1), (33, .istore_n 1, 1), (34, .iinc 2 1, 3), (37, .goto (-33), 3), (40, .iload_n 1, 1), (41, .ireturn, 1)]
set_option maxRecDepth 100000 in
theorem am_kt103 : ∀ q ∈ am_t103, decode cX3_offFromKept q.1 = .ok q.2 := by decide +kernel
def am_t104 : List (Nat × Instr × Nat) := [(0, .iload_n 3, 1), (1, .iconst 1, 1), (2, .bipush 8, 2), (4, .invokestatic 105, 3), (7, .ifCond .ne 6, 3), (10, .bipush (-2), 2), (12, .ireturn, 1), (13, .aload_n 0, 1), (14, .getfield 79, 3), (17, .getfield 287, 3), (20, .iload_n 3, 1), (21, .iadd, 1), (22, .bipush 120, 2), (24, .if_icmp .le 6, 3), (27, .bipush (-4), 2), (29, .ireturn, 1), (30, .aload_n 0, 1), (31, .getfield 79, 3), (34, .lload_n 1, 1), (35, .iload_n 3, 1), (36, .invokevirtual 288, 3), (39, .ireturn, 1)]
set_option maxRecDepth 100000 in
theorem am_kt104 : ∀ q ∈ am_t104, decode cX10_feed q.1 = .ok q.2 := by decide +kernel
def am_t105 : List (Nat × Instr × Nat) := [(0, .iload_n 3, 1), (1, .iconst 1, 1), (2, .isub, 1), (3, .istore 4, 2), (5, .iload 4, 2), (7, .ifCond .lt 40, 3), (10, .aload_n 0, 1), (11, .getfield 9, 3), (14, .aload_n 0, 1), (15, .getfield 15, 3), (18, .lload_n 1, 1), (19, .bipush 8, 2), (21, .iload 4, 2), (23, .imul, 1), (24, .lshr, 1), (25, .ldc2_w 22, 3), (28, .land, 1), (29, .l2i, 1), (30, .iastore, 1), (31, .aload_n 0, 1), (32, .dup, 1), (33, .getfield 15, 3), (36, .iconst 1, 1), (37, .iadd, 1), (38, .putfield 15, 3), (41, .iinc 4 (-1), 3), (44, .goto (-39), 3), (47, .aload_n 0, 1), (48, .getfield 15, 3), (51, .ireturn, 1)]
set_option maxRecDepth 100000 in
theorem am_kt105 : ∀ q ∈ am_t105, decode cX9_append q.1 = .ok q.2 := by decide +kernel
def am_t106 : List (Nat × Instr × Nat) := [(0, .aload_n 0, 1), (1, .getfield 86, 3), (4, .getfield 292, 3), (7, .bipush 8, 2), (9, .if_icmp .lt 6, 3), (12, .bipush (-4), 2), (14, .ireturn, 1), (15, .aload_n 0, 1), (16, .getfield 86, 3), (19, .aload_n 0, 1), (20, .getfield 79, 3), (23, .invokevirtual 293, 3), (26, .istore_n 1, 1), (27, .aload_n 0, 1), (28, .getfield 79, 3), (31, .getfield 297, 3), (34, .istore_n 2, 1), (35, .aload_n 0, 1), (36, .getfield 79, 3), (39, .invokevirtual 300, 3), (42, .iload_n 1, 1), (43, .ifCond .eq 13, 3), (46, .aload_n 0, 1), (47, .getfield 86, 3), (50, .invokevirtual 303, 3), (53, .goto 7, 3), (56, .bipush (-10), 2), (58, .iload_n 2, 1), (59, .isub, 1), (60, .ireturn, 1)]
set_option maxRecDepth 100000 in
theorem am_kt106 : ∀ q ∈ am_t106, decode cX10_prize q.1 = .ok q.2 := by decide +kernel
def am_t107 : List (Nat × Instr × Nat) := [(0, .aload_n 0, 1), (1, .getfield 15, 3), (4, .aload_n 0, 1), (5, .getfield 34, 3), (8, .iconst 0, 1), (9, .iastore, 1), (10, .aload_n 1, 1), (11, .ldc 38, 2), (13, .invokevirtual 40, 3), (16, .ifCond .ne 5, 3), (19, .iconst 0, 1), (20, .ireturn, 1), (21, .aload_n 0, 1), (22, .getfield 9, 3), (25, .aload_n 0, 1), (26, .getfield 34, 3), (29, .aload_n 1, 1), (30, .invokevirtual 46, 3), (33, .iastore, 1), (34, .aload_n 0, 1), (35, .getfield 9, 3), (38, .aload_n 0, 1), (39, .getfield 34, 3), (42, .iaload, 1), (43, .ifCond .ge 5, 3), (46, .iconst 0, 1), (47, .ireturn, 1), (48, .aload_n 1, 1), (49, .invokevirtual 50, 3), (52, .ifCond .eq 5, 3), (55, .iconst 1, 1), (56, .ireturn, 1), (57, .aload_n 1, 1), (58, .ldc 54, 2), (60, .invokevirtual 40, 3), (63, .ifCond .ne 5, 3), (66, .iconst 0, 1), (67, .ireturn, 1), (68, .iconst 0, 1), (69, .istore_n 2, 1), (70, .iload_n 2, 1), (71, .iconst 3, 1), (72, .if_icmp .ge 65, 3), (75, .aload_n 0, 1), (76, .aload_n 1, 1), (77, .aload_n 0, 1), (78, .getfield 34, 3), (81, .iconst 3, 1), (82, .imul, 1), (83, .iload_n 2, 1), (84, .iadd, 1), (85, .invokevirtual 56, 3), (88, .ifCond .ne 5, 3), (91, .iconst 0, 1), (92, .ireturn, 1), (93, .aload_n 0, 1), (94, .getfield 15, 3), (97, .aload_n 0, 1), (98, .getfield 34, 3), (101, .dup2, 1), (102, .iaload, 1), (103, .iconst 1, 1), (104, .iadd, 1), (105, .iastore, 1), (106, .aload_n 1, 1), (107, .invokevirtual 50, 3), (110, .ifCond .eq 5, 3), (113, .iconst 1, 1), (114, .ireturn, 1), (115, .iload_n 2, 1), (116, .iconst 2, 1), (117, .if_icmp .eq 12, 3), (120, .aload_n 1, 1), (121, .bipush 38, 2), (123, .invokevirtual 60, 3), (126, .ifCond .ne 5, 3), (129, .iconst 0, 1), (130, .ireturn, 1), (131, .iinc 2 1, 3), (134, .goto (-64), 3), (137, .iconst 0, 1), (138, .ireturn, 1)]
set_option maxRecDepth 100000 in
theorem am_kt107_0 : ∀ q ∈ (am_t107.drop 0).take 40, decode cX6_readFrom q.1 = .ok q.2 := by decide +kernel
set_option maxRecDepth 100000 in
theorem am_kt107_1 : ∀ q ∈ (am_t107.drop 40).take 40, decode cX6_readFrom q.1 = .ok q.2 := by decide +kernel
set_option maxRecDepth 100000 in
theorem am_kt107_2 : ∀ q ∈ (am_t107.drop 80).take 40, decode cX6_readFrom q.1 = .ok q.2 := by decide +kernel
set_option maxRecDepth 100000 in
theorem am_kt107 : ∀ q ∈ am_t107, decode cX6_readFrom q.1 = .ok q.2 := by
  intro q hq
  rw [← List.take_append_drop 40 (am_t107)] at hq
  rcases List.mem_append.mp hq with hq | hq
  · exact am_kt107_0 q hq
  rw [← List.take_append_drop 40 ((am_t107.drop 40))] at hq
  rcases List.mem_append.mp hq with hq | hq
  · exact am_kt107_1 q hq
  rw [List.drop_drop] at hq
  exact am_kt107_2 q (by rw [List.take_of_length_le (by decide)]; exact hq)
def am_t108 : List (Nat × Instr × Nat) := [(0, .iconst 0, 1), (1, .istore_n 2, 1), (2, .iload_n 2, 1), (3, .aload_n 1, 1), (4, .invokevirtual 28, 3), (7, .if_icmp .ge 23, 3), (10, .aload_n 0, 1), (11, .aload_n 1, 1), (12, .iload_n 2, 1), (13, .invokevirtual 34, 3), (16, .invokevirtual 38, 3), (19, .ifCond .ne 5, 3), (22, .iconst 0, 1), (23, .ireturn, 1), (24, .iinc 2 1, 3), (27, .goto (-25), 3), (30, .iconst 1, 1), (31, .ireturn, 1)]
set_option maxRecDepth 100000 in
theorem am_kt108 : ∀ q ∈ am_t108, decode cX9_takeWord q.1 = .ok q.2 := by decide +kernel
def am_t109 : List (Nat × Instr × Nat) := [(0, .aload_n 0, 1), (1, .getfield 9, 3), (4, .arraylength, 1), (5, .aload_n 0, 1), (6, .invokevirtual 335, 3), (9, .ishr, 1), (10, .ireturn, 1)]
set_option maxRecDepth 100000 in
theorem am_kt109 : ∀ q ∈ am_t109, decode cJ0_length_8abf5 q.1 = .ok q.2 := by decide +kernel
def am_t110 : List (Nat × Instr × Nat) := [(0, .getstatic 38, 3), (3, .ifCond .eq 10, 3), (6, .aload_n 0, 1), (7, .getfield 15, 3), (10, .goto 4, 3), (13, .iconst 1, 1), (14, .ireturn, 1)]
set_option maxRecDepth 100000 in
theorem am_kt110 : ∀ q ∈ am_t110, decode cJ0_coder_7d493 q.1 = .ok q.2 := by decide +kernel
def am_t111 : List (Nat × Instr × Nat) := [(0, .aload_n 0, 1), (1, .invokevirtual 492, 3), (4, .ifCond .eq 12, 3), (7, .aload_n 0, 1), (8, .getfield 9, 3), (11, .iload_n 1, 1), (12, .invokestatic 495, 3), (15, .ireturn, 1), (16, .aload_n 0, 1), (17, .getfield 9, 3), (20, .iload_n 1, 1), (21, .invokestatic 498, 3), (24, .ireturn, 1)]
set_option maxRecDepth 100000 in
theorem am_kt111 : ∀ q ∈ am_t111, decode cJ0_charAt_5068e q.1 = .ok q.2 := by decide +kernel
def am_t112 : List (Nat × Instr × Nat) := [(0, .getstatic 38, 3), (3, .ifCond .eq 14, 3), (6, .aload_n 0, 1), (7, .getfield 15, 3), (10, .ifCond .ne 7, 3), (13, .iconst 1, 1), (14, .goto 4, 3), (17, .iconst 0, 1), (18, .ireturn, 1)]
set_option maxRecDepth 100000 in
theorem am_kt112 : ∀ q ∈ am_t112, decode cJ0_isLatin1_aae02 q.1 = .ok q.2 := by decide +kernel
def am_t113 : List (Nat × Instr × Nat) := [(0, .iload_n 1, 1), (1, .aload_n 0, 1), (2, .arraylength, 1), (3, .invokestatic 9, 3), (6, .aload_n 0, 1), (7, .iload_n 1, 1), (8, .baload, 1), (9, .sipush 255, 3), (12, .iand, 1), (13, .i2c, 1), (14, .ireturn, 1)]
set_option maxRecDepth 100000 in
theorem am_kt113 : ∀ q ∈ am_t113, decode cJ1_charAt_3b067 q.1 = .ok q.2 := by decide +kernel
def am_t114 : List (Nat × Instr × Nat) := [(0, .iload_n 0, 1), (1, .iload_n 1, 1), (2, .getstatic 1053, 3), (5, .invokestatic 1059, 3), (8, .pop, 1), (9, .return_, 1)]
set_option maxRecDepth 100000 in
theorem am_kt114 : ∀ q ∈ am_t114, decode cJ0_checkIndex_df160 q.1 = .ok q.2 := by decide +kernel
def am_t115 : List (Nat × Instr × Nat) := [(0, .iload_n 0, 1), (1, .ifCond .lt 8, 3), (4, .iload_n 0, 1), (5, .iload_n 1, 1), (6, .if_icmp .lt 10, 3), (9, .aload_n 2, 1), (10, .iload_n 0, 1), (11, .iload_n 1, 1), (12, .invokestatic 95, 3), (15, .athrow, 1), (16, .iload_n 0, 1), (17, .ireturn, 1)]
set_option maxRecDepth 100000 in
theorem am_kt115 : ∀ q ∈ am_t115, decode cJ3_checkIndex_8e157 q.1 = .ok q.2 := by decide +kernel
end
section
def am_t116 : List (Nat × Instr × Nat) := [(0, .aload_n 0, 1), (1, .iload_n 1, 1), (2, .invokevirtual 24, 3), (5, .ifCond .ne 5, 3), (8, .iconst 0, 1), (9, .ireturn, 1), (10, .aload_n 0, 1), (11, .dup, 1), (12, .getfield 19, 3), (15, .iconst 1, 1), (16, .iadd, 1), (17, .putfield 19, 3), (20, .iconst 1, 1), (21, .ireturn, 1)]
set_option maxRecDepth 100000 in
theorem am_kt116 : ∀ q ∈ am_t116, decode cX9_take q.1 = .ok q.2 := by decide +kernel
def am_t117 : List (Nat × Instr × Nat) := [(0, .aload_n 0, 1), (1, .getfield 19, 3), (4, .aload_n 0, 1), (5, .getfield 15, 3), (8, .if_icmp .ge 20, 3), (11, .aload_n 0, 1), (12, .getfield 9, 3), (15, .aload_n 0, 1), (16, .getfield 19, 3), (19, .iaload, 1), (20, .iload_n 1, 1), (21, .if_icmp .ne 7, 3), (24, .iconst 1, 1), (25, .goto 4, 3), (28, .iconst 0, 1), (29, .ireturn, 1)]
set_option maxRecDepth 100000 in
theorem am_kt117 : ∀ q ∈ am_t117, decode cX9_isAt q.1 = .ok q.2 := by decide +kernel
def am_t118 : List (Nat × Instr × Nat) := [(0, .iconst (-1), 1), (1, .istore_n 1, 1), (2, .iconst 0, 1), (3, .istore_n 2, 1), (4, .iload_n 2, 1), (5, .iconst 4, 1), (6, .if_icmp .ge 80, 3), (9, .aload_n 0, 1), (10, .getfield 19, 3), (13, .aload_n 0, 1), (14, .getfield 15, 3), (17, .if_icmp .ge 69, 3), (20, .aload_n 0, 1), (21, .getfield 9, 3), (24, .aload_n 0, 1), (25, .getfield 19, 3), (28, .iaload, 1), (29, .bipush 48, 2), (31, .if_icmp .lt 55, 3), (34, .aload_n 0, 1), (35, .getfield 9, 3), (38, .aload_n 0, 1), (39, .getfield 19, 3), (42, .iaload, 1), (43, .bipush 57, 2), (45, .if_icmp .gt 41, 3), (48, .iload_n 1, 1), (49, .iconst 0, 1), (50, .invokestatic 41, 3), (53, .bipush 10, 2), (55, .imul, 1), (56, .aload_n 0, 1), (57, .getfield 9, 3), (60, .aload_n 0, 1), (61, .getfield 19, 3), (64, .iaload, 1), (65, .iadd, 1), (66, .bipush 48, 2), (68, .isub, 1), (69, .istore_n 1, 1), (70, .aload_n 0, 1), (71, .dup, 1), (72, .getfield 19, 3), (75, .iconst 1, 1), (76, .iadd, 1), (77, .putfield 19, 3), (80, .iinc 2 1, 3), (83, .goto (-79), 3), (86, .iload_n 1, 1), (87, .ireturn, 1)]
set_option maxRecDepth 100000 in
theorem am_kt118_0 : ∀ q ∈ (am_t118.drop 0).take 40, decode cX9_takeNumber q.1 = .ok q.2 := by decide +kernel
set_option maxRecDepth 100000 in
theorem am_kt118_1 : ∀ q ∈ (am_t118.drop 40).take 40, decode cX9_takeNumber q.1 = .ok q.2 := by decide +kernel
set_option maxRecDepth 100000 in
theorem am_kt118 : ∀ q ∈ am_t118, decode cX9_takeNumber q.1 = .ok q.2 := by
  intro q hq
  rw [← List.take_append_drop 40 (am_t118)] at hq
  rcases List.mem_append.mp hq with hq | hq
  · exact am_kt118_0 q hq
  exact am_kt118_1 q (by rw [List.take_of_length_le (by decide)]; exact hq)
def am_t119 : List (Nat × Instr × Nat) := [(0, .aload_n 0, 1), (1, .getfield 19, 3), (4, .aload_n 0, 1), (5, .getfield 15, 3), (8, .if_icmp .lt 7, 3), (11, .iconst 1, 1), (12, .goto 4, 3), (15, .iconst 0, 1), (16, .ireturn, 1)]
set_option maxRecDepth 100000 in
theorem am_kt119 : ∀ q ∈ am_t119, decode cX9_isAtEnd q.1 = .ok q.2 := by decide +kernel
def am_t120 : List (Nat × Instr × Nat) := [(0, .aload_n 0, 1), (1, .getfield 18, 3), (4, .iload_n 2, 1), (5, .aload_n 1, 1), (6, .bipush 33, 2), (8, .invokevirtual 60, 3), (11, .bastore, 1), (12, .aload_n 0, 1), (13, .getfield 22, 3), (16, .iload_n 2, 1), (17, .aload_n 1, 1), (18, .invokestatic 64, 3), (21, .iastore, 1), (22, .aload_n 0, 1), (23, .getfield 22, 3), (26, .iload_n 2, 1), (27, .iaload, 1), (28, .ifCond .ge 5, 3), (31, .iconst 0, 1), (32, .ireturn, 1), (33, .aload_n 0, 1), (34, .getfield 25, 3), (37, .iload_n 2, 1), (38, .aload_n 1, 1), (39, .invokestatic 68, 3), (42, .iastore, 1), (43, .aload_n 0, 1), (44, .getfield 25, 3), (47, .iload_n 2, 1), (48, .iaload, 1), (49, .ifCond .ge 5, 3), (52, .iconst 0, 1), (53, .ireturn, 1), (54, .aload_n 0, 1), (55, .getfield 28, 3), (58, .iload_n 2, 1), (59, .aload_n 1, 1), (60, .invokevirtual 46, 3), (63, .iastore, 1), (64, .aload_n 0, 1), (65, .getfield 28, 3), (68, .iload_n 2, 1), (69, .iaload, 1), (70, .ifCond .lt 7, 3), (73, .iconst 1, 1), (74, .goto 4, 3), (77, .iconst 0, 1), (78, .ireturn, 1)]
set_option maxRecDepth 100000 in
theorem am_kt120_0 : ∀ q ∈ (am_t120.drop 0).take 40, decode cX6_readTest q.1 = .ok q.2 := by decide +kernel
set_option maxRecDepth 100000 in
theorem am_kt120_1 : ∀ q ∈ (am_t120.drop 40).take 40, decode cX6_readTest q.1 = .ok q.2 := by decide +kernel
set_option maxRecDepth 100000 in
theorem am_kt120 : ∀ q ∈ am_t120, decode cX6_readTest q.1 = .ok q.2 := by
  intro q hq
  rw [← List.take_append_drop 40 (am_t120)] at hq
  rcases List.mem_append.mp hq with hq | hq
  · exact am_kt120_0 q hq
  exact am_kt120_1 q (by rw [List.take_of_length_le (by decide)]; exact hq)
def am_t121 : List (Nat × Instr × Nat) := [(0, .aload_n 0, 1), (1, .bipush 109, 2), (3, .invokevirtual 71, 3), (6, .ifCond .eq 18, 3), (9, .aload_n 0, 1), (10, .ldc 74, 2), (12, .invokevirtual 40, 3), (15, .ifCond .eq 7, 3), (18, .iconst 0, 1), (19, .goto 4, 3), (22, .iconst (-1), 1), (23, .ireturn, 1), (24, .aload_n 0, 1), (25, .bipush 102, 2), (27, .invokevirtual 71, 3), (30, .ifCond .eq 18, 3), (33, .aload_n 0, 1), (34, .ldc 76, 2), (36, .invokevirtual 40, 3), (39, .ifCond .eq 7, 3), (42, .iconst 1, 1), (43, .goto 4, 3), (46, .iconst (-1), 1), (47, .ireturn, 1), (48, .aload_n 0, 1), (49, .bipush 107, 2), (51, .invokevirtual 71, 3), (54, .ifCond .eq 18, 3), (57, .aload_n 0, 1), (58, .ldc 78, 2), (60, .invokevirtual 40, 3), (63, .ifCond .eq 7, 3), (66, .iconst 2, 1), (67, .goto 4, 3), (70, .iconst (-1), 1), (71, .ireturn, 1), (72, .aload_n 0, 1), (73, .bipush 116, 2), (75, .invokevirtual 71, 3), (78, .ifCond .eq 18, 3), (81, .aload_n 0, 1), (82, .ldc 80, 2), (84, .invokevirtual 40, 3), (87, .ifCond .eq 7, 3), (90, .iconst 3, 1), (91, .goto 4, 3), (94, .iconst (-1), 1), (95, .ireturn, 1), (96, .aload_n 0, 1), (97, .ldc 82, 2), (99, .invokevirtual 40, 3), (102, .ifCond .eq 7, 3), (105, .iconst 4, 1), (106, .goto 4, 3), (109, .iconst (-1), 1), (110, .ireturn, 1)]
set_option maxRecDepth 100000 in
theorem am_kt121_0 : ∀ q ∈ (am_t121.drop 0).take 40, decode cX6_readField q.1 = .ok q.2 := by decide +kernel
set_option maxRecDepth 100000 in
theorem am_kt121_1 : ∀ q ∈ (am_t121.drop 40).take 40, decode cX6_readField q.1 = .ok q.2 := by decide +kernel
set_option maxRecDepth 100000 in
theorem am_kt121 : ∀ q ∈ am_t121, decode cX6_readField q.1 = .ok q.2 := by
  intro q hq
  rw [← List.take_append_drop 40 (am_t121)] at hq
  rcases List.mem_append.mp hq with hq | hq
  · exact am_kt121_0 q hq
  exact am_kt121_1 q (by rw [List.take_of_length_le (by decide)]; exact hq)
def am_t122 : List (Nat × Instr × Nat) := [(0, .aload_n 0, 1), (1, .bipush 61, 2), (3, .invokevirtual 60, 3), (6, .ifCond .eq 6, 3), (9, .bipush 61, 2), (11, .ireturn, 1), (12, .aload_n 0, 1), (13, .bipush 60, 2), (15, .invokevirtual 60, 3), (18, .ifCond .eq 6, 3), (21, .bipush 60, 2), (23, .ireturn, 1), (24, .aload_n 0, 1), (25, .bipush 62, 2), (27, .invokevirtual 60, 3), (30, .ifCond .eq 8, 3), (33, .bipush 62, 2), (35, .goto 4, 3), (38, .iconst (-1), 1), (39, .ireturn, 1)]
set_option maxRecDepth 100000 in
theorem am_kt122 : ∀ q ∈ am_t122, decode cX6_readSign q.1 = .ok q.2 := by decide +kernel
def am_t123 : List (Nat × Instr × Nat) := [(0, .aload_n 0, 1), (1, .iconst 0, 1), (2, .putfield 15, 3), (5, .aload_n 0, 1), (6, .iconst 0, 1), (7, .putfield 19, 3), (10, .return_, 1)]
set_option maxRecDepth 100000 in
theorem am_kt123 : ∀ q ∈ am_t123, decode cX9_empty q.1 = .ok q.2 := by decide +kernel
def am_t124 : List (Nat × Instr × Nat) := [(0, .aload_n 0, 1), (1, .dup, 1), (2, .getfield 34, 3), (5, .dup_x1, 1), (6, .iconst 1, 1), (7, .iadd, 1), (8, .putfield 34, 3), (11, .ireturn, 1)]
set_option maxRecDepth 100000 in
theorem am_kt124 : ∀ q ∈ am_t124, decode cX6_keepRead q.1 = .ok q.2 := by decide +kernel
def am_t125 : List (Nat × Instr × Nat) := [(0, .iload_n 1, 1), (1, .aload_n 0, 1), (2, .getfield 33, 3), (5, .getfield 210, 3), (8, .invokestatic 98, 3), (11, .ifCond .ne 5, 3), (14, .iconst (-1), 1), (15, .ireturn, 1), (16, .aload_n 0, 1), (17, .getfield 54, 3), (20, .invokevirtual 221, 3), (23, .aload_n 0, 1), (24, .iload_n 1, 1), (25, .invokevirtual 306, 3), (28, .ireturn, 1)]
set_option maxRecDepth 100000 in
theorem am_kt125 : ∀ q ∈ am_t125, decode cX10_pays q.1 = .ok q.2 := by decide +kernel
def am_t126 : List (Nat × Instr × Nat) := [(0, .aload_n 0, 1), (1, .getfield 33, 3), (4, .getfield 217, 3), (7, .iload_n 1, 1), (8, .baload, 1), (9, .ifCond .ne 15, 3), (12, .aload_n 0, 1), (13, .getfield 33, 3), (16, .iload_n 1, 1), (17, .invokevirtual 236, 3), (20, .iconst (-1), 1), (21, .if_icmp .eq 5, 3), (24, .iconst 0, 1), (25, .ireturn, 1), (26, .aload_n 0, 1), (27, .getfield 63, 3), (30, .iload_n 1, 1), (31, .invokevirtual 230, 3), (34, .istore_n 2, 1), (35, .iload_n 2, 1), (36, .ifCond .ge 5, 3), (39, .iconst 0, 1), (40, .ireturn, 1), (41, .aload_n 0, 1), (42, .getfield 33, 3), (45, .getfield 242, 3), (48, .iload_n 1, 1), (49, .iaload, 1), (50, .istore_n 3, 1), (51, .aload_n 0, 1), (52, .getfield 86, 3), (55, .getfield 318, 3), (58, .iconst 0, 1), (59, .iconst 0, 1), (60, .aload_n 0, 1), (61, .getfield 33, 3), (64, .getfield 321, 3), (67, .iload_n 1, 1), (68, .iaload, 1), (69, .aload_n 0, 1), (70, .getfield 19, 3), (73, .getfield 174, 3), (76, .iload_n 2, 1), (77, .iaload, 1), (78, .isub, 1), (79, .invokestatic 324, 3), (82, .iastore, 1), (83, .aload_n 0, 1), (84, .getfield 86, 3), (87, .getfield 318, 3), (90, .iconst 1, 1), (91, .aload_n 0, 1), (92, .getfield 26, 3), (95, .aload_n 0, 1), (96, .getfield 19, 3), (99, .getfield 177, 3), (102, .iload_n 2, 1), (103, .iaload, 1), (104, .iload_n 3, 1), (105, .invokevirtual 329, 3), (108, .iastore, 1), (109, .aload_n 0, 1), (110, .getfield 86, 3), (113, .getfield 318, 3), (116, .iconst 2, 1), (117, .aload_n 0, 1), (118, .getfield 19, 3), (121, .getfield 165, 3), (124, .iload_n 2, 1), (125, .iaload, 1), (126, .iastore, 1), (127, .aload_n 0, 1), (128, .getfield 86, 3), (131, .getfield 318, 3), (134, .iconst 3, 1), (135, .aload_n 0, 1), (136, .getfield 26, 3), (139, .getfield 309, 3), (142, .iload_n 3, 1), (143, .iaload, 1), (144, .iastore, 1), (145, .aload_n 0, 1), (146, .getfield 86, 3), (149, .getfield 318, 3), (152, .iconst 4, 1), (153, .aload_n 0, 1), (154, .getfield 63, 3), (157, .iload_n 1, 1), (158, .iload_n 2, 1), (159, .invokevirtual 224, 3), (162, .sipush 1000, 3), (165, .idiv, 1), (166, .iastore, 1), (167, .aload_n 0, 1), (168, .getfield 86, 3), (171, .invokevirtual 332, 3), (174, .ireturn, 1)]
set_option maxRecDepth 100000 in
theorem am_kt126_0 : ∀ q ∈ (am_t126.drop 0).take 40, decode cX10_payOf q.1 = .ok q.2 := by decide +kernel
set_option maxRecDepth 100000 in
theorem am_kt126_1 : ∀ q ∈ (am_t126.drop 40).take 40, decode cX10_payOf q.1 = .ok q.2 := by decide +kernel
set_option maxRecDepth 100000 in
theorem am_kt126_2 : ∀ q ∈ (am_t126.drop 80).take 40, decode cX10_payOf q.1 = .ok q.2 := by decide +kernel
set_option maxRecDepth 100000 in
theorem am_kt126 : ∀ q ∈ am_t126, decode cX10_payOf q.1 = .ok q.2 := by
  intro q hq
  rw [← List.take_append_drop 40 (am_t126)] at hq
  rcases List.mem_append.mp hq with hq | hq
  · exact am_kt126_0 q hq
  rw [← List.take_append_drop 40 ((am_t126.drop 40))] at hq
  rcases List.mem_append.mp hq with hq | hq
  · exact am_kt126_1 q hq
  rw [List.drop_drop] at hq
  exact am_kt126_2 q (by rw [List.take_of_length_le (by decide)]; exact hq)
def am_t127 : List (Nat × Instr × Nat) := [(0, .iload_n 1, 1), (1, .bipush 6, 2), (3, .idiv, 1), (4, .aload_n 0, 1), (5, .getfield 9, 3), (8, .iload_n 2, 1), (9, .iaload, 1), (10, .aload_n 0, 1), (11, .getfield 15, 3), (14, .iload_n 2, 1), (15, .iaload, 1), (16, .invokestatic 31, 3), (19, .iload_n 1, 1), (20, .bipush 6, 2), (22, .irem, 1), (23, .aload_n 0, 1), (24, .getfield 18, 3), (27, .iload_n 2, 1), (28, .iaload, 1), (29, .aload_n 0, 1), (30, .getfield 21, 3), (33, .iload_n 2, 1), (34, .iaload, 1), (35, .invokestatic 31, 3), (38, .iadd, 1), (39, .ireturn, 1)]
set_option maxRecDepth 100000 in
theorem am_kt127 : ∀ q ∈ am_t127, decode cX5_stepsFrom q.1 = .ok q.2 := by decide +kernel
def am_t128 : List (Nat × Instr × Nat) := [(0, .iconst 0, 1), (1, .iload_n 1, 1), (2, .iload_n 0, 1), (3, .isub, 1), (4, .iload_n 0, 1), (5, .iload_n 2, 1), (6, .isub, 1), (7, .invokestatic 35, 3), (10, .invokestatic 35, 3), (13, .ireturn, 1)]
set_option maxRecDepth 100000 in
theorem am_kt128 : ∀ q ∈ am_t128, decode cX5_stepsInto q.1 = .ok q.2 := by decide +kernel
def am_t129 : List (Nat × Instr × Nat) := [(0, .iconst 0, 1), (1, .istore_n 1, 1), (2, .iconst 0, 1), (3, .istore_n 2, 1), (4, .iload_n 2, 1), (5, .aload_n 0, 1), (6, .getfield 34, 3), (9, .if_icmp .ge 26, 3), (12, .aload_n 0, 1), (13, .iload_n 2, 1), (14, .invokevirtual 84, 3), (17, .ifCond .eq 12, 3), (20, .iload_n 1, 1), (21, .aload_n 0, 1), (22, .getfield 9, 3), (25, .iload_n 2, 1), (26, .iaload, 1), (27, .iadd, 1), (28, .istore_n 1, 1), (29, .iinc 2 1, 3), (32, .goto (-28), 3), (35, .iload_n 1, 1), (36, .ireturn, 1)]
set_option maxRecDepth 100000 in
theorem am_kt129 : ∀ q ∈ am_t129, decode cX6_worthOfFacts q.1 = .ok q.2 := by decide +kernel
def am_t130 : List (Nat × Instr × Nat) := [(0, .iconst 0, 1), (1, .istore_n 2, 1), (2, .iload_n 2, 1), (3, .aload_n 0, 1), (4, .getfield 15, 3), (7, .iload_n 1, 1), (8, .iaload, 1), (9, .if_icmp .ge 31, 3), (12, .iload_n 1, 1), (13, .iconst 3, 1), (14, .imul, 1), (15, .iload_n 2, 1), (16, .iadd, 1), (17, .istore_n 3, 1), (18, .aload_n 0, 1), (19, .iload_n 3, 1), (20, .invokevirtual 87, 3), (23, .aload_n 0, 1), (24, .getfield 18, 3), (27, .iload_n 3, 1), (28, .baload, 1), (29, .if_icmp .ne 5, 3), (32, .iconst 0, 1), (33, .ireturn, 1), (34, .iinc 2 1, 3), (37, .goto (-35), 3), (40, .iconst 1, 1), (41, .ireturn, 1)]
set_option maxRecDepth 100000 in
theorem am_kt130 : ∀ q ∈ am_t130, decode cX6_holds q.1 = .ok q.2 := by decide +kernel
def am_t131 : List (Nat × Instr × Nat) := [(0, .aload_n 0, 1), (1, .getfield 31, 3), (4, .aload_n 0, 1), (5, .getfield 22, 3), (8, .iload_n 1, 1), (9, .iaload, 1), (10, .iaload, 1), (11, .istore_n 2, 1), (12, .aload_n 0, 1), (13, .getfield 25, 3), (16, .iload_n 1, 1), (17, .iaload, 1), (18, .lookupswitch 58 #[(60, 42), (61, 26)], 26), (44, .iload_n 2, 1), (45, .aload_n 0, 1), (46, .getfield 28, 3), (49, .iload_n 1, 1), (50, .iaload, 1), (51, .if_icmp .ne 7, 3), (54, .iconst 1, 1), (55, .goto 4, 3), (58, .iconst 0, 1), (59, .ireturn, 1), (60, .iload_n 2, 1), (61, .aload_n 0, 1), (62, .getfield 28, 3), (65, .iload_n 1, 1), (66, .iaload, 1), (67, .if_icmp .ge 7, 3), (70, .iconst 1, 1), (71, .goto 4, 3), (74, .iconst 0, 1), (75, .ireturn, 1), (76, .iload_n 2, 1), (77, .aload_n 0, 1), (78, .getfield 28, 3), (81, .iload_n 1, 1), (82, .iaload, 1), (83, .if_icmp .le 7, 3), (86, .iconst 1, 1), (87, .goto 4, 3), (90, .iconst 0, 1), (91, .ireturn, 1)]
set_option maxRecDepth 100000 in
theorem am_kt131_0 : ∀ q ∈ (am_t131.drop 0).take 40, decode cX6_isTrue q.1 = .ok q.2 := by decide +kernel
set_option maxRecDepth 100000 in
theorem am_kt131_1 : ∀ q ∈ (am_t131.drop 40).take 40, decode cX6_isTrue q.1 = .ok q.2 := by decide +kernel
set_option maxRecDepth 100000 in
theorem am_kt131 : ∀ q ∈ am_t131, decode cX6_isTrue q.1 = .ok q.2 := by
  intro q hq
  rw [← List.take_append_drop 40 (am_t131)] at hq
  rcases List.mem_append.mp hq with hq | hq
  · exact am_kt131_0 q hq
  exact am_kt131_1 q (by rw [List.take_of_length_le (by decide)]; exact hq)
def am_t132 : List (Nat × Instr × Nat) := [(0, .iload_n 1, 1), (1, .invokestatic 239, 3), (4, .ifCond .ne 6, 3), (7, .bipush (-2), 2), (9, .ireturn, 1), (10, .aload_n 0, 1), (11, .getfield 54, 3), (14, .invokevirtual 221, 3), (17, .iconst 0, 1), (18, .istore_n 2, 1), (19, .iconst 0, 1), (20, .istore_n 3, 1), (21, .iload_n 3, 1), (22, .aload_n 0, 1), (23, .getfield 33, 3), (26, .getfield 210, 3), (29, .if_icmp .ge 30, 3), (32, .aload_n 0, 1), (33, .getfield 33, 3), (36, .getfield 245, 3), (39, .iload_n 3, 1), (40, .iaload, 1), (41, .iload_n 1, 1), (42, .if_icmp .gt 11, 3), (45, .iload_n 2, 1), (46, .aload_n 0, 1), (47, .iload_n 3, 1), (48, .invokevirtual 306, 3), (51, .iadd, 1), (52, .istore_n 2, 1), (53, .iinc 3 1, 3), (56, .goto (-35), 3), (59, .iload_n 2, 1), (60, .ireturn, 1)]
set_option maxRecDepth 100000 in
theorem am_kt132 : ∀ q ∈ am_t132, decode cX10_purse q.1 = .ok q.2 := by decide +kernel
def am_t133 : List (Nat × Instr × Nat) := [(0, .iload_n 1, 1), (1, .bipush 6, 2), (3, .invokestatic 98, 3), (6, .ifCond .ne 5, 3), (9, .iconst (-1), 1), (10, .ireturn, 1), (11, .iload_n 2, 1), (12, .invokestatic 239, 3), (15, .ifCond .ne 6, 3), (18, .bipush (-2), 2), (20, .ireturn, 1), (21, .iconst 0, 1), (22, .istore_n 3, 1), (23, .iconst 0, 1), (24, .istore 4, 2), (26, .iload 4, 2), (28, .aload_n 0, 1), (29, .getfield 33, 3), (32, .getfield 210, 3), (35, .if_icmp .ge 61, 3), (38, .aload_n 0, 1), (39, .getfield 33, 3), (42, .getfield 245, 3), (45, .iload 4, 2), (47, .iaload, 1), (48, .iload_n 2, 1), (49, .if_icmp .gt 41, 3), (52, .aload_n 0, 1), (53, .getfield 33, 3), (56, .getfield 217, 3), (59, .iload 4, 2), (61, .baload, 1), (62, .ifCond .ne 28, 3), (65, .aload_n 0, 1), (66, .getfield 26, 3), (69, .getfield 309, 3), (72, .aload_n 0, 1), (73, .getfield 33, 3), (76, .getfield 242, 3), (79, .iload 4, 2), (81, .iaload, 1), (82, .iaload, 1), (83, .iload_n 1, 1), (84, .if_icmp .ne 6, 3), (87, .iinc 3 1, 3), (90, .iinc 4 1, 3), (93, .goto (-67), 3), (96, .iload_n 3, 1), (97, .ireturn, 1)]
set_option maxRecDepth 100000 in
theorem am_kt133_0 : ∀ q ∈ (am_t133.drop 0).take 40, decode cX10_letters q.1 = .ok q.2 := by decide +kernel
set_option maxRecDepth 100000 in
theorem am_kt133_1 : ∀ q ∈ (am_t133.drop 40).take 40, decode cX10_letters q.1 = .ok q.2 := by decide +kernel
set_option maxRecDepth 100000 in
theorem am_kt133 : ∀ q ∈ am_t133, decode cX10_letters q.1 = .ok q.2 := by
  intro q hq
  rw [← List.take_append_drop 40 (am_t133)] at hq
  rcases List.mem_append.mp hq with hq | hq
  · exact am_kt133_0 q hq
  exact am_kt133_1 q (by rw [List.take_of_length_le (by decide)]; exact hq)
def am_t134 : List (Nat × Instr × Nat) := [(0, .iload_n 1, 1), (1, .tableswitch 108 0 7 #[47, 55, 63, 71, 79, 84, 92, 100], 47), (48, .aload_n 0, 1), (49, .getfield 19, 3), (52, .getfield 109, 3), (55, .ireturn, 1), (56, .aload_n 0, 1), (57, .getfield 26, 3), (60, .getfield 204, 3), (63, .ireturn, 1), (64, .aload_n 0, 1), (65, .getfield 33, 3), (68, .getfield 210, 3), (71, .ireturn, 1), (72, .aload_n 0, 1), (73, .getfield 86, 3), (76, .getfield 292, 3), (79, .ireturn, 1), (80, .aload_n 0, 1), (81, .getfield 90, 3), (84, .ireturn, 1), (85, .aload_n 0, 1), (86, .getfield 79, 3), (89, .getfield 287, 3), (92, .ireturn, 1), (93, .aload_n 0, 1), (94, .getfield 19, 3), (97, .invokevirtual 312, 3), (100, .ireturn, 1), (101, .aload_n 0, 1), (102, .getfield 33, 3), (105, .invokevirtual 315, 3), (108, .ireturn, 1), (109, .iconst (-1), 1), (110, .ireturn, 1)]
set_option maxRecDepth 100000 in
theorem am_kt134 : ∀ q ∈ am_t134, decode cX10_count q.1 = .ok q.2 := by decide +kernel
def am_t135 : List (Nat × Instr × Nat) := [(0, .iconst 0, 1), (1, .istore_n 1, 1), (2, .iconst 0, 1), (3, .istore_n 2, 1), (4, .iload_n 2, 1), (5, .aload_n 0, 1), (6, .getfield 33, 3), (9, .if_icmp .ge 18, 3), (12, .iload_n 1, 1), (13, .aload_n 0, 1), (14, .getfield 18, 3), (17, .iload_n 2, 1), (18, .iaload, 1), (19, .iadd, 1), (20, .istore_n 1, 1), (21, .iinc 2 1, 3), (24, .goto (-20), 3), (27, .iload_n 1, 1), (28, .ireturn, 1)]
set_option maxRecDepth 100000 in
theorem am_kt135 : ∀ q ∈ am_t135, decode cX0_allCards q.1 = .ok q.2 := by decide +kernel
def am_t136 : List (Nat × Instr × Nat) := [(0, .iconst 0, 1), (1, .istore_n 1, 1), (2, .iconst 0, 1), (3, .istore_n 2, 1), (4, .iload_n 2, 1), (5, .aload_n 0, 1), (6, .getfield 34, 3), (9, .if_icmp .ge 21, 3), (12, .aload_n 0, 1), (13, .getfield 30, 3), (16, .iload_n 2, 1), (17, .baload, 1), (18, .ifCond .eq 6, 3), (21, .iinc 1 1, 3), (24, .iinc 2 1, 3), (27, .goto (-23), 3), (30, .iload_n 1, 1), (31, .ireturn, 1)]
set_option maxRecDepth 100000 in
theorem am_kt136 : ∀ q ∈ am_t136, decode cX2_allOut q.1 = .ok q.2 := by decide +kernel
def am_t137 : List (Nat × Instr × Nat) := [(0, .aload_n 0, 1), (1, .invokespecial 1, 3), (4, .aload_n 0, 1), (5, .bipush 60, 2), (7, .newarray .int, 2), (9, .putfield 7, 3), (12, .aload_n 0, 1), (13, .bipush 60, 2), (15, .newarray .int, 2), (17, .putfield 13, 3), (20, .aload_n 0, 1), (21, .bipush 60, 2), (23, .newarray .int, 2), (25, .putfield 16, 3), (28, .aload_n 0, 1), (29, .bipush 60, 2), (31, .newarray .int, 2), (33, .putfield 19, 3), (36, .aload_n 0, 1), (37, .bipush 60, 2), (39, .newarray .int, 2), (41, .putfield 22, 3), (44, .aload_n 0, 1), (45, .bipush 36, 2), (47, .newarray .int, 2), (49, .putfield 25, 3), (52, .aload_n 0, 1), (53, .bipush 36, 2), (55, .newarray .int, 2), (57, .putfield 28, 3), (60, .aload_n 0, 1), (61, .bipush 36, 2), (63, .newarray .int, 2), (65, .putfield 31, 3), (68, .aload_n 0, 1), (69, .bipush 36, 2), (71, .newarray .int, 2), (73, .putfield 34, 3), (76, .aload_n 0, 1), (77, .iconst 3, 1), (78, .newarray .int, 2), (80, .putfield 37, 3), (83, .aload_n 0, 1), (84, .bipush 12, 2), (86, .newarray .int, 2), (88, .putfield 40, 3), (91, .aload_n 0, 1), (92, .bipush 12, 2), (94, .newarray .int, 2), (96, .putfield 43, 3), (99, .aload_n 0, 1), (100, .bipush 48, 2), (102, .newarray .int, 2), (104, .putfield 46, 3), (107, .aload_n 0, 1), (108, .bipush 48, 2), (110, .newarray .int, 2), (112, .putfield 49, 3), (115, .aload_n 0, 1), (116, .bipush 48, 2), (118, .newarray .boolean, 2), (120, .putfield 52, 3), (123, .aload_n 0, 1), (124, .iconst 5, 1), (125, .newarray .int, 2), (127, .putfield 56, 3), (130, .aload_n 0, 1), (131, .iconst 5, 1), (132, .newarray .int, 2), (134, .putfield 59, 3), (137, .aload_n 0, 1), (138, .iconst 5, 1), (139, .newarray .int, 2), (141, .putfield 62, 3), (144, .aload_n 0, 1), (145, .iconst 5, 1), (146, .newarray .int, 2), (148, .putfield 65, 3), (151, .aload_n 0, 1), (152, .iconst 5, 1), (153, .newarray .int, 2), (155, .putfield 68, 3), (158, .aload_n 0, 1), (159, .iconst 5, 1), (160, .newarray .int, 2), (162, .putfield 71, 3), (165, .aload_n 0, 1), (166, .iconst 5, 1), (167, .newarray .int, 2), (169, .putfield 74, 3), (172, .aload_n 0, 1), (173, .bipush 60, 2), (175, .newarray .int, 2), (177, .putfield 77, 3), (180, .aload_n 0, 1), (181, .bipush 60, 2), (183, .newarray .int, 2), (185, .putfield 80, 3), (188, .aload_n 0, 1), (189, .bipush 60, 2), (191, .newarray .int, 2), (193, .putfield 83, 3), (196, .aload_n 0, 1), (197, .sipush 720, 3), (200, .newarray .int, 2), (202, .putfield 86, 3), (205, .aload_n 0, 1), (206, .bipush 60, 2), (208, .newarray .boolean, 2), (210, .putfield 89, 3), (213, .aload_n 0, 1), (214, .bipush 6, 2), (216, .newarray .int, 2), (218, .putfield 92, 3), (221, .aload_n 0, 1), (222, .bipush 6, 2), (224, .newarray .int, 2), (226, .putfield 95, 3), (229, .aload_n 0, 1), (230, .bipush 6, 2), (232, .newarray .int, 2), (234, .putfield 98, 3), (237, .aload_n 0, 1), (238, .bipush 6, 2), (240, .newarray .int, 2), (242, .putfield 101, 3), (245, .aload_n 0, 1), (246, .bipush 6, 2), (248, .newarray .int, 2), (250, .putfield 104, 3), (253, .aload_n 0, 1), (254, .bipush 16, 2), (256, .newarray .int, 2), (258, .putfield 107, 3), (261, .aload_n 0, 1), (262, .bipush 16, 2), (264, .newarray .int, 2), (266, .putfield 110, 3), (269, .aload_n 0, 1), (270, .bipush 16, 2), (272, .newarray .int, 2), (274, .putfield 113, 3), (277, .aload_n 0, 1), (278, .bipush 16, 2), (280, .newarray .int, 2), (282, .putfield 116, 3), (285, .aload_n 0, 1), (286, .bipush 16, 2), (288, .newarray .int, 2), (290, .putfield 119, 3), (293, .aload_n 0, 1), (294, .bipush 16, 2), (296, .newarray .int, 2), (298, .putfield 122, 3), (301, .aload_n 0, 1), (302, .bipush 16, 2), (304, .newarray .boolean, 2), (306, .putfield 125, 3), (309, .aload_n 0, 1), (310, .bipush 16, 2), (312, .newarray .int, 2), (314, .putfield 128, 3), (317, .aload_n 0, 1), (318, .iconst 3, 1), (319, .newarray .int, 2), (321, .putfield 131, 3), (324, .aload_n 0, 1), (325, .iconst 3, 1), (326, .newarray .int, 2), (328, .putfield 134, 3), (331, .aload_n 0, 1), (332, .bipush 60, 2), (334, .newarray .int, 2), (336, .putfield 137, 3), (339, .aload_n 0, 1), (340, .bipush 120, 2), (342, .newarray .int, 2), (344, .putfield 140, 3), (347, .aload_n 0, 1), (348, .bipush 8, 2), (350, .newarray .int, 2), (352, .putfield 143, 3), (355, .aload_n 0, 1), (356, .bipush 8, 2), (358, .newarray .int, 2), (360, .putfield 146, 3), (363, .aload_n 0, 1), (364, .bipush 96, 2), (366, .newarray .int, 2), (368, .putfield 149, 3), (371, .return_, 1)]
set_option maxRecDepth 100000 in
theorem am_kt137_0 : ∀ q ∈ (am_t137.drop 0).take 40, decode cX11_init q.1 = .ok q.2 := by decide +kernel
set_option maxRecDepth 100000 in
theorem am_kt137_1 : ∀ q ∈ (am_t137.drop 40).take 40, decode cX11_init q.1 = .ok q.2 := by decide +kernel
set_option maxRecDepth 100000 in
theorem am_kt137_2 : ∀ q ∈ (am_t137.drop 80).take 40, decode cX11_init q.1 = .ok q.2 := by decide +kernel
set_option maxRecDepth 100000 in
theorem am_kt137_3 : ∀ q ∈ (am_t137.drop 120).take 40, decode cX11_init q.1 = .ok q.2 := by decide +kernel
set_option maxRecDepth 100000 in
theorem am_kt137_4 : ∀ q ∈ (am_t137.drop 160).take 40, decode cX11_init q.1 = .ok q.2 := by decide +kernel
set_option maxRecDepth 100000 in
theorem am_kt137 : ∀ q ∈ am_t137, decode cX11_init q.1 = .ok q.2 := by
  intro q hq
  rw [← List.take_append_drop 40 (am_t137)] at hq
  rcases List.mem_append.mp hq with hq | hq
  · exact am_kt137_0 q hq
  rw [← List.take_append_drop 40 ((am_t137.drop 40))] at hq
  rcases List.mem_append.mp hq with hq | hq
  · exact am_kt137_1 q hq
  rw [List.drop_drop] at hq
  rw [← List.take_append_drop 40 ((am_t137.drop 80))] at hq
  rcases List.mem_append.mp hq with hq | hq
  · exact am_kt137_2 q hq
  rw [List.drop_drop] at hq
  rw [← List.take_append_drop 40 ((am_t137.drop 120))] at hq
  rcases List.mem_append.mp hq with hq | hq
  · exact am_kt137_3 q hq
  rw [List.drop_drop] at hq
  exact am_kt137_4 q (by rw [List.take_of_length_le (by decide)]; exact hq)
def am_t138 : List (Nat × Instr × Nat) := [(0, .iload_n 1, 1), (1, .iload_n 3, 1), (2, .invokestatic 152, 3), (5, .ifCond .eq 29, 3), (8, .iload_n 2, 1), (9, .iload_n 3, 1), (10, .invokestatic 152, 3), (13, .ifCond .eq 21, 3), (16, .iload_n 1, 1), (17, .iload_n 2, 1), (18, .if_icmp .gt 16, 3), (21, .iload 4, 2), (23, .i2l, 1), (24, .lconst 0, 1), (25, .ldc2_w 156, 3), (28, .invokestatic 158, 3), (31, .ifCond .ne 5, 3), (34, .iconst (-1), 1), (35, .ireturn, 1), (36, .iload 5, 2), (38, .i2l, 1), (39, .lconst 0, 1), (40, .iload 4, 2), (42, .invokestatic 162, 3), (45, .i2l, 1), (46, .invokestatic 158, 3), (49, .ifCond .ne 6, 3), (52, .bipush (-2), 2), (54, .ireturn, 1), (55, .iload 4, 2), (57, .ifCond .ne 13, 3), (60, .aload_n 0, 1), (61, .getfield 166, 3), (64, .ifCond .le 6, 3), (67, .bipush (-3), 2), (69, .ireturn, 1), (70, .iconst 0, 1), (71, .istore 6, 2), (73, .iload_n 1, 1), (74, .istore 7, 2), (76, .iload 7, 2), (78, .iload_n 2, 1), (79, .if_icmp .gt 52, 3), (82, .iload 6, 2), (84, .aload_n 0, 1), (85, .bipush 6, 2), (87, .iload 7, 2), (89, .imul, 1), (90, .iload_n 3, 1), (91, .iadd, 1), (92, .iload 4, 2), (94, .invokevirtual 170, 3), (97, .iload 5, 2), (99, .if_icmp .eq 7, 3), (102, .iconst 1, 1), (103, .goto 4, 3), (106, .iconst 0, 1), (107, .iadd, 1), (108, .istore 6, 2), (110, .aload_n 0, 1), (111, .bipush 6, 2), (113, .iload 7, 2), (115, .imul, 1), (116, .iload_n 3, 1), (117, .iadd, 1), (118, .iload 4, 2), (120, .iload 5, 2), (122, .invokevirtual 174, 3), (125, .iinc 7 1, 3), (128, .goto (-52), 3), (131, .iload 6, 2), (133, .ireturn, 1)]
set_option maxRecDepth 100000 in
theorem am_kt138_0 : ∀ q ∈ (am_t138.drop 0).take 40, decode cX11_paint q.1 = .ok q.2 := by decide +kernel
set_option maxRecDepth 100000 in
theorem am_kt138_1 : ∀ q ∈ (am_t138.drop 40).take 40, decode cX11_paint q.1 = .ok q.2 := by decide +kernel
set_option maxRecDepth 100000 in
theorem am_kt138 : ∀ q ∈ am_t138, decode cX11_paint q.1 = .ok q.2 := by
  intro q hq
  rw [← List.take_append_drop 40 (am_t138)] at hq
  rcases List.mem_append.mp hq with hq | hq
  · exact am_kt138_0 q hq
  exact am_kt138_1 q (by rw [List.take_of_length_le (by decide)]; exact hq)
def am_t139 : List (Nat × Instr × Nat) := [(0, .iload_n 0, 1), (1, .ifCond .lt 23, 3), (4, .iload_n 0, 1), (5, .bipush 10, 2), (7, .if_icmp .ge 17, 3), (10, .iload_n 1, 1), (11, .ifCond .lt 13, 3), (14, .iload_n 1, 1), (15, .bipush 6, 2), (17, .if_icmp .ge 7, 3), (20, .iconst 1, 1), (21, .goto 4, 3), (24, .iconst 0, 1), (25, .ireturn, 1)]
set_option maxRecDepth 100000 in
theorem am_kt139 : ∀ q ∈ am_t139, decode cX11_isCell q.1 = .ok q.2 := by decide +kernel
end
section
def am_t140 : List (Nat × Instr × Nat) := [(0, .lload_n 0, 1), (1, .lload_n 2, 1), (2, .lcmp, 1), (3, .ifCond .lt 14, 3), (6, .lload_n 0, 1), (7, .lload 4, 2), (9, .lcmp, 1), (10, .ifCond .gt 7, 3), (13, .iconst 1, 1), (14, .goto 4, 3), (17, .iconst 0, 1), (18, .ireturn, 1)]
set_option maxRecDepth 100000 in
theorem am_kt140 : ∀ q ∈ am_t140, decode cX11_isIn q.1 = .ok q.2 := by decide +kernel
def am_t141 : List (Nat × Instr × Nat) := [(0, .iload_n 0, 1), (1, .iconst 2, 1), (2, .if_icmp .ge 7, 3), (5, .iconst 2, 1), (6, .goto 16, 3), (9, .iload_n 0, 1), (10, .iconst 4, 1), (11, .if_icmp .ge 8, 3), (14, .bipush 16, 2), (16, .goto 6, 3), (19, .sipush 4095, 3), (22, .ireturn, 1)]
set_option maxRecDepth 100000 in
theorem am_kt141 : ∀ q ∈ am_t141, decode cX11_greatest q.1 = .ok q.2 := by decide +kernel
def am_t142 : List (Nat × Instr × Nat) := [(0, .iload_n 2, 1), (1, .ifCond .ne 12, 3), (4, .aload_n 0, 1), (5, .getfield 7, 3), (8, .iload_n 1, 1), (9, .iaload, 1), (10, .goto 51, 3), (13, .iload_n 2, 1), (14, .iconst 1, 1), (15, .if_icmp .ne 12, 3), (18, .aload_n 0, 1), (19, .getfield 13, 3), (22, .iload_n 1, 1), (23, .iaload, 1), (24, .goto 37, 3), (27, .iload_n 2, 1), (28, .iconst 2, 1), (29, .if_icmp .ne 12, 3), (32, .aload_n 0, 1), (33, .getfield 16, 3), (36, .iload_n 1, 1), (37, .iaload, 1), (38, .goto 23, 3), (41, .iload_n 2, 1), (42, .iconst 3, 1), (43, .if_icmp .ne 12, 3), (46, .aload_n 0, 1), (47, .getfield 19, 3), (50, .iload_n 1, 1), (51, .iaload, 1), (52, .goto 9, 3), (55, .aload_n 0, 1), (56, .getfield 22, 3), (59, .iload_n 1, 1), (60, .iaload, 1), (61, .ireturn, 1)]
set_option maxRecDepth 100000 in
theorem am_kt142 : ∀ q ∈ am_t142, decode cX11_told q.1 = .ok q.2 := by decide +kernel
def am_t143 : List (Nat × Instr × Nat) := [(0, .iload_n 2, 1), (1, .ifCond .ne 13, 3), (4, .aload_n 0, 1), (5, .getfield 7, 3), (8, .iload_n 1, 1), (9, .iload_n 3, 1), (10, .iastore, 1), (11, .goto 55, 3), (14, .iload_n 2, 1), (15, .iconst 1, 1), (16, .if_icmp .ne 13, 3), (19, .aload_n 0, 1), (20, .getfield 13, 3), (23, .iload_n 1, 1), (24, .iload_n 3, 1), (25, .iastore, 1), (26, .goto 40, 3), (29, .iload_n 2, 1), (30, .iconst 2, 1), (31, .if_icmp .ne 13, 3), (34, .aload_n 0, 1), (35, .getfield 16, 3), (38, .iload_n 1, 1), (39, .iload_n 3, 1), (40, .iastore, 1), (41, .goto 25, 3), (44, .iload_n 2, 1), (45, .iconst 3, 1), (46, .if_icmp .ne 13, 3), (49, .aload_n 0, 1), (50, .getfield 19, 3), (53, .iload_n 1, 1), (54, .iload_n 3, 1), (55, .iastore, 1), (56, .goto 10, 3), (59, .aload_n 0, 1), (60, .getfield 22, 3), (63, .iload_n 1, 1), (64, .iload_n 3, 1), (65, .iastore, 1), (66, .return_, 1)]
set_option maxRecDepth 100000 in
theorem am_kt143_0 : ∀ q ∈ (am_t143.drop 0).take 40, decode cX11_tells q.1 = .ok q.2 := by decide +kernel
set_option maxRecDepth 100000 in
theorem am_kt143_1 : ∀ q ∈ (am_t143.drop 40).take 40, decode cX11_tells q.1 = .ok q.2 := by decide +kernel
set_option maxRecDepth 100000 in
theorem am_kt143 : ∀ q ∈ am_t143, decode cX11_tells q.1 = .ok q.2 := by
  intro q hq
  rw [← List.take_append_drop 40 (am_t143)] at hq
  rcases List.mem_append.mp hq with hq | hq
  · exact am_kt143_0 q hq
  exact am_kt143_1 q (by rw [List.take_of_length_le (by decide)]; exact hq)
def am_t144 : List (Nat × Instr × Nat) := [(0, .iload_n 1, 1), (1, .iload_n 2, 1), (2, .invokestatic 152, 3), (5, .ifCond .eq 29, 3), (8, .iload_n 3, 1), (9, .i2l, 1), (10, .lconst 0, 1), (11, .ldc2_w 156, 3), (14, .invokestatic 158, 3), (17, .ifCond .eq 17, 3), (20, .aload_n 0, 1), (21, .bipush 6, 2), (23, .iload_n 1, 1), (24, .imul, 1), (25, .iload_n 2, 1), (26, .iadd, 1), (27, .iload_n 3, 1), (28, .invokevirtual 170, 3), (31, .goto 4, 3), (34, .iconst (-1), 1), (35, .ireturn, 1)]
set_option maxRecDepth 100000 in
theorem am_kt144 : ∀ q ∈ am_t144, decode cX11_cell q.1 = .ok q.2 := by decide +kernel
def am_t145 : List (Nat × Instr × Nat) := [(0, .iload_n 1, 1), (1, .i2l, 1), (2, .lconst 0, 1), (3, .ldc2_w 178, 3), (6, .invokestatic 158, 3), (9, .ifCond .eq 15, 3), (12, .iload_n 2, 1), (13, .i2l, 1), (14, .lconst 0, 1), (15, .ldc2_w 180, 3), (18, .invokestatic 158, 3), (21, .ifCond .ne 5, 3), (24, .iconst (-1), 1), (25, .ireturn, 1), (26, .iload_n 3, 1), (27, .invokestatic 182, 3), (30, .ifCond .eq 11, 3), (33, .iload 4, 2), (35, .invokestatic 182, 3), (38, .ifCond .ne 6, 3), (41, .bipush (-2), 2), (43, .ireturn, 1), (44, .bipush 12, 2), (46, .iload_n 1, 1), (47, .imul, 1), (48, .iload_n 2, 1), (49, .iadd, 1), (50, .istore 5, 2), (52, .aload_n 0, 1), (53, .getfield 25, 3), (56, .iload 5, 2), (58, .iload_n 3, 1), (59, .bipush 10, 2), (61, .idiv, 1), (62, .iconst 3, 1), (63, .isub, 1), (64, .iastore, 1), (65, .aload_n 0, 1), (66, .getfield 28, 3), (69, .iload 5, 2), (71, .iload_n 3, 1), (72, .bipush 10, 2), (74, .irem, 1), (75, .iconst 3, 1), (76, .isub, 1), (77, .iastore, 1), (78, .aload_n 0, 1), (79, .getfield 31, 3), (82, .iload 5, 2), (84, .iload 4, 2), (86, .bipush 10, 2), (88, .idiv, 1), (89, .iconst 3, 1), (90, .isub, 1), (91, .iastore, 1), (92, .aload_n 0, 1), (93, .getfield 34, 3), (96, .iload 5, 2), (98, .iload 4, 2), (100, .bipush 10, 2), (102, .irem, 1), (103, .iconst 3, 1), (104, .isub, 1), (105, .iastore, 1), (106, .iconst 0, 1), (107, .ireturn, 1)]
set_option maxRecDepth 100000 in
theorem am_kt145_0 : ∀ q ∈ (am_t145.drop 0).take 40, decode cX11_current q.1 = .ok q.2 := by decide +kernel
set_option maxRecDepth 100000 in
theorem am_kt145_1 : ∀ q ∈ (am_t145.drop 40).take 40, decode cX11_current q.1 = .ok q.2 := by decide +kernel
set_option maxRecDepth 100000 in
theorem am_kt145 : ∀ q ∈ am_t145, decode cX11_current q.1 = .ok q.2 := by
  intro q hq
  rw [← List.take_append_drop 40 (am_t145)] at hq
  rcases List.mem_append.mp hq with hq | hq
  · exact am_kt145_0 q hq
  exact am_kt145_1 q (by rw [List.take_of_length_le (by decide)]; exact hq)
def am_t146 : List (Nat × Instr × Nat) := [(0, .iload_n 0, 1), (1, .ifCond .lt 36, 3), (4, .iload_n 0, 1), (5, .bipush 10, 2), (7, .idiv, 1), (8, .bipush 6, 2), (10, .if_icmp .gt 27, 3), (13, .iload_n 0, 1), (14, .bipush 10, 2), (16, .irem, 1), (17, .bipush 6, 2), (19, .if_icmp .gt 18, 3), (22, .iload_n 0, 1), (23, .bipush 10, 2), (25, .idiv, 1), (26, .iload_n 0, 1), (27, .bipush 10, 2), (29, .irem, 1), (30, .if_icmp .gt 7, 3), (33, .iconst 1, 1), (34, .goto 4, 3), (37, .iconst 0, 1), (38, .ireturn, 1)]
set_option maxRecDepth 100000 in
theorem am_kt146 : ∀ q ∈ am_t146, decode cX11_isSpan q.1 = .ok q.2 := by decide +kernel
def am_t147 : List (Nat × Instr × Nat) := [(0, .iload_n 1, 1), (1, .i2l, 1), (2, .lconst 0, 1), (3, .ldc2_w 180, 3), (6, .invokestatic 158, 3), (9, .ifCond .ne 5, 3), (12, .iconst (-1), 1), (13, .ireturn, 1), (14, .iload_n 2, 1), (15, .i2l, 1), (16, .ldc2_w 186, 3), (19, .ldc2_w 188, 3), (22, .invokestatic 158, 3), (25, .ifCond .eq 17, 3), (28, .iload_n 3, 1), (29, .i2l, 1), (30, .ldc2_w 186, 3), (33, .ldc2_w 188, 3), (36, .invokestatic 158, 3), (39, .ifCond .ne 6, 3), (42, .bipush (-2), 2), (44, .ireturn, 1), (45, .aload_n 0, 1), (46, .getfield 40, 3), (49, .iload_n 1, 1), (50, .iload_n 2, 1), (51, .iastore, 1), (52, .aload_n 0, 1), (53, .getfield 43, 3), (56, .iload_n 1, 1), (57, .iload_n 3, 1), (58, .iastore, 1), (59, .iconst 0, 1), (60, .ireturn, 1)]
set_option maxRecDepth 100000 in
theorem am_kt147 : ∀ q ∈ am_t147, decode cX11_wind q.1 = .ok q.2 := by decide +kernel
def am_t148 : List (Nat × Instr × Nat) := [(0, .iload_n 1, 1), (1, .i2l, 1), (2, .lconst 0, 1), (3, .ldc2_w 190, 3), (6, .invokestatic 158, 3), (9, .ifCond .ne 5, 3), (12, .iconst (-1), 1), (13, .ireturn, 1), (14, .iload_n 2, 1), (15, .i2l, 1), (16, .ldc2_w 186, 3), (19, .ldc2_w 188, 3), (22, .invokestatic 158, 3), (25, .ifCond .eq 17, 3), (28, .iload_n 3, 1), (29, .i2l, 1), (30, .ldc2_w 186, 3), (33, .ldc2_w 188, 3), (36, .invokestatic 158, 3), (39, .ifCond .ne 6, 3), (42, .bipush (-2), 2), (44, .ireturn, 1), (45, .aload_n 0, 1), (46, .getfield 52, 3), (49, .iload_n 1, 1), (50, .baload, 1), (51, .ifCond .eq 7, 3), (54, .iconst 1, 1), (55, .goto 4, 3), (58, .iconst 0, 1), (59, .istore 4, 2), (61, .aload_n 0, 1), (62, .getfield 52, 3), (65, .iload_n 1, 1), (66, .iconst 1, 1), (67, .bastore, 1), (68, .aload_n 0, 1), (69, .getfield 46, 3), (72, .iload_n 1, 1), (73, .iload_n 2, 1), (74, .iastore, 1), (75, .aload_n 0, 1), (76, .getfield 49, 3), (79, .iload_n 1, 1), (80, .iload_n 3, 1), (81, .iastore, 1), (82, .iload 4, 2), (84, .ireturn, 1)]
set_option maxRecDepth 100000 in
theorem am_kt148_0 : ∀ q ∈ (am_t148.drop 0).take 40, decode cX11_storm q.1 = .ok q.2 := by decide +kernel
set_option maxRecDepth 100000 in
theorem am_kt148_1 : ∀ q ∈ (am_t148.drop 40).take 40, decode cX11_storm q.1 = .ok q.2 := by decide +kernel
set_option maxRecDepth 100000 in
theorem am_kt148 : ∀ q ∈ am_t148, decode cX11_storm q.1 = .ok q.2 := by
  intro q hq
  rw [← List.take_append_drop 40 (am_t148)] at hq
  rcases List.mem_append.mp hq with hq | hq
  · exact am_kt148_0 q hq
  exact am_kt148_1 q (by rw [List.take_of_length_le (by decide)]; exact hq)
def am_t149 : List (Nat × Instr × Nat) := [(0, .iload_n 1, 1), (1, .i2l, 1), (2, .lconst 0, 1), (3, .ldc2_w 190, 3), (6, .invokestatic 158, 3), (9, .ifCond .ne 5, 3), (12, .iconst (-1), 1), (13, .ireturn, 1), (14, .aload_n 0, 1), (15, .getfield 52, 3), (18, .iload_n 1, 1), (19, .baload, 1), (20, .ifCond .eq 7, 3), (23, .iconst 1, 1), (24, .goto 4, 3), (27, .iconst 0, 1), (28, .istore_n 2, 1), (29, .aload_n 0, 1), (30, .getfield 52, 3), (33, .iload_n 1, 1), (34, .iconst 0, 1), (35, .bastore, 1), (36, .iload_n 2, 1), (37, .ireturn, 1)]
set_option maxRecDepth 100000 in
theorem am_kt149 : ∀ q ∈ am_t149, decode cX11_calm q.1 = .ok q.2 := by decide +kernel
def am_t150 : List (Nat × Instr × Nat) := [(0, .iload 5, 2), (2, .i2l, 1), (3, .lconst 0, 1), (4, .ldc2_w 192, 3), (7, .invokestatic 158, 3), (10, .ifCond .eq 16, 3), (13, .iload 4, 2), (15, .i2l, 1), (16, .lconst 0, 1), (17, .ldc2_w 190, 3), (20, .invokestatic 158, 3), (23, .ifCond .ne 5, 3), (26, .iconst (-1), 1), (27, .ireturn, 1), (28, .iload_n 1, 1), (29, .i2l, 1), (30, .lconst 0, 1), (31, .ldc2_w 188, 3), (34, .invokestatic 158, 3), (37, .ifCond .eq 44, 3), (40, .iload_n 3, 1), (41, .i2l, 1), (42, .lconst 1, 1), (43, .ldc2_w 194, 3), (46, .invokestatic 158, 3), (49, .ifCond .eq 32, 3), (52, .iload_n 2, 1), (53, .i2l, 1), (54, .lconst 0, 1), (55, .sipush 10000, 3), (58, .iload_n 3, 1), (59, .isub, 1), (60, .i2l, 1), (61, .invokestatic 158, 3), (64, .ifCond .eq 17, 3), (67, .iload 6, 2), (69, .ifCond .lt 12, 3), (72, .iload 6, 2), (74, .bipush 100, 2), (76, .idiv, 1), (77, .iconst 3, 1), (78, .if_icmp .le 6, 3), (81, .bipush (-2), 2), (83, .ireturn, 1), (84, .iload_n 1, 1), (85, .iconst 2, 1), (86, .if_icmp .ne 22, 3), (89, .iload 6, 2), (91, .bipush 100, 2), (93, .irem, 1), (94, .i2l, 1), (95, .lconst 1, 1), (96, .ldc2_w 196, 3), (99, .invokestatic 158, 3), (102, .ifCond .ne 17, 3), (105, .goto 11, 3), (108, .iload 6, 2), (110, .bipush 100, 2), (112, .irem, 1), (113, .ifCond .eq 6, 3), (116, .bipush (-2), 2), (118, .ireturn, 1), (119, .aload_n 0, 1), (120, .getfield 7, 3), (123, .iload 5, 2), (125, .iaload, 1), (126, .ifCond .eq 6, 3), (129, .bipush (-3), 2), (131, .ireturn, 1), (132, .iconst 0, 1), (133, .istore 7, 2), (135, .iload 7, 2), (137, .aload_n 0, 1), (138, .getfield 166, 3), (141, .if_icmp .ge 59, 3), (144, .aload_n 0, 1), (145, .getfield 71, 3), (148, .iload 7, 2), (150, .iaload, 1), (151, .iload 6, 2), (153, .bipush 100, 2), (155, .idiv, 1), (156, .if_icmp .ne 38, 3), (159, .iload_n 2, 1), (160, .aload_n 0, 1), (161, .getfield 59, 3), (164, .iload 7, 2), (166, .iaload, 1), (167, .aload_n 0, 1), (168, .getfield 62, 3), (171, .iload 7, 2), (173, .iaload, 1), (174, .iadd, 1), (175, .if_icmp .ge 19, 3), (178, .aload_n 0, 1), (179, .getfield 59, 3), (182, .iload 7, 2), (184, .iaload, 1), (185, .iload_n 2, 1), (186, .iload_n 3, 1), (187, .iadd, 1), (188, .if_icmp .ge 6, 3), (191, .bipush (-3), 2), (193, .ireturn, 1), (194, .iinc 7 1, 3), (197, .goto (-62), 3), (200, .aload_n 0, 1), (201, .getfield 166, 3), (204, .iconst 5, 1), (205, .if_icmp .ne 6, 3), (208, .bipush (-4), 2), (210, .ireturn, 1), (211, .aload_n 0, 1), (212, .getfield 56, 3), (215, .aload_n 0, 1), (216, .getfield 166, 3), (219, .iload_n 1, 1), (220, .iastore, 1), (221, .aload_n 0, 1), (222, .getfield 59, 3), (225, .aload_n 0, 1), (226, .getfield 166, 3), (229, .iload_n 2, 1), (230, .iastore, 1), (231, .aload_n 0, 1), (232, .getfield 62, 3), (235, .aload_n 0, 1), (236, .getfield 166, 3), (239, .iload_n 3, 1), (240, .iastore, 1), (241, .aload_n 0, 1), (242, .getfield 65, 3), (245, .aload_n 0, 1), (246, .getfield 166, 3), (249, .iload 4, 2), (251, .iastore, 1), (252, .aload_n 0, 1), (253, .getfield 68, 3), (256, .aload_n 0, 1), (257, .getfield 166, 3), (260, .iload 5, 2), (262, .iastore, 1), (263, .aload_n 0, 1), (264, .getfield 71, 3), (267, .aload_n 0, 1), (268, .getfield 166, 3), (271, .iload 6, 2), (273, .bipush 100, 2), (275, .idiv, 1), (276, .iastore, 1), (277, .aload_n 0, 1), (278, .getfield 74, 3), (281, .aload_n 0, 1), (282, .getfield 166, 3), (285, .iload 6, 2), (287, .bipush 100, 2), (289, .irem, 1), (290, .iastore, 1), (291, .aload_n 0, 1), (292, .dup, 1), (293, .getfield 166, 3), (296, .iconst 1, 1), (297, .iadd, 1), (298, .putfield 166, 3), (301, .aload_n 0, 1), (302, .getfield 166, 3), (305, .iconst 1, 1), (306, .isub, 1), (307, .ireturn, 1)]
set_option maxRecDepth 100000 in
theorem am_kt150_0 : ∀ q ∈ (am_t150.drop 0).take 40, decode cX11_cast q.1 = .ok q.2 := by decide +kernel
set_option maxRecDepth 100000 in
theorem am_kt150_1 : ∀ q ∈ (am_t150.drop 40).take 40, decode cX11_cast q.1 = .ok q.2 := by decide +kernel
set_option maxRecDepth 100000 in
theorem am_kt150_2 : ∀ q ∈ (am_t150.drop 80).take 40, decode cX11_cast q.1 = .ok q.2 := by decide +kernel
set_option maxRecDepth 100000 in
theorem am_kt150_3 : ∀ q ∈ (am_t150.drop 120).take 40, decode cX11_cast q.1 = .ok q.2 := by decide +kernel
set_option maxRecDepth 100000 in
theorem am_kt150_4 : ∀ q ∈ (am_t150.drop 160).take 40, decode cX11_cast q.1 = .ok q.2 := by decide +kernel
set_option maxRecDepth 100000 in
theorem am_kt150 : ∀ q ∈ am_t150, decode cX11_cast q.1 = .ok q.2 := by
  intro q hq
  rw [← List.take_append_drop 40 (am_t150)] at hq
  rcases List.mem_append.mp hq with hq | hq
  · exact am_kt150_0 q hq
  rw [← List.take_append_drop 40 ((am_t150.drop 40))] at hq
  rcases List.mem_append.mp hq with hq | hq
  · exact am_kt150_1 q hq
  rw [List.drop_drop] at hq
  rw [← List.take_append_drop 40 ((am_t150.drop 80))] at hq
  rcases List.mem_append.mp hq with hq | hq
  · exact am_kt150_2 q hq
  rw [List.drop_drop] at hq
  rw [← List.take_append_drop 40 ((am_t150.drop 120))] at hq
  rcases List.mem_append.mp hq with hq | hq
  · exact am_kt150_3 q hq
  rw [List.drop_drop] at hq
  exact am_kt150_4 q (by rw [List.take_of_length_le (by decide)]; exact hq)
def am_t151 : List (Nat × Instr × Nat) := [(0, .aload_n 0, 1), (1, .iload_n 1, 1), (2, .invokevirtual 198, 3), (5, .ifCond .ne 5, 3), (8, .iconst (-1), 1), (9, .ireturn, 1), (10, .iload_n 2, 1), (11, .tableswitch 79 0 5 #[37, 44, 51, 58, 65, 72], 37), (48, .aload_n 0, 1), (49, .getfield 56, 3), (52, .iload_n 1, 1), (53, .iaload, 1), (54, .ireturn, 1), (55, .aload_n 0, 1), (56, .getfield 59, 3), (59, .iload_n 1, 1), (60, .iaload, 1), (61, .ireturn, 1), (62, .aload_n 0, 1), (63, .getfield 62, 3), (66, .iload_n 1, 1), (67, .iaload, 1), (68, .ireturn, 1), (69, .aload_n 0, 1), (70, .getfield 65, 3), (73, .iload_n 1, 1), (74, .iaload, 1), (75, .ireturn, 1), (76, .aload_n 0, 1), (77, .getfield 68, 3), (80, .iload_n 1, 1), (81, .iaload, 1), (82, .ireturn, 1), (83, .aload_n 0, 1), (84, .getfield 71, 3), (87, .iload_n 1, 1), (88, .iaload, 1), (89, .ireturn, 1), (90, .iconst (-1), 1), (91, .ireturn, 1)]
set_option maxRecDepth 100000 in
theorem am_kt151 : ∀ q ∈ am_t151, decode cX11_about q.1 = .ok q.2 := by decide +kernel
def am_t152 : List (Nat × Instr × Nat) := [(0, .iload_n 1, 1), (1, .ifCond .lt 15, 3), (4, .iload_n 1, 1), (5, .aload_n 0, 1), (6, .getfield 166, 3), (9, .if_icmp .ge 7, 3), (12, .iconst 1, 1), (13, .goto 4, 3), (16, .iconst 0, 1), (17, .ireturn, 1)]
set_option maxRecDepth 100000 in
theorem am_kt152 : ∀ q ∈ am_t152, decode cX11_isCast q.1 = .ok q.2 := by decide +kernel
def am_t153 : List (Nat × Instr × Nat) := [(0, .aload_n 0, 1), (1, .iload_n 1, 1), (2, .invokevirtual 198, 3), (5, .ifCond .eq 15, 3), (8, .iload_n 3, 1), (9, .i2l, 1), (10, .lconst 0, 1), (11, .ldc2_w 225, 3), (14, .invokestatic 158, 3), (17, .ifCond .ne 5, 3), (20, .iconst (-1), 1), (21, .ireturn, 1), (22, .iload_n 2, 1), (23, .i2l, 1), (24, .lconst 0, 1), (25, .ldc2_w 196, 3), (28, .invokestatic 158, 3), (31, .ifCond .ne 6, 3), (34, .bipush (-2), 2), (36, .ireturn, 1), (37, .aload_n 0, 1), (38, .iload_n 1, 1), (39, .iload_n 2, 1), (40, .invokevirtual 227, 3), (43, .iload_n 3, 1), (44, .tableswitch 80 0 4 #[36, 47, 58, 70, 75], 36), (80, .aload_n 0, 1), (81, .aload_n 0, 1), (82, .getfield 77, 3), (85, .bipush 60, 2), (87, .invokevirtual 231, 3), (90, .ireturn, 1), (91, .aload_n 0, 1), (92, .aload_n 0, 1), (93, .getfield 83, 3), (96, .bipush 60, 2), (98, .invokevirtual 231, 3), (101, .ireturn, 1), (102, .aload_n 0, 1), (103, .aload_n 0, 1), (104, .getfield 86, 3), (107, .sipush 720, 3), (110, .invokevirtual 231, 3), (113, .ireturn, 1), (114, .aload_n 0, 1), (115, .getfield 212, 3), (118, .ireturn, 1), (119, .aload_n 0, 1), (120, .getfield 201, 3), (123, .ireturn, 1), (124, .aload_n 0, 1), (125, .getfield 215, 3), (128, .ireturn, 1)]
set_option maxRecDepth 100000 in
theorem am_kt153_0 : ∀ q ∈ (am_t153.drop 0).take 40, decode cX11_parts q.1 = .ok q.2 := by decide +kernel
set_option maxRecDepth 100000 in
theorem am_kt153_1 : ∀ q ∈ (am_t153.drop 40).take 40, decode cX11_parts q.1 = .ok q.2 := by decide +kernel
set_option maxRecDepth 100000 in
theorem am_kt153 : ∀ q ∈ am_t153, decode cX11_parts q.1 = .ok q.2 := by
  intro q hq
  rw [← List.take_append_drop 40 (am_t153)] at hq
  rcases List.mem_append.mp hq with hq | hq
  · exact am_kt153_0 q hq
  exact am_kt153_1 q (by rw [List.take_of_length_le (by decide)]; exact hq)
def am_t154 : List (Nat × Instr × Nat) := [(0, .aload_n 0, 1), (1, .aload_n 0, 1), (2, .getfield 56, 3), (5, .iload_n 1, 1), (6, .iaload, 1), (7, .aload_n 0, 1), (8, .getfield 65, 3), (11, .iload_n 1, 1), (12, .iaload, 1), (13, .aload_n 0, 1), (14, .getfield 68, 3), (17, .iload_n 1, 1), (18, .iaload, 1), (19, .aload_n 0, 1), (20, .getfield 74, 3), (23, .iload_n 1, 1), (24, .iaload, 1), (25, .iload_n 2, 1), (26, .invokevirtual 221, 3), (29, .return_, 1)]
set_option maxRecDepth 100000 in
theorem am_kt154 : ∀ q ∈ am_t154, decode cX11_driftOf q.1 = .ok q.2 := by decide +kernel
def am_t155 : List (Nat × Instr × Nat) := [(0, .iconst 0, 1), (1, .istore 6, 2), (3, .iload 6, 2), (5, .bipush 60, 2), (7, .if_icmp .ge 36, 3), (10, .aload_n 0, 1), (11, .getfield 77, 3), (14, .iload 6, 2), (16, .iload 6, 2), (18, .iload_n 3, 1), (19, .if_icmp .ne 8, 3), (22, .ldc 211, 2), (24, .goto 4, 3), (27, .iconst 0, 1), (28, .iastore, 1), (29, .aload_n 0, 1), (30, .getfield 83, 3), (33, .iload 6, 2), (35, .iconst 0, 1), (36, .iastore, 1), (37, .iinc 6 1, 3), (40, .goto (-37), 3), (43, .iconst 0, 1), (44, .istore 6, 2), (46, .iload 6, 2), (48, .sipush 720, 3), (51, .if_icmp .ge 17, 3), (54, .aload_n 0, 1), (55, .getfield 86, 3), (58, .iload 6, 2), (60, .iconst 0, 1), (61, .iastore, 1), (62, .iinc 6 1, 3), (65, .goto (-19), 3), (68, .aload_n 0, 1), (69, .iconst 0, 1), (70, .putfield 212, 3), (73, .aload_n 0, 1), (74, .iconst 0, 1), (75, .putfield 201, 3), (78, .aload_n 0, 1), (79, .iconst 0, 1), (80, .putfield 215, 3), (83, .iconst 0, 1), (84, .istore 6, 2), (86, .iload 6, 2), (88, .iload 5, 2), (90, .if_icmp .ge 213, 3), (93, .iconst 0, 1), (94, .istore 7, 2), (96, .iload 7, 2), (98, .bipush 60, 2), (100, .if_icmp .ge 56, 3), (103, .aload_n 0, 1), (104, .getfield 80, 3), (107, .iload 7, 2), (109, .iconst 0, 1), (110, .iastore, 1), (111, .iload_n 1, 1), (112, .iconst 2, 1), (113, .if_icmp .ne 37, 3), (116, .iload 6, 2), (118, .iload 4, 2), (120, .if_icmp .ge 6, 3), (123, .goto 27, 3), (126, .aload_n 0, 1), (127, .dup, 1), (128, .getfield 215, 3), (131, .aload_n 0, 1), (132, .getfield 77, 3), (135, .iload 7, 2), (137, .iaload, 1), (138, .iadd, 1), (139, .putfield 215, 3), (142, .aload_n 0, 1), (143, .getfield 77, 3), (146, .iload 7, 2), (148, .iconst 0, 1), (149, .iastore, 1), (150, .iinc 7 1, 3), (153, .goto (-57), 3), (156, .iconst 0, 1), (157, .istore 7, 2), (159, .iload 7, 2), (161, .bipush 60, 2), (163, .if_icmp .ge 20, 3), (166, .aload_n 0, 1), (167, .iload 7, 2), (169, .iload_n 1, 1), (170, .iload_n 2, 1), (171, .iload 6, 2), (173, .iadd, 1), (174, .invokevirtual 218, 3), (177, .iinc 7 1, 3), (180, .goto (-21), 3), (183, .iconst 0, 1), (184, .istore 7, 2), (186, .iload 7, 2), (188, .bipush 60, 2), (190, .if_icmp .ge 107, 3), (193, .aload_n 0, 1), (194, .getfield 77, 3), (197, .iload 7, 2), (199, .aload_n 0, 1), (200, .getfield 80, 3), (203, .iload 7, 2), (205, .iaload, 1), (206, .iastore, 1), (207, .aload_n 0, 1), (208, .getfield 83, 3), (211, .iload 7, 2), (213, .iaload, 1), (214, .aload_n 0, 1), (215, .getfield 19, 3), (218, .iload 7, 2), (220, .iaload, 1), (221, .imul, 1), (222, .bipush 16, 2), (224, .idiv, 1), (225, .istore 8, 2), (227, .aload_n 0, 1), (228, .getfield 86, 3), (231, .bipush 60, 2), (233, .iload 6, 2), (235, .imul, 1), (236, .iload 7, 2), (238, .iadd, 1), (239, .iload 8, 2), (241, .iastore, 1), (242, .aload_n 0, 1), (243, .getfield 83, 3), (246, .iload 7, 2), (248, .iaload, 1), (249, .iload 8, 2), (251, .isub, 1), (252, .aload_n 0, 1), (253, .getfield 16, 3), (256, .iload 7, 2), (258, .iaload, 1), (259, .imul, 1), (260, .bipush 16, 2), (262, .idiv, 1), (263, .istore 9, 2), (265, .aload_n 0, 1), (266, .dup, 1), (267, .getfield 212, 3), (270, .iload 9, 2), (272, .iadd, 1), (273, .putfield 212, 3), (276, .aload_n 0, 1), (277, .getfield 83, 3), (280, .iload 7, 2), (282, .dup2, 1), (283, .iaload, 1), (284, .iload 8, 2), (286, .iload 9, 2), (288, .iadd, 1), (289, .isub, 1), (290, .iastore, 1), (291, .iinc 7 1, 3), (294, .goto (-108), 3), (297, .iinc 6 1, 3), (300, .goto (-214), 3), (303, .return_, 1)]
set_option maxRecDepth 100000 in
theorem am_kt155_0 : ∀ q ∈ (am_t155.drop 0).take 40, decode cX11_drift q.1 = .ok q.2 := by decide +kernel
set_option maxRecDepth 100000 in
theorem am_kt155_1 : ∀ q ∈ (am_t155.drop 40).take 40, decode cX11_drift q.1 = .ok q.2 := by decide +kernel
set_option maxRecDepth 100000 in
theorem am_kt155_2 : ∀ q ∈ (am_t155.drop 80).take 40, decode cX11_drift q.1 = .ok q.2 := by decide +kernel
set_option maxRecDepth 100000 in
theorem am_kt155_3 : ∀ q ∈ (am_t155.drop 120).take 40, decode cX11_drift q.1 = .ok q.2 := by decide +kernel
set_option maxRecDepth 100000 in
theorem am_kt155_4 : ∀ q ∈ (am_t155.drop 160).take 40, decode cX11_drift q.1 = .ok q.2 := by decide +kernel
set_option maxRecDepth 100000 in
theorem am_kt155 : ∀ q ∈ am_t155, decode cX11_drift q.1 = .ok q.2 := by
  intro q hq
  rw [← List.take_append_drop 40 (am_t155)] at hq
  rcases List.mem_append.mp hq with hq | hq
  · exact am_kt155_0 q hq
  rw [← List.take_append_drop 40 ((am_t155.drop 40))] at hq
  rcases List.mem_append.mp hq with hq | hq
  · exact am_kt155_1 q hq
  rw [List.drop_drop] at hq
  rw [← List.take_append_drop 40 ((am_t155.drop 80))] at hq
  rcases List.mem_append.mp hq with hq | hq
  · exact am_kt155_2 q hq
  rw [List.drop_drop] at hq
  rw [← List.take_append_drop 40 ((am_t155.drop 120))] at hq
  rcases List.mem_append.mp hq with hq | hq
  · exact am_kt155_3 q hq
  rw [List.drop_drop] at hq
  exact am_kt155_4 q (by rw [List.take_of_length_le (by decide)]; exact hq)
def am_t156 : List (Nat × Instr × Nat) := [(0, .aload_n 0, 1), (1, .getfield 77, 3), (4, .iload_n 1, 1), (5, .iaload, 1), (6, .istore 4, 2), (8, .iload_n 3, 1), (9, .bipush 12, 2), (11, .irem, 1), (12, .istore 5, 2), (14, .iload 4, 2), (16, .ifCond .ne 4, 3), (19, .return_, 1), (20, .aload_n 0, 1), (21, .getfield 22, 3), (24, .iload_n 1, 1), (25, .iaload, 1), (26, .iload 5, 2), (28, .ishr, 1), (29, .iconst 1, 1), (30, .iand, 1), (31, .iconst 1, 1), (32, .if_icmp .ne 15, 3), (35, .aload_n 0, 1), (36, .getfield 80, 3), (39, .iload_n 1, 1), (40, .dup2, 1), (41, .iaload, 1), (42, .iload 4, 2), (44, .iadd, 1), (45, .iastore, 1), (46, .return_, 1), (47, .bipush 12, 2), (49, .aload_n 0, 1), (50, .getfield 13, 3), (53, .iload_n 1, 1), (54, .iaload, 1), (55, .imul, 1), (56, .iload 5, 2), (58, .iadd, 1), (59, .istore 6, 2), (61, .aload_n 0, 1), (62, .getfield 52, 3), (65, .iload_n 3, 1), (66, .bipush 48, 2), (68, .irem, 1), (69, .baload, 1), (70, .istore 7, 2), (72, .aload_n 0, 1), (73, .getfield 37, 3), (76, .aload_n 0, 1), (77, .getfield 13, 3), (80, .iload_n 1, 1), (81, .iaload, 1), (82, .iaload, 1), (83, .iload_n 2, 1), (84, .iload 7, 2), (86, .ifCond .eq 15, 3), (89, .aload_n 0, 1), (90, .getfield 46, 3), (93, .iload_n 3, 1), (94, .bipush 48, 2), (96, .irem, 1), (97, .iaload, 1), (98, .goto 10, 3), (101, .aload_n 0, 1), (102, .getfield 40, 3), (105, .iload 5, 2), (107, .iaload, 1), (108, .invokestatic 204, 3), (111, .iadd, 1), (112, .istore 8, 2), (114, .iload_n 2, 1), (115, .iload 7, 2), (117, .ifCond .eq 15, 3), (120, .aload_n 0, 1), (121, .getfield 49, 3), (124, .iload_n 3, 1), (125, .bipush 48, 2), (127, .irem, 1), (128, .iaload, 1), (129, .goto 10, 3), (132, .aload_n 0, 1), (133, .getfield 43, 3), (136, .iload 5, 2), (138, .iaload, 1), (139, .invokestatic 204, 3), (142, .istore 9, 2), (144, .iload 4, 2), (146, .iconst 4, 1), (147, .idiv, 1), (148, .istore 10, 2), (150, .aload_n 0, 1), (151, .iload_n 1, 1), (152, .iload 10, 2), (154, .aload_n 0, 1), (155, .getfield 25, 3), (158, .iload 6, 2), (160, .iaload, 1), (161, .iload 8, 2), (163, .iadd, 1), (164, .aload_n 0, 1), (165, .getfield 31, 3), (168, .iload 6, 2), (170, .iaload, 1), (171, .iload 9, 2), (173, .iadd, 1), (174, .invokevirtual 207, 3), (177, .aload_n 0, 1), (178, .iload_n 1, 1), (179, .iload 10, 2), (181, .aload_n 0, 1), (182, .getfield 28, 3), (185, .iload 6, 2), (187, .iaload, 1), (188, .iload 8, 2), (190, .iadd, 1), (191, .aload_n 0, 1), (192, .getfield 34, 3), (195, .iload 6, 2), (197, .iaload, 1), (198, .iload 9, 2), (200, .iadd, 1), (201, .invokevirtual 207, 3), (204, .aload_n 0, 1), (205, .iload_n 1, 1), (206, .iload 4, 2), (208, .iconst 2, 1), (209, .iload 10, 2), (211, .imul, 1), (212, .isub, 1), (213, .aload_n 0, 1), (214, .getfield 25, 3), (217, .iload 6, 2), (219, .iaload, 1), (220, .aload_n 0, 1), (221, .getfield 28, 3), (224, .iload 6, 2), (226, .iaload, 1), (227, .iadd, 1), (228, .iconst 2, 1), (229, .idiv, 1), (230, .iload 8, 2), (232, .iadd, 1), (233, .aload_n 0, 1), (234, .getfield 31, 3), (237, .iload 6, 2), (239, .iaload, 1), (240, .aload_n 0, 1), (241, .getfield 34, 3), (244, .iload 6, 2), (246, .iaload, 1), (247, .iadd, 1), (248, .iconst 2, 1), (249, .idiv, 1), (250, .iload 9, 2), (252, .iadd, 1), (253, .invokevirtual 207, 3), (256, .return_, 1)]
set_option maxRecDepth 100000 in
theorem am_kt156_0 : ∀ q ∈ (am_t156.drop 0).take 40, decode cX11_drifts q.1 = .ok q.2 := by decide +kernel
set_option maxRecDepth 100000 in
theorem am_kt156_1 : ∀ q ∈ (am_t156.drop 40).take 40, decode cX11_drifts q.1 = .ok q.2 := by decide +kernel
set_option maxRecDepth 100000 in
theorem am_kt156_2 : ∀ q ∈ (am_t156.drop 80).take 40, decode cX11_drifts q.1 = .ok q.2 := by decide +kernel
set_option maxRecDepth 100000 in
theorem am_kt156_3 : ∀ q ∈ (am_t156.drop 120).take 40, decode cX11_drifts q.1 = .ok q.2 := by decide +kernel
set_option maxRecDepth 100000 in
theorem am_kt156 : ∀ q ∈ am_t156, decode cX11_drifts q.1 = .ok q.2 := by
  intro q hq
  rw [← List.take_append_drop 40 (am_t156)] at hq
  rcases List.mem_append.mp hq with hq | hq
  · exact am_kt156_0 q hq
  rw [← List.take_append_drop 40 ((am_t156.drop 40))] at hq
  rcases List.mem_append.mp hq with hq | hq
  · exact am_kt156_1 q hq
  rw [List.drop_drop] at hq
  rw [← List.take_append_drop 40 ((am_t156.drop 80))] at hq
  rcases List.mem_append.mp hq with hq | hq
  · exact am_kt156_2 q hq
  rw [List.drop_drop] at hq
  exact am_kt156_3 q (by rw [List.take_of_length_le (by decide)]; exact hq)
def am_t157 : List (Nat × Instr × Nat) := [(0, .iload_n 0, 1), (1, .ifCond .ne 7, 3), (4, .iconst 0, 1), (5, .goto 26, 3), (8, .iload_n 0, 1), (9, .iconst 1, 1), (10, .if_icmp .ne 7, 3), (13, .iload_n 1, 1), (14, .goto 17, 3), (17, .iload_n 0, 1), (18, .iconst 2, 1), (19, .if_icmp .ne 9, 3), (22, .iload_n 1, 1), (23, .iconst 2, 1), (24, .idiv, 1), (25, .goto 6, 3), (28, .iconst 2, 1), (29, .iload_n 1, 1), (30, .imul, 1), (31, .ireturn, 1)]
set_option maxRecDepth 100000 in
theorem am_kt157 : ∀ q ∈ am_t157, decode cX11_floats q.1 = .ok q.2 := by decide +kernel
def am_t158 : List (Nat × Instr × Nat) := [(0, .iload_n 2, 1), (1, .ifCond .ne 4, 3), (4, .return_, 1), (5, .iload_n 1, 1), (6, .bipush 6, 2), (8, .idiv, 1), (9, .istore 5, 2), (11, .iload_n 1, 1), (12, .bipush 6, 2), (14, .irem, 1), (15, .istore 6, 2), (17, .iload_n 3, 1), (18, .istore 7, 2), (20, .iload 4, 2), (22, .istore 8, 2), (24, .iload 7, 2), (26, .ifCond .ne 8, 3), (29, .iload 8, 2), (31, .ifCond .eq 170, 3), (34, .iload 7, 2), (36, .ifCond .eq 19, 3), (39, .iload 5, 2), (41, .iload 7, 2), (43, .ifCond .le 7, 3), (46, .iconst 1, 1), (47, .goto 4, 3), (50, .iconst (-1), 1), (51, .iadd, 1), (52, .goto 5, 3), (55, .iload 5, 2), (57, .istore 9, 2), (59, .iload 7, 2), (61, .ifCond .eq 8, 3), (64, .iload 6, 2), (66, .goto 16, 3), (69, .iload 6, 2), (71, .iload 8, 2), (73, .ifCond .le 7, 3), (76, .iconst 1, 1), (77, .goto 4, 3), (80, .iconst (-1), 1), (81, .iadd, 1), (82, .istore 10, 2), (84, .iload 7, 2), (86, .ifCond .eq 21, 3), (89, .iload 7, 2), (91, .iload 7, 2), (93, .ifCond .le 7, 3), (96, .iconst 1, 1), (97, .goto 4, 3), (100, .iconst (-1), 1), (101, .isub, 1), (102, .istore 7, 2), (104, .goto 18, 3), (107, .iload 8, 2), (109, .iload 8, 2), (111, .ifCond .le 7, 3), (114, .iconst 1, 1), (115, .goto 4, 3), (118, .iconst (-1), 1), (119, .isub, 1), (120, .istore 8, 2), (122, .iload 9, 2), (124, .iload 10, 2), (126, .invokestatic 152, 3), (129, .ifCond .ne 14, 3), (132, .aload_n 0, 1), (133, .dup, 1), (134, .getfield 201, 3), (137, .iload_n 2, 1), (138, .iadd, 1), (139, .putfield 201, 3), (142, .return_, 1), (143, .bipush 6, 2), (145, .iload 9, 2), (147, .imul, 1), (148, .iload 10, 2), (150, .iadd, 1), (151, .istore 11, 2), (153, .aload_n 0, 1), (154, .getfield 7, 3), (157, .iload 11, 2), (159, .iaload, 1), (160, .iconst 1, 1), (161, .if_icmp .ne 15, 3), (164, .aload_n 0, 1), (165, .getfield 83, 3), (168, .iload 11, 2), (170, .dup2, 1), (171, .iaload, 1), (172, .iload_n 2, 1), (173, .iadd, 1), (174, .iastore, 1), (175, .return_, 1), (176, .aload_n 0, 1), (177, .getfield 7, 3), (180, .iload 11, 2), (182, .iaload, 1), (183, .iconst 2, 1), (184, .if_icmp .ne 6, 3), (187, .goto 14, 3), (190, .iload 9, 2), (192, .istore 5, 2), (194, .iload 10, 2), (196, .istore 6, 2), (198, .goto (-174), 3), (201, .aload_n 0, 1), (202, .getfield 80, 3), (205, .bipush 6, 2), (207, .iload 5, 2), (209, .imul, 1), (210, .iload 6, 2), (212, .iadd, 1), (213, .dup2, 1), (214, .iaload, 1), (215, .iload_n 2, 1), (216, .iadd, 1), (217, .iastore, 1), (218, .return_, 1)]
set_option maxRecDepth 100000 in
theorem am_kt158_0 : ∀ q ∈ (am_t158.drop 0).take 40, decode cX11_goes q.1 = .ok q.2 := by decide +kernel
set_option maxRecDepth 100000 in
theorem am_kt158_1 : ∀ q ∈ (am_t158.drop 40).take 40, decode cX11_goes q.1 = .ok q.2 := by decide +kernel
set_option maxRecDepth 100000 in
theorem am_kt158_2 : ∀ q ∈ (am_t158.drop 80).take 40, decode cX11_goes q.1 = .ok q.2 := by decide +kernel
set_option maxRecDepth 100000 in
theorem am_kt158 : ∀ q ∈ am_t158, decode cX11_goes q.1 = .ok q.2 := by
  intro q hq
  rw [← List.take_append_drop 40 (am_t158)] at hq
  rcases List.mem_append.mp hq with hq | hq
  · exact am_kt158_0 q hq
  rw [← List.take_append_drop 40 ((am_t158.drop 40))] at hq
  rcases List.mem_append.mp hq with hq | hq
  · exact am_kt158_1 q hq
  rw [List.drop_drop] at hq
  exact am_kt158_2 q (by rw [List.take_of_length_le (by decide)]; exact hq)
def am_t159 : List (Nat × Instr × Nat) := [(0, .iconst 0, 1), (1, .istore_n 3, 1), (2, .iconst 0, 1), (3, .istore 4, 2), (5, .iload 4, 2), (7, .iload_n 2, 1), (8, .if_icmp .ge 16, 3), (11, .iload_n 3, 1), (12, .aload_n 1, 1), (13, .iload 4, 2), (15, .iaload, 1), (16, .iadd, 1), (17, .istore_n 3, 1), (18, .iinc 4 1, 3), (21, .goto (-16), 3), (24, .iload_n 3, 1), (25, .ireturn, 1)]
set_option maxRecDepth 100000 in
theorem am_kt159 : ∀ q ∈ am_t159, decode cX11_sumOf q.1 = .ok q.2 := by decide +kernel
end
section
def am_t160 : List (Nat × Instr × Nat) := [(0, .aload_n 0, 1), (1, .iload_n 1, 1), (2, .invokevirtual 198, 3), (5, .ifCond .eq 25, 3), (8, .iload_n 3, 1), (9, .iload 4, 2), (11, .invokestatic 152, 3), (14, .ifCond .eq 16, 3), (17, .iload 5, 2), (19, .i2l, 1), (20, .lconst 0, 1), (21, .ldc2_w 178, 3), (24, .invokestatic 158, 3), (27, .ifCond .ne 5, 3), (30, .iconst (-1), 1), (31, .ireturn, 1), (32, .iload_n 2, 1), (33, .i2l, 1), (34, .lconst 0, 1), (35, .ldc2_w 196, 3), (38, .invokestatic 158, 3), (41, .ifCond .ne 6, 3), (44, .bipush (-2), 2), (46, .ireturn, 1), (47, .aload_n 0, 1), (48, .iload_n 1, 1), (49, .iload_n 2, 1), (50, .invokevirtual 227, 3), (53, .bipush 6, 2), (55, .iload_n 3, 1), (56, .imul, 1), (57, .iload 4, 2), (59, .iadd, 1), (60, .istore 6, 2), (62, .iload 5, 2), (64, .iconst 2, 1), (65, .if_icmp .ge 26, 3), (68, .iload 5, 2), (70, .ifCond .ne 13, 3), (73, .aload_n 0, 1), (74, .getfield 77, 3), (77, .iload 6, 2), (79, .iaload, 1), (80, .goto 10, 3), (83, .aload_n 0, 1), (84, .getfield 83, 3), (87, .iload 6, 2), (89, .iaload, 1), (90, .ireturn, 1), (91, .iconst 0, 1), (92, .istore 7, 2), (94, .iconst 0, 1), (95, .istore 8, 2), (97, .iload 8, 2), (99, .bipush 12, 2), (101, .if_icmp .ge 27, 3), (104, .iload 7, 2), (106, .aload_n 0, 1), (107, .getfield 86, 3), (110, .bipush 60, 2), (112, .iload 8, 2), (114, .imul, 1), (115, .iload 6, 2), (117, .iadd, 1), (118, .iaload, 1), (119, .iadd, 1), (120, .istore 7, 2), (122, .iinc 8 1, 3), (125, .goto (-28), 3), (128, .iload 7, 2), (130, .ireturn, 1)]
set_option maxRecDepth 100000 in
theorem am_kt160_0 : ∀ q ∈ (am_t160.drop 0).take 40, decode cX11_partsAt q.1 = .ok q.2 := by decide +kernel
set_option maxRecDepth 100000 in
theorem am_kt160_1 : ∀ q ∈ (am_t160.drop 40).take 40, decode cX11_partsAt q.1 = .ok q.2 := by decide +kernel
set_option maxRecDepth 100000 in
theorem am_kt160 : ∀ q ∈ am_t160, decode cX11_partsAt q.1 = .ok q.2 := by
  intro q hq
  rw [← List.take_append_drop 40 (am_t160)] at hq
  rcases List.mem_append.mp hq with hq | hq
  · exact am_kt160_0 q hq
  exact am_kt160_1 q (by rw [List.take_of_length_le (by decide)]; exact hq)
def am_t161 : List (Nat × Instr × Nat) := [(0, .aload_n 0, 1), (1, .iload_n 1, 1), (2, .invokevirtual 198, 3), (5, .ifCond .eq 16, 3), (8, .aload_n 0, 1), (9, .iload_n 2, 1), (10, .invokevirtual 198, 3), (13, .ifCond .eq 8, 3), (16, .iload_n 1, 1), (17, .iload_n 2, 1), (18, .if_icmp .ne 5, 3), (21, .iconst (-1), 1), (22, .ireturn, 1), (23, .iconst 0, 1), (24, .istore_n 3, 1), (25, .iload_n 3, 1), (26, .bipush 12, 2), (28, .if_icmp .gt 133, 3), (31, .aload_n 0, 1), (32, .iload_n 1, 1), (33, .iload_n 3, 1), (34, .invokevirtual 227, 3), (37, .iconst 0, 1), (38, .istore 4, 2), (40, .iload 4, 2), (42, .bipush 60, 2), (44, .if_icmp .ge 39, 3), (47, .aload_n 0, 1), (48, .getfield 89, 3), (51, .iload 4, 2), (53, .aload_n 0, 1), (54, .getfield 77, 3), (57, .iload 4, 2), (59, .iaload, 1), (60, .aload_n 0, 1), (61, .getfield 83, 3), (64, .iload 4, 2), (66, .iaload, 1), (67, .iadd, 1), (68, .ifCond .le 7, 3), (71, .iconst 1, 1), (72, .goto 4, 3), (75, .iconst 0, 1), (76, .bastore, 1), (77, .iinc 4 1, 3), (80, .goto (-40), 3), (83, .aload_n 0, 1), (84, .iload_n 2, 1), (85, .iload_n 3, 1), (86, .invokevirtual 227, 3), (89, .iconst 1, 1), (90, .istore 4, 2), (92, .iconst 0, 1), (93, .istore 5, 2), (95, .iload 5, 2), (97, .bipush 60, 2), (99, .if_icmp .ge 49, 3), (102, .iload 4, 2), (104, .ifCond .eq 35, 3), (107, .aload_n 0, 1), (108, .getfield 89, 3), (111, .iload 5, 2), (113, .baload, 1), (114, .ifCond .eq 21, 3), (117, .aload_n 0, 1), (118, .getfield 77, 3), (121, .iload 5, 2), (123, .iaload, 1), (124, .aload_n 0, 1), (125, .getfield 83, 3), (128, .iload 5, 2), (130, .iaload, 1), (131, .iadd, 1), (132, .ifCond .gt 7, 3), (135, .iconst 1, 1), (136, .goto 4, 3), (139, .iconst 0, 1), (140, .istore 4, 2), (142, .iinc 5 1, 3), (145, .goto (-50), 3), (148, .iload 4, 2), (150, .ifCond .eq 5, 3), (153, .iload_n 3, 1), (154, .ireturn, 1), (155, .iinc 3 1, 3), (158, .goto (-133), 3), (161, .bipush (-3), 2), (163, .ireturn, 1)]
set_option maxRecDepth 100000 in
theorem am_kt161_0 : ∀ q ∈ (am_t161.drop 0).take 40, decode cX11_apart q.1 = .ok q.2 := by decide +kernel
set_option maxRecDepth 100000 in
theorem am_kt161_1 : ∀ q ∈ (am_t161.drop 40).take 40, decode cX11_apart q.1 = .ok q.2 := by decide +kernel
set_option maxRecDepth 100000 in
theorem am_kt161_2 : ∀ q ∈ (am_t161.drop 80).take 40, decode cX11_apart q.1 = .ok q.2 := by decide +kernel
set_option maxRecDepth 100000 in
theorem am_kt161 : ∀ q ∈ am_t161, decode cX11_apart q.1 = .ok q.2 := by
  intro q hq
  rw [← List.take_append_drop 40 (am_t161)] at hq
  rcases List.mem_append.mp hq with hq | hq
  · exact am_kt161_0 q hq
  rw [← List.take_append_drop 40 ((am_t161.drop 40))] at hq
  rcases List.mem_append.mp hq with hq | hq
  · exact am_kt161_1 q hq
  rw [List.drop_drop] at hq
  exact am_kt161_2 q (by rw [List.take_of_length_le (by decide)]; exact hq)
def am_t162 : List (Nat × Instr × Nat) := [(0, .iload_n 1, 1), (1, .ifCond .lt 35, 3), (4, .iload_n 2, 1), (5, .ifCond .lt 31, 3), (8, .iload_n 1, 1), (9, .bipush 100, 2), (11, .idiv, 1), (12, .iload_n 2, 1), (13, .bipush 100, 2), (15, .idiv, 1), (16, .invokestatic 152, 3), (19, .ifCond .eq 17, 3), (22, .iload_n 1, 1), (23, .bipush 100, 2), (25, .irem, 1), (26, .iload_n 2, 1), (27, .bipush 100, 2), (29, .irem, 1), (30, .invokestatic 152, 3), (33, .ifCond .ne 5, 3), (36, .iconst (-1), 1), (37, .ireturn, 1), (38, .iload_n 1, 1), (39, .bipush 100, 2), (41, .idiv, 1), (42, .iload_n 1, 1), (43, .bipush 100, 2), (45, .irem, 1), (46, .if_icmp .gt 26, 3), (49, .iload_n 2, 1), (50, .bipush 100, 2), (52, .idiv, 1), (53, .iload_n 2, 1), (54, .bipush 100, 2), (56, .irem, 1), (57, .if_icmp .gt 15, 3), (60, .iload_n 3, 1), (61, .i2l, 1), (62, .lconst 0, 1), (63, .ldc2_w 225, 3), (66, .invokestatic 158, 3), (69, .ifCond .ne 6, 3), (72, .bipush (-2), 2), (74, .ireturn, 1), (75, .aload_n 0, 1), (76, .getfield 235, 3), (79, .bipush 6, 2), (81, .if_icmp .ne 6, 3), (84, .bipush (-4), 2), (86, .ireturn, 1), (87, .aload_n 0, 1), (88, .getfield 92, 3), (91, .aload_n 0, 1), (92, .getfield 235, 3), (95, .iload_n 1, 1), (96, .bipush 100, 2), (98, .idiv, 1), (99, .iastore, 1), (100, .aload_n 0, 1), (101, .getfield 95, 3), (104, .aload_n 0, 1), (105, .getfield 235, 3), (108, .iload_n 1, 1), (109, .bipush 100, 2), (111, .irem, 1), (112, .iastore, 1), (113, .aload_n 0, 1), (114, .getfield 98, 3), (117, .aload_n 0, 1), (118, .getfield 235, 3), (121, .iload_n 2, 1), (122, .bipush 100, 2), (124, .idiv, 1), (125, .iastore, 1), (126, .aload_n 0, 1), (127, .getfield 101, 3), (130, .aload_n 0, 1), (131, .getfield 235, 3), (134, .iload_n 2, 1), (135, .bipush 100, 2), (137, .irem, 1), (138, .iastore, 1), (139, .aload_n 0, 1), (140, .getfield 104, 3), (143, .aload_n 0, 1), (144, .getfield 235, 3), (147, .iload_n 3, 1), (148, .iastore, 1), (149, .aload_n 0, 1), (150, .dup, 1), (151, .getfield 235, 3), (154, .iconst 1, 1), (155, .iadd, 1), (156, .putfield 235, 3), (159, .aload_n 0, 1), (160, .getfield 235, 3), (163, .iconst 1, 1), (164, .isub, 1), (165, .ireturn, 1)]
set_option maxRecDepth 100000 in
theorem am_kt162_0 : ∀ q ∈ (am_t162.drop 0).take 40, decode cX11_name q.1 = .ok q.2 := by decide +kernel
set_option maxRecDepth 100000 in
theorem am_kt162_1 : ∀ q ∈ (am_t162.drop 40).take 40, decode cX11_name q.1 = .ok q.2 := by decide +kernel
set_option maxRecDepth 100000 in
theorem am_kt162_2 : ∀ q ∈ (am_t162.drop 80).take 40, decode cX11_name q.1 = .ok q.2 := by decide +kernel
set_option maxRecDepth 100000 in
theorem am_kt162 : ∀ q ∈ am_t162, decode cX11_name q.1 = .ok q.2 := by
  intro q hq
  rw [← List.take_append_drop 40 (am_t162)] at hq
  rcases List.mem_append.mp hq with hq | hq
  · exact am_kt162_0 q hq
  rw [← List.take_append_drop 40 ((am_t162.drop 40))] at hq
  rcases List.mem_append.mp hq with hq | hq
  · exact am_kt162_1 q hq
  rw [List.drop_drop] at hq
  exact am_kt162_2 q (by rw [List.take_of_length_le (by decide)]; exact hq)
def am_t163 : List (Nat × Instr × Nat) := [(0, .aload_n 0, 1), (1, .iload_n 3, 1), (2, .invokevirtual 243, 3), (5, .ifCond .eq 15, 3), (8, .iload_n 2, 1), (9, .i2l, 1), (10, .lconst 0, 1), (11, .ldc2_w 188, 3), (14, .invokestatic 158, 3), (17, .ifCond .ne 5, 3), (20, .iconst (-1), 1), (21, .ireturn, 1), (22, .iload_n 1, 1), (23, .invokestatic 246, 3), (26, .ifCond .eq 31, 3), (29, .iload 4, 2), (31, .i2l, 1), (32, .lconst 0, 1), (33, .ldc2_w 249, 3), (36, .invokestatic 158, 3), (39, .ifCond .eq 18, 3), (42, .iload 5, 2), (44, .i2l, 1), (45, .iload 4, 2), (47, .i2l, 1), (48, .ldc2_w 249, 3), (51, .invokestatic 158, 3), (54, .ifCond .ne 6, 3), (57, .bipush (-2), 2), (59, .ireturn, 1), (60, .aload_n 0, 1), (61, .getfield 238, 3), (64, .bipush 16, 2), (66, .if_icmp .ne 6, 3), (69, .bipush (-4), 2), (71, .ireturn, 1), (72, .aload_n 0, 1), (73, .getfield 107, 3), (76, .aload_n 0, 1), (77, .getfield 238, 3), (80, .iload_n 1, 1), (81, .iastore, 1), (82, .aload_n 0, 1), (83, .getfield 110, 3), (86, .aload_n 0, 1), (87, .getfield 238, 3), (90, .iload_n 2, 1), (91, .iastore, 1), (92, .aload_n 0, 1), (93, .getfield 113, 3), (96, .aload_n 0, 1), (97, .getfield 238, 3), (100, .iload_n 3, 1), (101, .iastore, 1), (102, .aload_n 0, 1), (103, .getfield 116, 3), (106, .aload_n 0, 1), (107, .getfield 238, 3), (110, .iload 4, 2), (112, .iastore, 1), (113, .aload_n 0, 1), (114, .getfield 119, 3), (117, .aload_n 0, 1), (118, .getfield 238, 3), (121, .iload 5, 2), (123, .iastore, 1), (124, .aload_n 0, 1), (125, .getfield 122, 3), (128, .aload_n 0, 1), (129, .getfield 238, 3), (132, .aload_n 0, 1), (133, .getfield 251, 3), (136, .iastore, 1), (137, .aload_n 0, 1), (138, .dup, 1), (139, .getfield 238, 3), (142, .iconst 1, 1), (143, .iadd, 1), (144, .putfield 238, 3), (147, .aload_n 0, 1), (148, .getfield 238, 3), (151, .iconst 1, 1), (152, .isub, 1), (153, .ireturn, 1)]
set_option maxRecDepth 100000 in
theorem am_kt163_0 : ∀ q ∈ (am_t163.drop 0).take 40, decode cX11_find q.1 = .ok q.2 := by decide +kernel
set_option maxRecDepth 100000 in
theorem am_kt163_1 : ∀ q ∈ (am_t163.drop 40).take 40, decode cX11_find q.1 = .ok q.2 := by decide +kernel
set_option maxRecDepth 100000 in
theorem am_kt163_2 : ∀ q ∈ (am_t163.drop 80).take 40, decode cX11_find q.1 = .ok q.2 := by decide +kernel
set_option maxRecDepth 100000 in
theorem am_kt163 : ∀ q ∈ am_t163, decode cX11_find q.1 = .ok q.2 := by
  intro q hq
  rw [← List.take_append_drop 40 (am_t163)] at hq
  rcases List.mem_append.mp hq with hq | hq
  · exact am_kt163_0 q hq
  rw [← List.take_append_drop 40 ((am_t163.drop 40))] at hq
  rcases List.mem_append.mp hq with hq | hq
  · exact am_kt163_1 q hq
  rw [List.drop_drop] at hq
  exact am_kt163_2 q (by rw [List.take_of_length_le (by decide)]; exact hq)
def am_t164 : List (Nat × Instr × Nat) := [(0, .iload_n 1, 1), (1, .ifCond .lt 15, 3), (4, .iload_n 1, 1), (5, .aload_n 0, 1), (6, .getfield 235, 3), (9, .if_icmp .ge 7, 3), (12, .iconst 1, 1), (13, .goto 4, 3), (16, .iconst 0, 1), (17, .ireturn, 1)]
set_option maxRecDepth 100000 in
theorem am_kt164 : ∀ q ∈ am_t164, decode cX11_isName q.1 = .ok q.2 := by decide +kernel
def am_t165 : List (Nat × Instr × Nat) := [(0, .iload_n 0, 1), (1, .i2l, 1), (2, .lconst 0, 1), (3, .ldc2_w 241, 3), (6, .invokestatic 158, 3), (9, .istore_n 1, 1), (10, .iconst 0, 1), (11, .istore_n 2, 1), (12, .iload_n 2, 1), (13, .iconst 4, 1), (14, .if_icmp .ge 32, 3), (17, .iload_n 1, 1), (18, .ifCond .eq 20, 3), (21, .iload_n 0, 1), (22, .iconst 4, 1), (23, .iload_n 2, 1), (24, .imul, 1), (25, .ishr, 1), (26, .bipush 15, 2), (28, .iand, 1), (29, .bipush 10, 2), (31, .if_icmp .gt 7, 3), (34, .iconst 1, 1), (35, .goto 4, 3), (38, .iconst 0, 1), (39, .istore_n 1, 1), (40, .iinc 2 1, 3), (43, .goto (-31), 3), (46, .iload_n 1, 1), (47, .ireturn, 1)]
set_option maxRecDepth 100000 in
theorem am_kt165 : ∀ q ∈ am_t165, decode cX11_isRow q.1 = .ok q.2 := by decide +kernel
def am_t166 : List (Nat × Instr × Nat) := [(0, .iload_n 1, 1), (1, .i2l, 1), (2, .aload_n 0, 1), (3, .getfield 251, 3), (6, .i2l, 1), (7, .ldc2_w 254, 3), (10, .invokestatic 158, 3), (13, .ifCond .ne 6, 3), (16, .bipush (-2), 2), (18, .ireturn, 1), (19, .aload_n 0, 1), (20, .getfield 251, 3), (23, .istore_n 2, 1), (24, .aload_n 0, 1), (25, .iload_n 1, 1), (26, .putfield 251, 3), (29, .iload_n 2, 1), (30, .ireturn, 1)]
set_option maxRecDepth 100000 in
theorem am_kt166 : ∀ q ∈ am_t166, decode cX11_clock q.1 = .ok q.2 := by decide +kernel
def am_t167 : List (Nat × Instr × Nat) := [(0, .aload_n 0, 1), (1, .iload_n 1, 1), (2, .invokevirtual 256, 3), (5, .ifCond .ne 5, 3), (8, .iconst (-1), 1), (9, .ireturn, 1), (10, .iload_n 2, 1), (11, .i2l, 1), (12, .lconst 0, 1), (13, .lconst 1, 1), (14, .invokestatic 158, 3), (17, .ifCond .ne 6, 3), (20, .bipush (-2), 2), (22, .ireturn, 1), (23, .aload_n 0, 1), (24, .getfield 125, 3), (27, .iload_n 1, 1), (28, .baload, 1), (29, .ifCond .eq 7, 3), (32, .iconst 1, 1), (33, .goto 4, 3), (36, .iconst 0, 1), (37, .istore_n 3, 1), (38, .aload_n 0, 1), (39, .getfield 125, 3), (42, .iload_n 1, 1), (43, .iload_n 2, 1), (44, .iconst 1, 1), (45, .if_icmp .ne 7, 3), (48, .iconst 1, 1), (49, .goto 4, 3), (52, .iconst 0, 1), (53, .bastore, 1), (54, .iload_n 3, 1), (55, .ireturn, 1)]
set_option maxRecDepth 100000 in
theorem am_kt167 : ∀ q ∈ am_t167, decode cX11_drop q.1 = .ok q.2 := by decide +kernel
def am_t168 : List (Nat × Instr × Nat) := [(0, .iload_n 1, 1), (1, .ifCond .lt 15, 3), (4, .iload_n 1, 1), (5, .aload_n 0, 1), (6, .getfield 238, 3), (9, .if_icmp .ge 7, 3), (12, .iconst 1, 1), (13, .goto 4, 3), (16, .iconst 0, 1), (17, .ireturn, 1)]
set_option maxRecDepth 100000 in
theorem am_kt168 : ∀ q ∈ am_t168, decode cX11_isFind q.1 = .ok q.2 := by decide +kernel
def am_t169 : List (Nat × Instr × Nat) := [(0, .aload_n 0, 1), (1, .iload_n 1, 1), (2, .invokevirtual 256, 3), (5, .ifCond .eq 20, 3), (8, .aload_n 0, 1), (9, .iload_n 2, 1), (10, .invokevirtual 198, 3), (13, .ifCond .eq 12, 3), (16, .aload_n 0, 1), (17, .iload_n 1, 1), (18, .iload_n 2, 1), (19, .invokevirtual 266, 3), (22, .goto 4, 3), (25, .iconst (-1), 1), (26, .ireturn, 1)]
set_option maxRecDepth 100000 in
theorem am_kt169 : ∀ q ∈ am_t169, decode cX11_weight q.1 = .ok q.2 := by decide +kernel
def am_t170 : List (Nat × Instr × Nat) := [(0, .aload_n 0, 1), (1, .iload_n 1, 1), (2, .iload_n 2, 1), (3, .invokevirtual 259, 3), (6, .ifCond .ne 5, 3), (9, .iconst 0, 1), (10, .ireturn, 1), (11, .aload_n 0, 1), (12, .iload_n 2, 1), (13, .bipush 12, 2), (15, .invokevirtual 227, 3), (18, .aload_n 0, 1), (19, .aload_n 0, 1), (20, .getfield 113, 3), (23, .iload_n 1, 1), (24, .iaload, 1), (25, .aload_n 0, 1), (26, .getfield 65, 3), (29, .iload_n 2, 1), (30, .iaload, 1), (31, .aload_n 0, 1), (32, .getfield 116, 3), (35, .iload_n 1, 1), (36, .iaload, 1), (37, .aload_n 0, 1), (38, .getfield 119, 3), (41, .iload_n 1, 1), (42, .iaload, 1), (43, .invokevirtual 262, 3), (46, .ireturn, 1)]
set_option maxRecDepth 100000 in
theorem am_kt170 : ∀ q ∈ am_t170, decode cX11_weightOf q.1 = .ok q.2 := by decide +kernel
def am_t171 : List (Nat × Instr × Nat) := [(0, .aload_n 0, 1), (1, .getfield 110, 3), (4, .iload_n 1, 1), (5, .iaload, 1), (6, .aload_n 0, 1), (7, .getfield 71, 3), (10, .iload_n 2, 1), (11, .iaload, 1), (12, .if_icmp .eq 5, 3), (15, .iconst 0, 1), (16, .ireturn, 1), (17, .iconst 0, 1), (18, .istore_n 3, 1), (19, .aload_n 0, 1), (20, .getfield 59, 3), (23, .iload_n 2, 1), (24, .iaload, 1), (25, .istore 4, 2), (27, .iload 4, 2), (29, .aload_n 0, 1), (30, .getfield 59, 3), (33, .iload_n 2, 1), (34, .iaload, 1), (35, .aload_n 0, 1), (36, .getfield 62, 3), (39, .iload_n 2, 1), (40, .iaload, 1), (41, .iadd, 1), (42, .if_icmp .ge 96, 3), (45, .iload 4, 2), (47, .istore 5, 2), (49, .iconst 1, 1), (50, .istore 6, 2), (52, .iconst 0, 1), (53, .istore 7, 2), (55, .iload 7, 2), (57, .iconst 4, 1), (58, .if_icmp .ge 61, 3), (61, .aload_n 0, 1), (62, .getfield 107, 3), (65, .iload_n 1, 1), (66, .iaload, 1), (67, .iconst 4, 1), (68, .iload 7, 2), (70, .imul, 1), (71, .ishr, 1), (72, .bipush 15, 2), (74, .iand, 1), (75, .istore 8, 2), (77, .iload 6, 2), (79, .ifCond .eq 24, 3), (82, .iload 8, 2), (84, .bipush 10, 2), (86, .if_icmp .eq 13, 3), (89, .iload 8, 2), (91, .iload 5, 2), (93, .bipush 10, 2), (95, .irem, 1), (96, .if_icmp .ne 7, 3), (99, .iconst 1, 1), (100, .goto 4, 3), (103, .iconst 0, 1), (104, .istore 6, 2), (106, .iload 5, 2), (108, .bipush 10, 2), (110, .idiv, 1), (111, .istore 5, 2), (113, .iinc 7 1, 3), (116, .goto (-61), 3), (119, .iload_n 3, 1), (120, .iload 6, 2), (122, .ifCond .eq 7, 3), (125, .iconst 1, 1), (126, .goto 4, 3), (129, .iconst 0, 1), (130, .iadd, 1), (131, .istore_n 3, 1), (132, .iinc 4 1, 3), (135, .goto (-108), 3), (138, .iload_n 3, 1), (139, .ireturn, 1)]
set_option maxRecDepth 100000 in
theorem am_kt171_0 : ∀ q ∈ (am_t171.drop 0).take 40, decode cX11_cardsOf q.1 = .ok q.2 := by decide +kernel
set_option maxRecDepth 100000 in
theorem am_kt171_1 : ∀ q ∈ (am_t171.drop 40).take 40, decode cX11_cardsOf q.1 = .ok q.2 := by decide +kernel
set_option maxRecDepth 100000 in
theorem am_kt171_2 : ∀ q ∈ (am_t171.drop 80).take 40, decode cX11_cardsOf q.1 = .ok q.2 := by decide +kernel
set_option maxRecDepth 100000 in
theorem am_kt171 : ∀ q ∈ am_t171, decode cX11_cardsOf q.1 = .ok q.2 := by
  intro q hq
  rw [← List.take_append_drop 40 (am_t171)] at hq
  rcases List.mem_append.mp hq with hq | hq
  · exact am_kt171_0 q hq
  rw [← List.take_append_drop 40 ((am_t171.drop 40))] at hq
  rcases List.mem_append.mp hq with hq | hq
  · exact am_kt171_1 q hq
  rw [List.drop_drop] at hq
  exact am_kt171_2 q (by rw [List.take_of_length_le (by decide)]; exact hq)
def am_t172 : List (Nat × Instr × Nat) := [(0, .iconst 0, 1), (1, .istore 5, 2), (3, .iconst 0, 1), (4, .istore 6, 2), (6, .iload 6, 2), (8, .bipush 12, 2), (10, .if_icmp .ge 102, 3), (13, .iload_n 2, 1), (14, .iload 6, 2), (16, .iadd, 1), (17, .i2l, 1), (18, .iload_n 3, 1), (19, .i2l, 1), (20, .iload 4, 2), (22, .i2l, 1), (23, .invokestatic 158, 3), (26, .ifCond .ne 6, 3), (29, .goto 77, 3), (32, .aload_n 0, 1), (33, .getfield 92, 3), (36, .iload_n 1, 1), (37, .iaload, 1), (38, .istore 7, 2), (40, .iload 7, 2), (42, .aload_n 0, 1), (43, .getfield 95, 3), (46, .iload_n 1, 1), (47, .iaload, 1), (48, .if_icmp .gt 58, 3), (51, .aload_n 0, 1), (52, .getfield 98, 3), (55, .iload_n 1, 1), (56, .iaload, 1), (57, .istore 8, 2), (59, .iload 8, 2), (61, .aload_n 0, 1), (62, .getfield 101, 3), (65, .iload_n 1, 1), (66, .iaload, 1), (67, .if_icmp .gt 33, 3), (70, .iload 5, 2), (72, .aload_n 0, 1), (73, .getfield 86, 3), (76, .bipush 60, 2), (78, .iload 6, 2), (80, .imul, 1), (81, .bipush 6, 2), (83, .iload 7, 2), (85, .imul, 1), (86, .iadd, 1), (87, .iload 8, 2), (89, .iadd, 1), (90, .iaload, 1), (91, .iadd, 1), (92, .istore 5, 2), (94, .iinc 8 1, 3), (97, .goto (-38), 3), (100, .iinc 7 1, 3), (103, .goto (-63), 3), (106, .iinc 6 1, 3), (109, .goto (-103), 3), (112, .iload 5, 2), (114, .ireturn, 1)]
set_option maxRecDepth 100000 in
theorem am_kt172_0 : ∀ q ∈ (am_t172.drop 0).take 40, decode cX11_foundIn q.1 = .ok q.2 := by decide +kernel
set_option maxRecDepth 100000 in
theorem am_kt172_1 : ∀ q ∈ (am_t172.drop 40).take 40, decode cX11_foundIn q.1 = .ok q.2 := by decide +kernel
set_option maxRecDepth 100000 in
theorem am_kt172 : ∀ q ∈ am_t172, decode cX11_foundIn q.1 = .ok q.2 := by
  intro q hq
  rw [← List.take_append_drop 40 (am_t172)] at hq
  rcases List.mem_append.mp hq with hq | hq
  · exact am_kt172_0 q hq
  exact am_kt172_1 q (by rw [List.take_of_length_le (by decide)]; exact hq)
def am_t173 : List (Nat × Instr × Nat) := [(0, .aload_n 0, 1), (1, .iload_n 1, 1), (2, .invokevirtual 256, 3), (5, .ifCond .eq 11, 3), (8, .aload_n 0, 1), (9, .iload_n 1, 1), (10, .invokevirtual 269, 3), (13, .goto 4, 3), (16, .iconst (-1), 1), (17, .ireturn, 1)]
set_option maxRecDepth 100000 in
theorem am_kt173 : ∀ q ∈ am_t173, decode cX11_judge q.1 = .ok q.2 := by decide +kernel
def am_t174 : List (Nat × Instr × Nat) := [(0, .iconst 0, 1), (1, .istore_n 2, 1), (2, .iconst 0, 1), (3, .istore_n 3, 1), (4, .iconst 0, 1), (5, .istore 4, 2), (7, .iload 4, 2), (9, .aload_n 0, 1), (10, .getfield 166, 3), (13, .if_icmp .ge 45, 3), (16, .iload_n 2, 1), (17, .aload_n 0, 1), (18, .iload_n 1, 1), (19, .iload 4, 2), (21, .invokevirtual 259, 3), (24, .ifCond .le 7, 3), (27, .iconst 1, 1), (28, .goto 4, 3), (31, .iconst 0, 1), (32, .iadd, 1), (33, .istore_n 2, 1), (34, .iload_n 3, 1), (35, .aload_n 0, 1), (36, .iload_n 1, 1), (37, .iload 4, 2), (39, .invokevirtual 266, 3), (42, .ifCond .le 7, 3), (45, .iconst 1, 1), (46, .goto 4, 3), (49, .iconst 0, 1), (50, .iadd, 1), (51, .istore_n 3, 1), (52, .iinc 4 1, 3), (55, .goto (-48), 3), (58, .iload_n 2, 1), (59, .ifCond .ne 7, 3), (62, .iconst 3, 1), (63, .goto 21, 3), (66, .iload_n 3, 1), (67, .ifCond .ne 7, 3), (70, .iconst 0, 1), (71, .goto 13, 3), (74, .iload_n 3, 1), (75, .iconst 1, 1), (76, .if_icmp .ne 7, 3), (79, .iconst 2, 1), (80, .goto 4, 3), (83, .iconst 1, 1), (84, .ireturn, 1)]
set_option maxRecDepth 100000 in
theorem am_kt174_0 : ∀ q ∈ (am_t174.drop 0).take 40, decode cX11_judged q.1 = .ok q.2 := by decide +kernel
set_option maxRecDepth 100000 in
theorem am_kt174_1 : ∀ q ∈ (am_t174.drop 40).take 40, decode cX11_judged q.1 = .ok q.2 := by decide +kernel
set_option maxRecDepth 100000 in
theorem am_kt174 : ∀ q ∈ am_t174, decode cX11_judged q.1 = .ok q.2 := by
  intro q hq
  rw [← List.take_append_drop 40 (am_t174)] at hq
  rcases List.mem_append.mp hq with hq | hq
  · exact am_kt174_0 q hq
  exact am_kt174_1 q (by rw [List.take_of_length_le (by decide)]; exact hq)
def am_t175 : List (Nat × Instr × Nat) := [(0, .aload_n 0, 1), (1, .iload_n 1, 1), (2, .invokevirtual 256, 3), (5, .ifCond .eq 11, 3), (8, .aload_n 0, 1), (9, .iload_n 1, 1), (10, .invokevirtual 272, 3), (13, .goto 4, 3), (16, .iconst (-1), 1), (17, .ireturn, 1)]
set_option maxRecDepth 100000 in
theorem am_kt175 : ∀ q ∈ am_t175, decode cX11_best q.1 = .ok q.2 := by decide +kernel
def am_t176 : List (Nat × Instr × Nat) := [(0, .iconst (-1), 1), (1, .istore_n 2, 1), (2, .iconst 0, 1), (3, .istore_n 3, 1), (4, .iconst 0, 1), (5, .istore 4, 2), (7, .iload 4, 2), (9, .aload_n 0, 1), (10, .getfield 166, 3), (13, .if_icmp .ge 33, 3), (16, .aload_n 0, 1), (17, .iload_n 1, 1), (18, .iload 4, 2), (20, .invokevirtual 266, 3), (23, .istore 5, 2), (25, .iload 5, 2), (27, .iload_n 3, 1), (28, .if_icmp .gt 6, 3), (31, .goto 9, 3), (34, .iload 5, 2), (36, .istore_n 3, 1), (37, .iload 4, 2), (39, .istore_n 2, 1), (40, .iinc 4 1, 3), (43, .goto (-36), 3), (46, .iload_n 2, 1), (47, .ireturn, 1)]
set_option maxRecDepth 100000 in
theorem am_kt176 : ∀ q ∈ am_t176, decode cX11_bestOf q.1 = .ok q.2 := by decide +kernel
def am_t177 : List (Nat × Instr × Nat) := [(0, .aload_n 0, 1), (1, .iload_n 1, 1), (2, .invokevirtual 256, 3), (5, .ifCond .ne 5, 3), (8, .iconst (-1), 1), (9, .ireturn, 1), (10, .aload_n 0, 1), (11, .iload_n 1, 1), (12, .invokevirtual 272, 3), (15, .istore_n 2, 1), (16, .iload_n 2, 1), (17, .ifCond .ge 7, 3), (20, .iconst 0, 1), (21, .goto 9, 3), (24, .aload_n 0, 1), (25, .iload_n 1, 1), (26, .iload_n 2, 1), (27, .invokevirtual 259, 3), (30, .ireturn, 1)]
set_option maxRecDepth 100000 in
theorem am_kt177 : ∀ q ∈ am_t177, decode cX11_cards q.1 = .ok q.2 := by decide +kernel
def am_t178 : List (Nat × Instr × Nat) := [(0, .aload_n 0, 1), (1, .iload_n 1, 1), (2, .invokevirtual 256, 3), (5, .ifCond .eq 11, 3), (8, .aload_n 0, 1), (9, .iload_n 1, 1), (10, .invokevirtual 278, 3), (13, .goto 4, 3), (16, .iconst (-1), 1), (17, .ireturn, 1)]
set_option maxRecDepth 100000 in
theorem am_kt178 : ∀ q ∈ am_t178, decode cX11_twin q.1 = .ok q.2 := by decide +kernel
def am_t179 : List (Nat × Instr × Nat) := [(0, .iconst 0, 1), (1, .istore_n 2, 1), (2, .iload_n 2, 1), (3, .iload_n 1, 1), (4, .if_icmp .ge 58, 3), (7, .aload_n 0, 1), (8, .iload_n 1, 1), (9, .invokevirtual 275, 3), (12, .ifCond .eq 50, 3), (15, .aload_n 0, 1), (16, .getfield 125, 3), (19, .iload_n 2, 1), (20, .baload, 1), (21, .ifCond .ne 35, 3), (24, .aload_n 0, 1), (25, .getfield 107, 3), (28, .iload_n 2, 1), (29, .iaload, 1), (30, .aload_n 0, 1), (31, .getfield 107, 3), (34, .iload_n 1, 1), (35, .iaload, 1), (36, .if_icmp .ne 20, 3), (39, .aload_n 0, 1), (40, .getfield 110, 3), (43, .iload_n 2, 1), (44, .iaload, 1), (45, .aload_n 0, 1), (46, .getfield 110, 3), (49, .iload_n 1, 1), (50, .iaload, 1), (51, .if_icmp .ne 5, 3), (54, .iload_n 2, 1), (55, .ireturn, 1), (56, .iinc 2 1, 3), (59, .goto (-57), 3), (62, .iconst (-1), 1), (63, .ireturn, 1)]
set_option maxRecDepth 100000 in
theorem am_kt179 : ∀ q ∈ am_t179, decode cX11_twinOf q.1 = .ok q.2 := by decide +kernel
end
section
def am_t180 : List (Nat × Instr × Nat) := [(0, .iconst 1, 1), (1, .istore_n 2, 1), (2, .iconst 0, 1), (3, .istore_n 3, 1), (4, .iload_n 3, 1), (5, .iconst 4, 1), (6, .if_icmp .ge 37, 3), (9, .iload_n 2, 1), (10, .ifCond .eq 25, 3), (13, .aload_n 0, 1), (14, .getfield 107, 3), (17, .iload_n 1, 1), (18, .iaload, 1), (19, .iconst 4, 1), (20, .iload_n 3, 1), (21, .imul, 1), (22, .ishr, 1), (23, .bipush 15, 2), (25, .iand, 1), (26, .bipush 10, 2), (28, .if_icmp .eq 7, 3), (31, .iconst 1, 1), (32, .goto 4, 3), (35, .iconst 0, 1), (36, .istore_n 2, 1), (37, .iinc 3 1, 3), (40, .goto (-36), 3), (43, .iload_n 2, 1), (44, .ireturn, 1)]
set_option maxRecDepth 100000 in
theorem am_kt180 : ∀ q ∈ am_t180, decode cX11_isKnown q.1 = .ok q.2 := by decide +kernel
def am_t181 : List (Nat × Instr × Nat) := [(0, .aload_n 0, 1), (1, .iload_n 1, 1), (2, .invokevirtual 198, 3), (5, .ifCond .eq 16, 3), (8, .iload_n 2, 1), (9, .iconst (-1), 1), (10, .if_icmp .eq 13, 3), (13, .aload_n 0, 1), (14, .iload_n 2, 1), (15, .invokevirtual 243, 3), (18, .ifCond .ne 5, 3), (21, .iconst (-1), 1), (22, .ireturn, 1), (23, .iload_n 3, 1), (24, .i2l, 1), (25, .lconst 0, 1), (26, .ldc2_w 254, 3), (29, .invokestatic 158, 3), (32, .ifCond .ne 6, 3), (35, .bipush (-2), 2), (37, .ireturn, 1), (38, .aload_n 0, 1), (39, .invokevirtual 281, 3), (42, .aload_n 0, 1), (43, .iload_n 1, 1), (44, .iload_n 2, 1), (45, .iload_n 3, 1), (46, .iconst (-1), 1), (47, .invokevirtual 284, 3), (50, .ireturn, 1)]
set_option maxRecDepth 100000 in
theorem am_kt181 : ∀ q ∈ am_t181, decode cX11_got q.1 = .ok q.2 := by decide +kernel
def am_t182 : List (Nat × Instr × Nat) := [(0, .iconst 0, 1), (1, .istore_n 1, 1), (2, .iload_n 1, 1), (3, .aload_n 0, 1), (4, .getfield 238, 3), (7, .if_icmp .ge 50, 3), (10, .aload_n 0, 1), (11, .getfield 128, 3), (14, .iload_n 1, 1), (15, .aload_n 0, 1), (16, .getfield 125, 3), (19, .iload_n 1, 1), (20, .baload, 1), (21, .ifCond .ne 28, 3), (24, .aload_n 0, 1), (25, .iload_n 1, 1), (26, .invokevirtual 278, 3), (29, .ifCond .ge 20, 3), (32, .aload_n 0, 1), (33, .iload_n 1, 1), (34, .invokevirtual 269, 3), (37, .iconst 2, 1), (38, .if_icmp .ne 11, 3), (41, .aload_n 0, 1), (42, .iload_n 1, 1), (43, .invokevirtual 272, 3), (46, .goto 4, 3), (49, .iconst (-1), 1), (50, .iastore, 1), (51, .iinc 1 1, 3), (54, .goto (-52), 3), (57, .return_, 1)]
set_option maxRecDepth 100000 in
theorem am_kt182 : ∀ q ∈ am_t182, decode cX11_findSure q.1 = .ok q.2 := by decide +kernel
def am_t183 : List (Nat × Instr × Nat) := [(0, .iconst 0, 1), (1, .istore 5, 2), (3, .iconst 0, 1), (4, .istore 6, 2), (6, .iload 6, 2), (8, .aload_n 0, 1), (9, .getfield 238, 3), (12, .if_icmp .ge 64, 3), (15, .iload 5, 2), (17, .iload 6, 2), (19, .iload 4, 2), (21, .if_icmp .eq 45, 3), (24, .aload_n 0, 1), (25, .getfield 122, 3), (28, .iload 6, 2), (30, .iaload, 1), (31, .iload_n 3, 1), (32, .if_icmp .gt 34, 3), (35, .aload_n 0, 1), (36, .getfield 128, 3), (39, .iload 6, 2), (41, .iaload, 1), (42, .iload_n 1, 1), (43, .if_icmp .ne 23, 3), (46, .iload_n 2, 1), (47, .iconst (-1), 1), (48, .if_icmp .eq 14, 3), (51, .aload_n 0, 1), (52, .getfield 113, 3), (55, .iload 6, 2), (57, .iaload, 1), (58, .iload_n 2, 1), (59, .if_icmp .ne 7, 3), (62, .iconst 1, 1), (63, .goto 4, 3), (66, .iconst 0, 1), (67, .iadd, 1), (68, .istore 5, 2), (70, .iinc 6 1, 3), (73, .goto (-67), 3), (76, .iload 5, 2), (78, .ireturn, 1)]
set_option maxRecDepth 100000 in
theorem am_kt183_0 : ∀ q ∈ (am_t183.drop 0).take 40, decode cX11_gotBy q.1 = .ok q.2 := by decide +kernel
set_option maxRecDepth 100000 in
theorem am_kt183_1 : ∀ q ∈ (am_t183.drop 40).take 40, decode cX11_gotBy q.1 = .ok q.2 := by decide +kernel
set_option maxRecDepth 100000 in
theorem am_kt183 : ∀ q ∈ am_t183, decode cX11_gotBy q.1 = .ok q.2 := by
  intro q hq
  rw [← List.take_append_drop 40 (am_t183)] at hq
  rcases List.mem_append.mp hq with hq | hq
  · exact am_kt183_0 q hq
  exact am_kt183_1 q (by rw [List.take_of_length_le (by decide)]; exact hq)
def am_t184 : List (Nat × Instr × Nat) := [(0, .iload_n 1, 1), (1, .i2l, 1), (2, .lconst 0, 1), (3, .ldc2_w 178, 3), (6, .invokestatic 158, 3), (9, .ifCond .ne 6, 3), (12, .bipush (-3), 2), (14, .ireturn, 1), (15, .iload_n 2, 1), (16, .i2l, 1), (17, .ldc2_w 287, 3), (20, .lconst 1, 1), (21, .invokestatic 158, 3), (24, .ifCond .ne 6, 3), (27, .bipush (-2), 2), (29, .ireturn, 1), (30, .aload_n 0, 1), (31, .getfield 37, 3), (34, .iload_n 1, 1), (35, .iaload, 1), (36, .istore_n 3, 1), (37, .aload_n 0, 1), (38, .getfield 37, 3), (41, .iload_n 1, 1), (42, .iload_n 2, 1), (43, .iastore, 1), (44, .iload_n 3, 1), (45, .ireturn, 1)]
set_option maxRecDepth 100000 in
theorem am_kt184 : ∀ q ∈ am_t184, decode cX11_move q.1 = .ok q.2 := by decide +kernel
def am_t185 : List (Nat × Instr × Nat) := [(0, .iload_n 1, 1), (1, .i2l, 1), (2, .lconst 0, 1), (3, .ldc2_w 178, 3), (6, .invokestatic 158, 3), (9, .ifCond .ne 6, 3), (12, .bipush (-3), 2), (14, .ireturn, 1), (15, .aload_n 0, 1), (16, .invokevirtual 281, 3), (19, .aload_n 0, 1), (20, .iconst (-1), 1), (21, .invokevirtual 297, 3), (24, .aload_n 0, 1), (25, .getfield 134, 3), (28, .iload_n 1, 1), (29, .iaload, 1), (30, .ireturn, 1)]
set_option maxRecDepth 100000 in
theorem am_kt185 : ∀ q ∈ am_t185, decode cX11_fit q.1 = .ok q.2 := by decide +kernel
def am_t186 : List (Nat × Instr × Nat) := [(0, .iconst 0, 1), (1, .istore_n 2, 1), (2, .iload_n 2, 1), (3, .iconst 3, 1), (4, .if_icmp .ge 21, 3), (7, .aload_n 0, 1), (8, .getfield 131, 3), (11, .iload_n 2, 1), (12, .aload_n 0, 1), (13, .getfield 37, 3), (16, .iload_n 2, 1), (17, .iaload, 1), (18, .iastore, 1), (19, .iinc 2 1, 3), (22, .goto (-20), 3), (25, .aload_n 0, 1), (26, .ldc2_w 287, 3), (29, .putfield 289, 3), (32, .iconst 0, 1), (33, .istore_n 2, 1), (34, .iload_n 2, 1), (35, .bipush 27, 2), (37, .if_icmp .ge 106, 3), (40, .aload_n 0, 1), (41, .getfield 37, 3), (44, .iconst 0, 1), (45, .iload_n 2, 1), (46, .bipush 9, 2), (48, .idiv, 1), (49, .iconst 1, 1), (50, .isub, 1), (51, .iastore, 1), (52, .aload_n 0, 1), (53, .getfield 37, 3), (56, .iconst 1, 1), (57, .iload_n 2, 1), (58, .iconst 3, 1), (59, .idiv, 1), (60, .iconst 3, 1), (61, .irem, 1), (62, .iconst 1, 1), (63, .isub, 1), (64, .iastore, 1), (65, .aload_n 0, 1), (66, .getfield 37, 3), (69, .iconst 2, 1), (70, .iload_n 2, 1), (71, .iconst 3, 1), (72, .irem, 1), (73, .iconst 1, 1), (74, .isub, 1), (75, .iastore, 1), (76, .aload_n 0, 1), (77, .iload_n 1, 1), (78, .invokevirtual 293, 3), (81, .lstore_n 3, 1), (82, .aload_n 0, 1), (83, .getfield 289, 3), (86, .lconst 0, 1), (87, .lcmp, 1), (88, .ifCond .lt 15, 3), (91, .lload_n 3, 1), (92, .aload_n 0, 1), (93, .getfield 289, 3), (96, .lcmp, 1), (97, .ifCond .lt 6, 3), (100, .goto 37, 3), (103, .aload_n 0, 1), (104, .lload_n 3, 1), (105, .putfield 289, 3), (108, .iconst 0, 1), (109, .istore 5, 2), (111, .iload 5, 2), (113, .iconst 3, 1), (114, .if_icmp .ge 23, 3), (117, .aload_n 0, 1), (118, .getfield 134, 3), (121, .iload 5, 2), (123, .aload_n 0, 1), (124, .getfield 37, 3), (127, .iload 5, 2), (129, .iaload, 1), (130, .iastore, 1), (131, .iinc 5 1, 3), (134, .goto (-23), 3), (137, .iinc 2 1, 3), (140, .goto (-106), 3), (143, .iconst 0, 1), (144, .istore_n 2, 1), (145, .iload_n 2, 1), (146, .iconst 3, 1), (147, .if_icmp .ge 21, 3), (150, .aload_n 0, 1), (151, .getfield 37, 3), (154, .iload_n 2, 1), (155, .aload_n 0, 1), (156, .getfield 131, 3), (159, .iload_n 2, 1), (160, .iaload, 1), (161, .iastore, 1), (162, .iinc 2 1, 3), (165, .goto (-20), 3), (168, .return_, 1)]
set_option maxRecDepth 100000 in
theorem am_kt186_0 : ∀ q ∈ (am_t186.drop 0).take 40, decode cX11_fits q.1 = .ok q.2 := by decide +kernel
set_option maxRecDepth 100000 in
theorem am_kt186_1 : ∀ q ∈ (am_t186.drop 40).take 40, decode cX11_fits q.1 = .ok q.2 := by decide +kernel
set_option maxRecDepth 100000 in
theorem am_kt186_2 : ∀ q ∈ (am_t186.drop 80).take 40, decode cX11_fits q.1 = .ok q.2 := by decide +kernel
set_option maxRecDepth 100000 in
theorem am_kt186 : ∀ q ∈ am_t186, decode cX11_fits q.1 = .ok q.2 := by
  intro q hq
  rw [← List.take_append_drop 40 (am_t186)] at hq
  rcases List.mem_append.mp hq with hq | hq
  · exact am_kt186_0 q hq
  rw [← List.take_append_drop 40 ((am_t186.drop 40))] at hq
  rcases List.mem_append.mp hq with hq | hq
  · exact am_kt186_1 q hq
  rw [List.drop_drop] at hq
  exact am_kt186_2 q (by rw [List.take_of_length_le (by decide)]; exact hq)
def am_t187 : List (Nat × Instr × Nat) := [(0, .lconst 0, 1), (1, .lstore_n 2, 1), (2, .iconst 0, 1), (3, .istore 4, 2), (5, .iload 4, 2), (7, .aload_n 0, 1), (8, .getfield 166, 3), (11, .if_icmp .ge 93, 3), (14, .aload_n 0, 1), (15, .iload 4, 2), (17, .bipush 12, 2), (19, .invokevirtual 227, 3), (22, .iconst 0, 1), (23, .istore 5, 2), (25, .iload 5, 2), (27, .aload_n 0, 1), (28, .getfield 235, 3), (31, .if_icmp .ge 67, 3), (34, .aload_n 0, 1), (35, .iload 5, 2), (37, .aload_n 0, 1), (38, .getfield 65, 3), (41, .iload 4, 2), (43, .iaload, 1), (44, .iconst 0, 1), (45, .bipush 100, 2), (47, .invokevirtual 262, 3), (50, .i2l, 1), (51, .aload_n 0, 1), (52, .getfield 62, 3), (55, .iload 4, 2), (57, .iaload, 1), (58, .i2l, 1), (59, .lmul, 1), (60, .ldc2_w 194, 3), (63, .ldiv, 1), (64, .ldc2_w 194, 3), (67, .aload_n 0, 1), (68, .iload 4, 2), (70, .iload 5, 2), (72, .sipush 999, 3), (75, .iload_n 1, 1), (76, .invokevirtual 284, 3), (79, .i2l, 1), (80, .lmul, 1), (81, .lsub, 1), (82, .lstore 6, 2), (84, .lload_n 2, 1), (85, .lload 6, 2), (87, .lload 6, 2), (89, .lmul, 1), (90, .ladd, 1), (91, .lstore_n 2, 1), (92, .iinc 5 1, 3), (95, .goto (-70), 3), (98, .iinc 4 1, 3), (101, .goto (-96), 3), (104, .lload_n 2, 1), (105, .lreturn, 1)]
set_option maxRecDepth 100000 in
theorem am_kt187_0 : ∀ q ∈ (am_t187.drop 0).take 40, decode cX11_missed q.1 = .ok q.2 := by decide +kernel
set_option maxRecDepth 100000 in
theorem am_kt187_1 : ∀ q ∈ (am_t187.drop 40).take 40, decode cX11_missed q.1 = .ok q.2 := by decide +kernel
set_option maxRecDepth 100000 in
theorem am_kt187 : ∀ q ∈ am_t187, decode cX11_missed q.1 = .ok q.2 := by
  intro q hq
  rw [← List.take_append_drop 40 (am_t187)] at hq
  rcases List.mem_append.mp hq with hq | hq
  · exact am_kt187_0 q hq
  exact am_kt187_1 q (by rw [List.take_of_length_le (by decide)]; exact hq)
def am_t188 : List (Nat × Instr × Nat) := [(0, .aload_n 0, 1), (1, .invokevirtual 281, 3), (4, .aload_n 0, 1), (5, .iconst (-1), 1), (6, .invokevirtual 297, 3), (9, .aload_n 0, 1), (10, .getfield 289, 3), (13, .lreturn, 1)]
set_option maxRecDepth 100000 in
theorem am_kt188 : ∀ q ∈ am_t188, decode cX11_misfit q.1 = .ok q.2 := by decide +kernel
def am_t189 : List (Nat × Instr × Nat) := [(0, .aload_n 0, 1), (1, .invokevirtual 281, 3), (4, .aload_n 0, 1), (5, .iconst (-1), 1), (6, .invokevirtual 293, 3), (9, .lreturn, 1)]
set_option maxRecDepth 100000 in
theorem am_kt189 : ∀ q ∈ am_t189, decode cX11_misses q.1 = .ok q.2 := by decide +kernel
def am_t190 : List (Nat × Instr × Nat) := [(0, .iload_n 1, 1), (1, .i2l, 1), (2, .lconst 0, 1), (3, .ldc2_w 178, 3), (6, .invokestatic 158, 3), (9, .ifCond .ne 5, 3), (12, .iconst (-1), 1), (13, .ireturn, 1), (14, .aload_n 0, 1), (15, .invokevirtual 281, 3), (18, .aload_n 0, 1), (19, .iconst (-1), 1), (20, .invokevirtual 297, 3), (23, .aload_n 0, 1), (24, .getfield 134, 3), (27, .iload_n 1, 1), (28, .iaload, 1), (29, .istore_n 2, 1), (30, .iconst 3, 1), (31, .istore_n 3, 1), (32, .iconst 0, 1), (33, .istore 4, 2), (35, .aload_n 0, 1), (36, .getfield 238, 3), (39, .iconst 1, 1), (40, .isub, 1), (41, .istore 5, 2), (43, .iload 5, 2), (45, .ifCond .lt 55, 3), (48, .iload_n 3, 1), (49, .ifCond .le 51, 3), (52, .aload_n 0, 1), (53, .getfield 128, 3), (56, .iload 5, 2), (58, .iaload, 1), (59, .ifCond .ge 6, 3), (62, .goto 32, 3), (65, .iinc 3 (-1), 3), (68, .aload_n 0, 1), (69, .iload 5, 2), (71, .invokevirtual 297, 3), (74, .iload 4, 2), (76, .aload_n 0, 1), (77, .getfield 134, 3), (80, .iload_n 1, 1), (81, .iaload, 1), (82, .iload_n 2, 1), (83, .if_icmp .eq 7, 3), (86, .iconst 1, 1), (87, .goto 4, 3), (90, .iconst 0, 1), (91, .iadd, 1), (92, .istore 4, 2), (94, .iinc 5 (-1), 3), (97, .goto (-54), 3), (100, .iload 4, 2), (102, .ireturn, 1)]
set_option maxRecDepth 100000 in
theorem am_kt190_0 : ∀ q ∈ (am_t190.drop 0).take 40, decode cX11_doubt q.1 = .ok q.2 := by decide +kernel
set_option maxRecDepth 100000 in
theorem am_kt190_1 : ∀ q ∈ (am_t190.drop 40).take 40, decode cX11_doubt q.1 = .ok q.2 := by decide +kernel
set_option maxRecDepth 100000 in
theorem am_kt190 : ∀ q ∈ am_t190, decode cX11_doubt q.1 = .ok q.2 := by
  intro q hq
  rw [← List.take_append_drop 40 (am_t190)] at hq
  rcases List.mem_append.mp hq with hq | hq
  · exact am_kt190_0 q hq
  exact am_kt190_1 q (by rw [List.take_of_length_le (by decide)]; exact hq)
def am_t191 : List (Nat × Instr × Nat) := [(0, .iload_n 3, 1), (1, .i2l, 1), (2, .lconst 0, 1), (3, .ldc2_w 192, 3), (6, .invokestatic 158, 3), (9, .ifCond .eq 28, 3), (12, .iload_n 2, 1), (13, .i2l, 1), (14, .lconst 0, 1), (15, .ldc2_w 190, 3), (18, .invokestatic 158, 3), (21, .ifCond .eq 16, 3), (24, .iload 4, 2), (26, .i2l, 1), (27, .lconst 0, 1), (28, .ldc2_w 178, 3), (31, .invokestatic 158, 3), (34, .ifCond .ne 5, 3), (37, .iconst (-1), 1), (38, .ireturn, 1), (39, .iload_n 1, 1), (40, .i2l, 1), (41, .lconst 0, 1), (42, .ldc2_w 188, 3), (45, .invokestatic 158, 3), (48, .ifCond .eq 8, 3), (51, .iload_n 1, 1), (52, .iconst 2, 1), (53, .if_icmp .ne 6, 3), (56, .bipush (-2), 2), (58, .ireturn, 1), (59, .aload_n 0, 1), (60, .getfield 7, 3), (63, .iload_n 3, 1), (64, .iaload, 1), (65, .ifCond .eq 6, 3), (68, .bipush (-3), 2), (70, .ireturn, 1), (71, .aload_n 0, 1), (72, .iload_n 1, 1), (73, .iload_n 2, 1), (74, .iload_n 3, 1), (75, .iload 4, 2), (77, .iconst (-1), 1), (78, .invokevirtual 301, 3), (81, .iconst 0, 1), (82, .istore 5, 2), (84, .iload 5, 2), (86, .bipush 60, 2), (88, .if_icmp .ge 56, 3), (91, .aload_n 0, 1), (92, .getfield 137, 3), (95, .iload 5, 2), (97, .iconst 0, 1), (98, .iastore, 1), (99, .iconst 0, 1), (100, .istore 6, 2), (102, .iload 6, 2), (104, .bipush 12, 2), (106, .if_icmp .ge 32, 3), (109, .aload_n 0, 1), (110, .getfield 137, 3), (113, .iload 5, 2), (115, .dup2, 1), (116, .iaload, 1), (117, .aload_n 0, 1), (118, .getfield 86, 3), (121, .bipush 60, 2), (123, .iload 6, 2), (125, .imul, 1), (126, .iload 5, 2), (128, .iadd, 1), (129, .iaload, 1), (130, .iadd, 1), (131, .iastore, 1), (132, .iinc 6 1, 3), (135, .goto (-33), 3), (138, .iinc 5 1, 3), (141, .goto (-57), 3), (144, .iconst 0, 1), (145, .istore 5, 2), (147, .iconst 0, 1), (148, .istore 6, 2), (150, .iload 6, 2), (152, .iconst 2, 1), (153, .if_icmp .ge 101, 3), (156, .aload_n 0, 1), (157, .iload_n 1, 1), (158, .iload_n 2, 1), (159, .iload_n 3, 1), (160, .iload 4, 2), (162, .iload 6, 2), (164, .invokevirtual 301, 3), (167, .iconst 0, 1), (168, .istore 7, 2), (170, .iload 7, 2), (172, .bipush 60, 2), (174, .if_icmp .ge 74, 3), (177, .aload_n 0, 1), (178, .getfield 137, 3), (181, .iload 7, 2), (183, .iaload, 1), (184, .ineg, 1), (185, .istore 8, 2), (187, .iconst 0, 1), (188, .istore 9, 2), (190, .iload 9, 2), (192, .bipush 12, 2), (194, .if_icmp .ge 27, 3), (197, .iload 8, 2), (199, .aload_n 0, 1), (200, .getfield 86, 3), (203, .bipush 60, 2), (205, .iload 9, 2), (207, .imul, 1), (208, .iload 7, 2), (210, .iadd, 1), (211, .iaload, 1), (212, .iadd, 1), (213, .istore 8, 2), (215, .iinc 9 1, 3), (218, .goto (-28), 3), (221, .iload 5, 2), (223, .iload 8, 2), (225, .ifCond .ge 9, 3), (228, .iload 8, 2), (230, .ineg, 1), (231, .goto 5, 3), (234, .iload 8, 2), (236, .bipush 10, 2), (238, .idiv, 1), (239, .iadd, 1), (240, .istore 5, 2), (242, .iinc 7 1, 3), (245, .goto (-75), 3), (248, .iinc 6 1, 3), (251, .goto (-101), 3), (254, .iload 5, 2), (256, .ireturn, 1)]
set_option maxRecDepth 100000 in
theorem am_kt191_0 : ∀ q ∈ (am_t191.drop 0).take 40, decode cX11_tells_ q.1 = .ok q.2 := by decide +kernel
set_option maxRecDepth 100000 in
theorem am_kt191_1 : ∀ q ∈ (am_t191.drop 40).take 40, decode cX11_tells_ q.1 = .ok q.2 := by decide +kernel
set_option maxRecDepth 100000 in
theorem am_kt191_2 : ∀ q ∈ (am_t191.drop 80).take 40, decode cX11_tells_ q.1 = .ok q.2 := by decide +kernel
set_option maxRecDepth 100000 in
theorem am_kt191_3 : ∀ q ∈ (am_t191.drop 120).take 40, decode cX11_tells_ q.1 = .ok q.2 := by decide +kernel
set_option maxRecDepth 100000 in
theorem am_kt191 : ∀ q ∈ am_t191, decode cX11_tells_ q.1 = .ok q.2 := by
  intro q hq
  rw [← List.take_append_drop 40 (am_t191)] at hq
  rcases List.mem_append.mp hq with hq | hq
  · exact am_kt191_0 q hq
  rw [← List.take_append_drop 40 ((am_t191.drop 40))] at hq
  rcases List.mem_append.mp hq with hq | hq
  · exact am_kt191_1 q hq
  rw [List.drop_drop] at hq
  rw [← List.take_append_drop 40 ((am_t191.drop 80))] at hq
  rcases List.mem_append.mp hq with hq | hq
  · exact am_kt191_2 q hq
  rw [List.drop_drop] at hq
  exact am_kt191_3 q (by rw [List.take_of_length_le (by decide)]; exact hq)
def am_t192 : List (Nat × Instr × Nat) := [(0, .aload_n 0, 1), (1, .getfield 37, 3), (4, .iload 4, 2), (6, .iaload, 1), (7, .istore 6, 2), (9, .aload_n 0, 1), (10, .getfield 37, 3), (13, .iload 4, 2), (15, .iload 5, 2), (17, .iastore, 1), (18, .aload_n 0, 1), (19, .iload_n 1, 1), (20, .iload_n 2, 1), (21, .iload_n 3, 1), (22, .iconst 0, 1), (23, .bipush 12, 2), (25, .invokevirtual 221, 3), (28, .aload_n 0, 1), (29, .getfield 37, 3), (32, .iload 4, 2), (34, .iload 6, 2), (36, .iastore, 1), (37, .return_, 1)]
set_option maxRecDepth 100000 in
theorem am_kt192 : ∀ q ∈ am_t192, decode cX11_foundAll q.1 = .ok q.2 := by decide +kernel
def am_t193 : List (Nat × Instr × Nat) := [(0, .iload_n 3, 1), (1, .i2l, 1), (2, .lconst 1, 1), (3, .ldc2_w 304, 3), (6, .invokestatic 158, 3), (9, .ifCond .ne 6, 3), (12, .bipush (-2), 2), (14, .ireturn, 1), (15, .aload_n 0, 1), (16, .getfield 306, 3), (19, .iload_n 3, 1), (20, .iadd, 1), (21, .bipush 120, 2), (23, .if_icmp .le 6, 3), (26, .bipush (-4), 2), (28, .ireturn, 1), (29, .iload_n 3, 1), (30, .iconst 1, 1), (31, .isub, 1), (32, .istore 4, 2), (34, .iload 4, 2), (36, .ifCond .lt 40, 3), (39, .aload_n 0, 1), (40, .getfield 140, 3), (43, .aload_n 0, 1), (44, .getfield 306, 3), (47, .lload_n 1, 1), (48, .bipush 8, 2), (50, .iload 4, 2), (52, .imul, 1), (53, .lshr, 1), (54, .ldc2_w 309, 3), (57, .land, 1), (58, .l2i, 1), (59, .iastore, 1), (60, .aload_n 0, 1), (61, .dup, 1), (62, .getfield 306, 3), (65, .iconst 1, 1), (66, .iadd, 1), (67, .putfield 306, 3), (70, .iinc 4 (-1), 3), (73, .goto (-39), 3), (76, .aload_n 0, 1), (77, .getfield 306, 3), (80, .ireturn, 1)]
set_option maxRecDepth 100000 in
theorem am_kt193_0 : ∀ q ∈ (am_t193.drop 0).take 40, decode cX11_feed q.1 = .ok q.2 := by decide +kernel
set_option maxRecDepth 100000 in
theorem am_kt193_1 : ∀ q ∈ (am_t193.drop 40).take 40, decode cX11_feed q.1 = .ok q.2 := by decide +kernel
set_option maxRecDepth 100000 in
theorem am_kt193 : ∀ q ∈ am_t193, decode cX11_feed q.1 = .ok q.2 := by
  intro q hq
  rw [← List.take_append_drop 40 (am_t193)] at hq
  rcases List.mem_append.mp hq with hq | hq
  · exact am_kt193_0 q hq
  exact am_kt193_1 q (by rw [List.take_of_length_le (by decide)]; exact hq)
def am_t194 : List (Nat × Instr × Nat) := [(0, .aload_n 0, 1), (1, .getfield 336, 3), (4, .bipush 8, 2), (6, .if_icmp .ne 6, 3), (9, .bipush (-4), 2), (11, .ireturn, 1), (12, .aload_n 0, 1), (13, .invokevirtual 341, 3), (16, .istore_n 1, 1), (17, .aload_n 0, 1), (18, .iconst 0, 1), (19, .putfield 306, 3), (22, .iload_n 1, 1), (23, .ifCond .ne 11, 3), (26, .bipush (-10), 2), (28, .aload_n 0, 1), (29, .getfield 311, 3), (32, .isub, 1), (33, .ireturn, 1), (34, .aload_n 0, 1), (35, .dup, 1), (36, .getfield 336, 3), (39, .iconst 1, 1), (40, .iadd, 1), (41, .putfield 336, 3), (44, .aload_n 0, 1), (45, .getfield 336, 3), (48, .iconst 1, 1), (49, .isub, 1), (50, .ireturn, 1)]
set_option maxRecDepth 100000 in
theorem am_kt194 : ∀ q ∈ am_t194, decode cX11_prize q.1 = .ok q.2 := by decide +kernel
def am_t195 : List (Nat × Instr × Nat) := [(0, .aload_n 0, 1), (1, .iconst 0, 1), (2, .putfield 311, 3), (5, .aload_n 0, 1), (6, .iconst 0, 1), (7, .iconst 0, 1), (8, .invokevirtual 330, 3), (11, .ifCond .lt 19, 3), (14, .aload_n 0, 1), (15, .bipush 32, 2), (17, .invokevirtual 327, 3), (20, .ifCond .eq 10, 3), (23, .aload_n 0, 1), (24, .invokevirtual 333, 3), (27, .ifCond .ne 5, 3), (30, .iconst 0, 1), (31, .ireturn, 1), (32, .aload_n 0, 1), (33, .getfield 143, 3), (36, .aload_n 0, 1), (37, .getfield 336, 3), (40, .aload_n 0, 1), (41, .getfield 324, 3), (44, .iastore, 1), (45, .aload_n 0, 1), (46, .getfield 146, 3), (49, .aload_n 0, 1), (50, .getfield 336, 3), (53, .iconst 0, 1), (54, .iastore, 1), (55, .aload_n 0, 1), (56, .getfield 311, 3), (59, .aload_n 0, 1), (60, .getfield 306, 3), (63, .if_icmp .ne 5, 3), (66, .iconst 1, 1), (67, .ireturn, 1), (68, .aload_n 0, 1), (69, .bipush 32, 2), (71, .invokevirtual 327, 3), (74, .ifCond .eq 21, 3), (77, .aload_n 0, 1), (78, .iconst 1, 1), (79, .iconst 1, 1), (80, .invokevirtual 330, 3), (83, .ifCond .lt 12, 3), (86, .aload_n 0, 1), (87, .bipush 32, 2), (89, .invokevirtual 327, 3), (92, .ifCond .ne 5, 3), (95, .iconst 0, 1), (96, .ireturn, 1), (97, .aload_n 0, 1), (98, .bipush 12, 2), (100, .aload_n 0, 1), (101, .getfield 336, 3), (104, .imul, 1), (105, .iconst 4, 1), (106, .aload_n 0, 1), (107, .getfield 146, 3), (110, .aload_n 0, 1), (111, .getfield 336, 3), (114, .iaload, 1), (115, .imul, 1), (116, .iadd, 1), (117, .invokevirtual 339, 3), (120, .ifCond .ne 5, 3), (123, .iconst 0, 1), (124, .ireturn, 1), (125, .aload_n 0, 1), (126, .getfield 146, 3), (129, .aload_n 0, 1), (130, .getfield 336, 3), (133, .dup2, 1), (134, .iaload, 1), (135, .iconst 1, 1), (136, .iadd, 1), (137, .iastore, 1), (138, .aload_n 0, 1), (139, .getfield 311, 3), (142, .aload_n 0, 1), (143, .getfield 306, 3), (146, .if_icmp .ne 5, 3), (149, .iconst 1, 1), (150, .ireturn, 1), (151, .aload_n 0, 1), (152, .getfield 146, 3), (155, .aload_n 0, 1), (156, .getfield 336, 3), (159, .iaload, 1), (160, .iconst 3, 1), (161, .if_icmp .eq 12, 3), (164, .aload_n 0, 1), (165, .bipush 38, 2), (167, .invokevirtual 327, 3), (170, .ifCond .ne (-73), 3), (173, .iconst 0, 1), (174, .ireturn, 1)]
set_option maxRecDepth 100000 in
theorem am_kt195_0 : ∀ q ∈ (am_t195.drop 0).take 40, decode cX11_parses q.1 = .ok q.2 := by decide +kernel
set_option maxRecDepth 100000 in
theorem am_kt195_1 : ∀ q ∈ (am_t195.drop 40).take 40, decode cX11_parses q.1 = .ok q.2 := by decide +kernel
set_option maxRecDepth 100000 in
theorem am_kt195_2 : ∀ q ∈ (am_t195.drop 80).take 40, decode cX11_parses q.1 = .ok q.2 := by decide +kernel
set_option maxRecDepth 100000 in
theorem am_kt195 : ∀ q ∈ am_t195, decode cX11_parses q.1 = .ok q.2 := by
  intro q hq
  rw [← List.take_append_drop 40 (am_t195)] at hq
  rcases List.mem_append.mp hq with hq | hq
  · exact am_kt195_0 q hq
  rw [← List.take_append_drop 40 ((am_t195.drop 40))] at hq
  rcases List.mem_append.mp hq with hq | hq
  · exact am_kt195_1 q hq
  rw [List.drop_drop] at hq
  exact am_kt195_2 q (by rw [List.take_of_length_le (by decide)]; exact hq)
def am_t196 : List (Nat × Instr × Nat) := [(0, .iload_n 1, 1), (1, .istore_n 3, 1), (2, .iload_n 3, 1), (3, .iload_n 2, 1), (4, .if_icmp .gt 80, 3), (7, .iload_n 3, 1), (8, .iconst 0, 1), (9, .invokestatic 314, 3), (12, .aload_n 0, 1), (13, .invokevirtual 317, 3), (16, .if_icmp .eq 6, 3), (19, .goto 59, 3), (22, .iconst 0, 1), (23, .istore 4, 2), (25, .iload_n 3, 1), (26, .iload 4, 2), (28, .invokestatic 314, 3), (31, .ifCond .eq 32, 3), (34, .iload_n 3, 1), (35, .iload 4, 2), (37, .invokestatic 314, 3), (40, .aload_n 0, 1), (41, .invokevirtual 317, 3), (44, .if_icmp .ne 19, 3), (47, .iinc 4 1, 3), (50, .aload_n 0, 1), (51, .dup, 1), (52, .getfield 311, 3), (55, .iconst 1, 1), (56, .iadd, 1), (57, .putfield 311, 3), (60, .goto (-35), 3), (63, .iload_n 3, 1), (64, .iload 4, 2), (66, .invokestatic 314, 3), (69, .ifCond .ne 7, 3), (72, .iload_n 3, 1), (73, .goto 4, 3), (76, .iconst (-1), 1), (77, .ireturn, 1), (78, .iinc 3 1, 3), (81, .goto (-79), 3), (84, .iconst (-1), 1), (85, .ireturn, 1)]
set_option maxRecDepth 100000 in
theorem am_kt196_0 : ∀ q ∈ (am_t196.drop 0).take 40, decode cX11_word q.1 = .ok q.2 := by decide +kernel
set_option maxRecDepth 100000 in
theorem am_kt196_1 : ∀ q ∈ (am_t196.drop 40).take 40, decode cX11_word q.1 = .ok q.2 := by decide +kernel
set_option maxRecDepth 100000 in
theorem am_kt196 : ∀ q ∈ am_t196, decode cX11_word q.1 = .ok q.2 := by
  intro q hq
  rw [← List.take_append_drop 40 (am_t196)] at hq
  rcases List.mem_append.mp hq with hq | hq
  · exact am_kt196_0 q hq
  exact am_kt196_1 q (by rw [List.take_of_length_le (by decide)]; exact hq)
def am_t197 : List (Nat × Instr × Nat) := [(0, .iload_n 0, 1), (1, .tableswitch 305 0 5 #[39, 90, 111, 172, 203, 244], 39), (40, .iload_n 1, 1), (41, .ifCond .ne 8, 3), (44, .bipush 112, 2), (46, .goto 44, 3), (49, .iload_n 1, 1), (50, .iconst 1, 1), (51, .if_icmp .ne 8, 3), (54, .bipush 114, 2), (56, .goto 34, 3), (59, .iload_n 1, 1), (60, .iconst 2, 1), (61, .if_icmp .ne 8, 3), (64, .bipush 105, 2), (66, .goto 24, 3), (69, .iload_n 1, 1), (70, .iconst 3, 1), (71, .if_icmp .ne 8, 3), (74, .bipush 122, 2), (76, .goto 14, 3), (79, .iload_n 1, 1), (80, .iconst 4, 1), (81, .if_icmp .ne 8, 3), (84, .bipush 101, 2), (86, .goto 4, 3), (89, .iconst 0, 1), (90, .ireturn, 1), (91, .iload_n 1, 1), (92, .ifCond .ne 8, 3), (95, .bipush 105, 2), (97, .goto 14, 3), (100, .iload_n 1, 1), (101, .iconst 1, 1), (102, .if_icmp .ne 8, 3), (105, .bipush 102, 2), (107, .goto 4, 3), (110, .iconst 0, 1), (111, .ireturn, 1), (112, .iload_n 1, 1), (113, .ifCond .ne 8, 3), (116, .bipush 109, 2), (118, .goto 54, 3), (121, .iload_n 1, 1), (122, .iconst 1, 1), (123, .if_icmp .ne 8, 3), (126, .bipush 111, 2), (128, .goto 44, 3), (131, .iload_n 1, 1), (132, .iconst 2, 1), (133, .if_icmp .ne 8, 3), (136, .bipush 110, 2), (138, .goto 34, 3), (141, .iload_n 1, 1), (142, .iconst 3, 1), (143, .if_icmp .ne 8, 3), (146, .bipush 116, 2), (148, .goto 24, 3), (151, .iload_n 1, 1), (152, .iconst 4, 1), (153, .if_icmp .ne 8, 3), (156, .bipush 104, 2), (158, .goto 14, 3), (161, .iload_n 1, 1), (162, .iconst 5, 1), (163, .if_icmp .ne 8, 3), (166, .bipush 115, 2), (168, .goto 4, 3), (171, .iconst 0, 1), (172, .ireturn, 1), (173, .iload_n 1, 1), (174, .ifCond .ne 8, 3), (177, .bipush 102, 2), (179, .goto 24, 3), (182, .iload_n 1, 1), (183, .iconst 1, 1), (184, .if_icmp .ne 8, 3), (187, .bipush 97, 2), (189, .goto 14, 3), (192, .iload_n 1, 1), (193, .iconst 2, 1), (194, .if_icmp .ne 8, 3), (197, .bipush 114, 2), (199, .goto 4, 3), (202, .iconst 0, 1), (203, .ireturn, 1), (204, .iload_n 1, 1), (205, .ifCond .ne 8, 3), (208, .bipush 107, 2), (210, .goto 34, 3), (213, .iload_n 1, 1), (214, .iconst 1, 1), (215, .if_icmp .ne 8, 3), (218, .bipush 105, 2), (220, .goto 24, 3), (223, .iload_n 1, 1), (224, .iconst 2, 1), (225, .if_icmp .ne 8, 3), (228, .bipush 110, 2), (230, .goto 14, 3), (233, .iload_n 1, 1), (234, .iconst 3, 1), (235, .if_icmp .ne 8, 3), (238, .bipush 100, 2), (240, .goto 4, 3), (243, .iconst 0, 1), (244, .ireturn, 1), (245, .iload_n 1, 1), (246, .ifCond .ne 8, 3), (249, .bipush 116, 2), (251, .goto 54, 3), (254, .iload_n 1, 1), (255, .iconst 1, 1), (256, .if_icmp .ne 8, 3), (259, .bipush 111, 2), (261, .goto 44, 3), (264, .iload_n 1, 1), (265, .iconst 2, 1), (266, .if_icmp .ne 8, 3), (269, .bipush 110, 2), (271, .goto 34, 3), (274, .iload_n 1, 1), (275, .iconst 3, 1), (276, .if_icmp .ne 8, 3), (279, .bipush 103, 2), (281, .goto 24, 3), (284, .iload_n 1, 1), (285, .iconst 4, 1), (286, .if_icmp .ne 8, 3), (289, .bipush 117, 2), (291, .goto 14, 3), (294, .iload_n 1, 1), (295, .iconst 5, 1), (296, .if_icmp .ne 8, 3), (299, .bipush 101, 2), (301, .goto 4, 3), (304, .iconst 0, 1), (305, .ireturn, 1), (306, .iload_n 1, 1), (307, .ifCond .ne 8, 3), (310, .bipush 119, 2), (312, .goto 54, 3), (315, .iload_n 1, 1), (316, .iconst 1, 1), (317, .if_icmp .ne 8, 3), (320, .bipush 101, 2), (322, .goto 44, 3), (325, .iload_n 1, 1), (326, .iconst 2, 1), (327, .if_icmp .ne 8, 3), (330, .bipush 105, 2), (332, .goto 34, 3), (335, .iload_n 1, 1), (336, .iconst 3, 1), (337, .if_icmp .ne 8, 3), (340, .bipush 103, 2), (342, .goto 24, 3), (345, .iload_n 1, 1), (346, .iconst 4, 1), (347, .if_icmp .ne 8, 3), (350, .bipush 104, 2), (352, .goto 14, 3), (355, .iload_n 1, 1), (356, .iconst 5, 1), (357, .if_icmp .ne 8, 3), (360, .bipush 116, 2), (362, .goto 4, 3), (365, .iconst 0, 1), (366, .ireturn, 1)]
set_option maxRecDepth 100000 in
theorem am_kt197_0 : ∀ q ∈ (am_t197.drop 0).take 40, decode cX11_signOf q.1 = .ok q.2 := by decide +kernel
set_option maxRecDepth 100000 in
theorem am_kt197_1 : ∀ q ∈ (am_t197.drop 40).take 40, decode cX11_signOf q.1 = .ok q.2 := by decide +kernel
set_option maxRecDepth 100000 in
theorem am_kt197_2 : ∀ q ∈ (am_t197.drop 80).take 40, decode cX11_signOf q.1 = .ok q.2 := by decide +kernel
set_option maxRecDepth 100000 in
theorem am_kt197_3 : ∀ q ∈ (am_t197.drop 120).take 40, decode cX11_signOf q.1 = .ok q.2 := by decide +kernel
set_option maxRecDepth 100000 in
theorem am_kt197_4 : ∀ q ∈ (am_t197.drop 160).take 40, decode cX11_signOf q.1 = .ok q.2 := by decide +kernel
set_option maxRecDepth 100000 in
theorem am_kt197 : ∀ q ∈ am_t197, decode cX11_signOf q.1 = .ok q.2 := by
  intro q hq
  rw [← List.take_append_drop 40 (am_t197)] at hq
  rcases List.mem_append.mp hq with hq | hq
  · exact am_kt197_0 q hq
  rw [← List.take_append_drop 40 ((am_t197.drop 40))] at hq
  rcases List.mem_append.mp hq with hq | hq
  · exact am_kt197_1 q hq
  rw [List.drop_drop] at hq
  rw [← List.take_append_drop 40 ((am_t197.drop 80))] at hq
  rcases List.mem_append.mp hq with hq | hq
  · exact am_kt197_2 q hq
  rw [List.drop_drop] at hq
  rw [← List.take_append_drop 40 ((am_t197.drop 120))] at hq
  rcases List.mem_append.mp hq with hq | hq
  · exact am_kt197_3 q hq
  rw [List.drop_drop] at hq
  exact am_kt197_4 q (by rw [List.take_of_length_le (by decide)]; exact hq)
def am_t198 : List (Nat × Instr × Nat) := [(0, .aload_n 0, 1), (1, .getfield 311, 3), (4, .aload_n 0, 1), (5, .getfield 306, 3), (8, .if_icmp .ge 15, 3), (11, .aload_n 0, 1), (12, .getfield 140, 3), (15, .aload_n 0, 1), (16, .getfield 311, 3), (19, .iaload, 1), (20, .goto 4, 3), (23, .iconst (-1), 1), (24, .ireturn, 1)]
set_option maxRecDepth 100000 in
theorem am_kt198 : ∀ q ∈ am_t198, decode cX11_sign q.1 = .ok q.2 := by decide +kernel
def am_t199 : List (Nat × Instr × Nat) := [(0, .aload_n 0, 1), (1, .invokevirtual 317, 3), (4, .iload_n 1, 1), (5, .if_icmp .eq 5, 3), (8, .iconst 0, 1), (9, .ireturn, 1), (10, .aload_n 0, 1), (11, .dup, 1), (12, .getfield 311, 3), (15, .iconst 1, 1), (16, .iadd, 1), (17, .putfield 311, 3), (20, .iconst 1, 1), (21, .ireturn, 1)]
set_option maxRecDepth 100000 in
theorem am_kt199 : ∀ q ∈ am_t199, decode cX11_takes q.1 = .ok q.2 := by decide +kernel
def am_t200 : List (Nat × Instr × Nat) := [(0, .aload_n 0, 1), (1, .invokevirtual 317, 3), (4, .invokestatic 321, 3), (7, .ifCond .ne 5, 3), (10, .iconst 0, 1), (11, .ireturn, 1), (12, .aload_n 0, 1), (13, .iconst 0, 1), (14, .putfield 324, 3), (17, .iconst 0, 1), (18, .istore_n 1, 1), (19, .iload_n 1, 1), (20, .iconst 4, 1), (21, .if_icmp .ge 48, 3), (24, .aload_n 0, 1), (25, .invokevirtual 317, 3), (28, .invokestatic 321, 3), (31, .ifCond .eq 38, 3), (34, .aload_n 0, 1), (35, .bipush 10, 2), (37, .aload_n 0, 1), (38, .getfield 324, 3), (41, .imul, 1), (42, .aload_n 0, 1), (43, .invokevirtual 317, 3), (46, .iadd, 1), (47, .bipush 48, 2), (49, .isub, 1), (50, .putfield 324, 3), (53, .aload_n 0, 1), (54, .dup, 1), (55, .getfield 311, 3), (58, .iconst 1, 1), (59, .iadd, 1), (60, .putfield 311, 3), (63, .iinc 1 1, 3), (66, .goto (-47), 3), (69, .iconst 1, 1), (70, .ireturn, 1)]
set_option maxRecDepth 100000 in
theorem am_kt200 : ∀ q ∈ am_t200, decode cX11_number q.1 = .ok q.2 := by decide +kernel
def am_t201 : List (Nat × Instr × Nat) := [(0, .iload_n 0, 1), (1, .bipush 48, 2), (3, .if_icmp .lt 13, 3), (6, .iload_n 0, 1), (7, .bipush 57, 2), (9, .if_icmp .gt 7, 3), (12, .iconst 1, 1), (13, .goto 4, 3), (16, .iconst 0, 1), (17, .ireturn, 1)]
set_option maxRecDepth 100000 in
theorem am_kt201 : ∀ q ∈ am_t201, decode cX11_isDigit q.1 = .ok q.2 := by decide +kernel
def am_t202 : List (Nat × Instr × Nat) := [(0, .aload_n 0, 1), (1, .bipush 33, 2), (3, .invokevirtual 327, 3), (6, .istore_n 2, 1), (7, .aload_n 0, 1), (8, .iconst 2, 1), (9, .bipush 6, 2), (11, .invokevirtual 330, 3), (14, .istore_n 3, 1), (15, .iload_n 3, 1), (16, .ifCond .ge 5, 3), (19, .iconst 0, 1), (20, .ireturn, 1), (21, .aload_n 0, 1), (22, .invokevirtual 317, 3), (25, .istore 4, 2), (27, .iload 4, 2), (29, .bipush 61, 2), (31, .if_icmp .eq 19, 3), (34, .iload 4, 2), (36, .bipush 60, 2), (38, .if_icmp .eq 12, 3), (41, .iload 4, 2), (43, .bipush 62, 2), (45, .if_icmp .eq 5, 3), (48, .iconst 0, 1), (49, .ireturn, 1), (50, .aload_n 0, 1), (51, .dup, 1), (52, .getfield 311, 3), (55, .iconst 1, 1), (56, .iadd, 1), (57, .putfield 311, 3), (60, .aload_n 0, 1), (61, .invokevirtual 333, 3), (64, .ifCond .ne 5, 3), (67, .iconst 0, 1), (68, .ireturn, 1), (69, .aload_n 0, 1), (70, .getfield 149, 3), (73, .iload_n 1, 1), (74, .iload_n 2, 1), (75, .ifCond .eq 7, 3), (78, .iconst 1, 1), (79, .goto 4, 3), (82, .iconst 0, 1), (83, .iastore, 1), (84, .aload_n 0, 1), (85, .getfield 149, 3), (88, .iload_n 1, 1), (89, .iconst 1, 1), (90, .iadd, 1), (91, .iload_n 3, 1), (92, .iconst 2, 1), (93, .isub, 1), (94, .iastore, 1), (95, .aload_n 0, 1), (96, .getfield 149, 3), (99, .iload_n 1, 1), (100, .iconst 2, 1), (101, .iadd, 1), (102, .iload 4, 2), (104, .iastore, 1), (105, .aload_n 0, 1), (106, .getfield 149, 3), (109, .iload_n 1, 1), (110, .iconst 3, 1), (111, .iadd, 1), (112, .aload_n 0, 1), (113, .getfield 324, 3), (116, .iastore, 1), (117, .iconst 1, 1), (118, .ireturn, 1)]
set_option maxRecDepth 100000 in
theorem am_kt202_0 : ∀ q ∈ (am_t202.drop 0).take 40, decode cX11_test q.1 = .ok q.2 := by decide +kernel
set_option maxRecDepth 100000 in
theorem am_kt202_1 : ∀ q ∈ (am_t202.drop 40).take 40, decode cX11_test q.1 = .ok q.2 := by decide +kernel
set_option maxRecDepth 100000 in
theorem am_kt202 : ∀ q ∈ am_t202, decode cX11_test q.1 = .ok q.2 := by
  intro q hq
  rw [← List.take_append_drop 40 (am_t202)] at hq
  rcases List.mem_append.mp hq with hq | hq
  · exact am_kt202_0 q hq
  exact am_kt202_1 q (by rw [List.take_of_length_le (by decide)]; exact hq)
def am_t203 : List (Nat × Instr × Nat) := [(0, .aload_n 0, 1), (1, .iload_n 1, 1), (2, .invokevirtual 256, 3), (5, .ifCond .eq 11, 3), (8, .aload_n 0, 1), (9, .iload_n 1, 1), (10, .invokevirtual 351, 3), (13, .goto 4, 3), (16, .iconst (-1), 1), (17, .ireturn, 1)]
set_option maxRecDepth 100000 in
theorem am_kt203 : ∀ q ∈ am_t203, decode cX11_pays q.1 = .ok q.2 := by decide +kernel
def am_t204 : List (Nat × Instr × Nat) := [(0, .aload_n 0, 1), (1, .getfield 125, 3), (4, .iload_n 1, 1), (5, .baload, 1), (6, .ifCond .ne 11, 3), (9, .aload_n 0, 1), (10, .iload_n 1, 1), (11, .invokevirtual 278, 3), (14, .ifCond .lt 7, 3), (17, .iconst (-1), 1), (18, .goto 8, 3), (21, .aload_n 0, 1), (22, .iload_n 1, 1), (23, .invokevirtual 272, 3), (26, .istore_n 2, 1), (27, .iconst 0, 1), (28, .istore_n 3, 1), (29, .iconst 0, 1), (30, .istore 4, 2), (32, .iload 4, 2), (34, .aload_n 0, 1), (35, .getfield 336, 3), (38, .if_icmp .ge 211, 3), (41, .iload_n 2, 1), (42, .ifCond .lt 207, 3), (45, .iconst 1, 1), (46, .istore 5, 2), (48, .bipush 12, 2), (50, .iload 4, 2), (52, .imul, 1), (53, .istore 6, 2), (55, .iload 6, 2), (57, .bipush 12, 2), (59, .iload 4, 2), (61, .imul, 1), (62, .iconst 4, 1), (63, .aload_n 0, 1), (64, .getfield 146, 3), (67, .iload 4, 2), (69, .iaload, 1), (70, .imul, 1), (71, .iadd, 1), (72, .if_icmp .ge 152, 3), (75, .aload_n 0, 1), (76, .aload_n 0, 1), (77, .getfield 149, 3), (80, .iload 6, 2), (82, .iconst 1, 1), (83, .iadd, 1), (84, .iaload, 1), (85, .iload_n 1, 1), (86, .iload_n 2, 1), (87, .invokevirtual 348, 3), (90, .istore 7, 2), (92, .aload_n 0, 1), (93, .getfield 149, 3), (96, .iload 6, 2), (98, .iconst 2, 1), (99, .iadd, 1), (100, .iaload, 1), (101, .bipush 61, 2), (103, .if_icmp .ne 25, 3), (106, .iload 7, 2), (108, .aload_n 0, 1), (109, .getfield 149, 3), (112, .iload 6, 2), (114, .iconst 3, 1), (115, .iadd, 1), (116, .iaload, 1), (117, .if_icmp .ne 7, 3), (120, .iconst 1, 1), (121, .goto 62, 3), (124, .iconst 0, 1), (125, .goto 58, 3), (128, .aload_n 0, 1), (129, .getfield 149, 3), (132, .iload 6, 2), (134, .iconst 2, 1), (135, .iadd, 1), (136, .iaload, 1), (137, .bipush 60, 2), (139, .if_icmp .ne 25, 3), (142, .iload 7, 2), (144, .aload_n 0, 1), (145, .getfield 149, 3), (148, .iload 6, 2), (150, .iconst 3, 1), (151, .iadd, 1), (152, .iaload, 1), (153, .if_icmp .ge 7, 3), (156, .iconst 1, 1), (157, .goto 26, 3), (160, .iconst 0, 1), (161, .goto 22, 3), (164, .iload 7, 2), (166, .aload_n 0, 1), (167, .getfield 149, 3), (170, .iload 6, 2), (172, .iconst 3, 1), (173, .iadd, 1), (174, .iaload, 1), (175, .if_icmp .le 7, 3), (178, .iconst 1, 1), (179, .goto 4, 3), (182, .iconst 0, 1), (183, .istore 8, 2), (185, .iload 5, 2), (187, .ifCond .eq 28, 3), (190, .iload 8, 2), (192, .aload_n 0, 1), (193, .getfield 149, 3), (196, .iload 6, 2), (198, .iaload, 1), (199, .iconst 1, 1), (200, .if_icmp .ne 7, 3), (203, .iconst 1, 1), (204, .goto 4, 3), (207, .iconst 0, 1), (208, .if_icmp .eq 7, 3), (211, .iconst 1, 1), (212, .goto 4, 3), (215, .iconst 0, 1), (216, .istore 5, 2), (218, .iinc 6 4, 3), (221, .goto (-166), 3), (224, .iload_n 3, 1), (225, .iload 5, 2), (227, .ifCond .eq 13, 3), (230, .aload_n 0, 1), (231, .getfield 143, 3), (234, .iload 4, 2), (236, .iaload, 1), (237, .goto 4, 3), (240, .iconst 0, 1), (241, .iadd, 1), (242, .istore_n 3, 1), (243, .iinc 4 1, 3), (246, .goto (-214), 3), (249, .iload_n 3, 1), (250, .ireturn, 1)]
set_option maxRecDepth 100000 in
theorem am_kt204_0 : ∀ q ∈ (am_t204.drop 0).take 40, decode cX11_paid q.1 = .ok q.2 := by decide +kernel
set_option maxRecDepth 100000 in
theorem am_kt204_1 : ∀ q ∈ (am_t204.drop 40).take 40, decode cX11_paid q.1 = .ok q.2 := by decide +kernel
set_option maxRecDepth 100000 in
theorem am_kt204_2 : ∀ q ∈ (am_t204.drop 80).take 40, decode cX11_paid q.1 = .ok q.2 := by decide +kernel
set_option maxRecDepth 100000 in
theorem am_kt204_3 : ∀ q ∈ (am_t204.drop 120).take 40, decode cX11_paid q.1 = .ok q.2 := by decide +kernel
set_option maxRecDepth 100000 in
theorem am_kt204 : ∀ q ∈ am_t204, decode cX11_paid q.1 = .ok q.2 := by
  intro q hq
  rw [← List.take_append_drop 40 (am_t204)] at hq
  rcases List.mem_append.mp hq with hq | hq
  · exact am_kt204_0 q hq
  rw [← List.take_append_drop 40 ((am_t204.drop 40))] at hq
  rcases List.mem_append.mp hq with hq | hq
  · exact am_kt204_1 q hq
  rw [List.drop_drop] at hq
  rw [← List.take_append_drop 40 ((am_t204.drop 80))] at hq
  rcases List.mem_append.mp hq with hq | hq
  · exact am_kt204_2 q hq
  rw [List.drop_drop] at hq
  exact am_kt204_3 q (by rw [List.take_of_length_le (by decide)]; exact hq)
def am_t205 : List (Nat × Instr × Nat) := [(0, .aload_n 0, 1), (1, .getfield 113, 3), (4, .iload_n 2, 1), (5, .iaload, 1), (6, .istore 4, 2), (8, .iload_n 1, 1), (9, .tableswitch 133 0 3 #[31, 64, 118, 125], 31), (40, .aload_n 0, 1), (41, .getfield 116, 3), (44, .iload_n 2, 1), (45, .iaload, 1), (46, .aload_n 0, 1), (47, .getfield 65, 3), (50, .iload_n 3, 1), (51, .iaload, 1), (52, .if_icmp .le 19, 3), (55, .aload_n 0, 1), (56, .getfield 116, 3), (59, .iload_n 2, 1), (60, .iaload, 1), (61, .aload_n 0, 1), (62, .getfield 65, 3), (65, .iload_n 3, 1), (66, .iaload, 1), (67, .isub, 1), (68, .goto 4, 3), (71, .iconst 0, 1), (72, .ireturn, 1), (73, .aload_n 0, 1), (74, .getfield 68, 3), (77, .iload_n 3, 1), (78, .iaload, 1), (79, .bipush 6, 2), (81, .idiv, 1), (82, .aload_n 0, 1), (83, .getfield 92, 3), (86, .iload 4, 2), (88, .iaload, 1), (89, .aload_n 0, 1), (90, .getfield 95, 3), (93, .iload 4, 2), (95, .iaload, 1), (96, .invokestatic 344, 3), (99, .aload_n 0, 1), (100, .getfield 68, 3), (103, .iload_n 3, 1), (104, .iaload, 1), (105, .bipush 6, 2), (107, .irem, 1), (108, .aload_n 0, 1), (109, .getfield 98, 3), (112, .iload 4, 2), (114, .iaload, 1), (115, .aload_n 0, 1), (116, .getfield 101, 3), (119, .iload 4, 2), (121, .iaload, 1), (122, .invokestatic 344, 3), (125, .iadd, 1), (126, .ireturn, 1), (127, .aload_n 0, 1), (128, .getfield 56, 3), (131, .iload_n 3, 1), (132, .iaload, 1), (133, .ireturn, 1), (134, .aload_n 0, 1), (135, .getfield 104, 3), (138, .iload 4, 2), (140, .iaload, 1), (141, .ireturn, 1), (142, .aload_n 0, 1), (143, .iload_n 2, 1), (144, .iload_n 3, 1), (145, .invokevirtual 266, 3), (148, .sipush 1000, 3), (151, .idiv, 1), (152, .ireturn, 1)]
set_option maxRecDepth 100000 in
theorem am_kt205_0 : ∀ q ∈ (am_t205.drop 0).take 40, decode cX11_field q.1 = .ok q.2 := by decide +kernel
set_option maxRecDepth 100000 in
theorem am_kt205_1 : ∀ q ∈ (am_t205.drop 40).take 40, decode cX11_field q.1 = .ok q.2 := by decide +kernel
set_option maxRecDepth 100000 in
theorem am_kt205 : ∀ q ∈ am_t205, decode cX11_field q.1 = .ok q.2 := by
  intro q hq
  rw [← List.take_append_drop 40 (am_t205)] at hq
  rcases List.mem_append.mp hq with hq | hq
  · exact am_kt205_0 q hq
  exact am_kt205_1 q (by rw [List.take_of_length_le (by decide)]; exact hq)
def am_t206 : List (Nat × Instr × Nat) := [(0, .iload_n 0, 1), (1, .iload_n 1, 1), (2, .if_icmp .ge 9, 3), (5, .iload_n 1, 1), (6, .iload_n 0, 1), (7, .isub, 1), (8, .goto 15, 3), (11, .iload_n 0, 1), (12, .iload_n 2, 1), (13, .if_icmp .le 9, 3), (16, .iload_n 0, 1), (17, .iload_n 2, 1), (18, .isub, 1), (19, .goto 4, 3), (22, .iconst 0, 1), (23, .ireturn, 1)]
set_option maxRecDepth 100000 in
theorem am_kt206 : ∀ q ∈ am_t206, decode cX11_beyond q.1 = .ok q.2 := by decide +kernel
def am_t207 : List (Nat × Instr × Nat) := [(0, .iload_n 1, 1), (1, .i2l, 1), (2, .lconst 0, 1), (3, .ldc2_w 254, 3), (6, .invokestatic 158, 3), (9, .ifCond .ne 6, 3), (12, .bipush (-2), 2), (14, .ireturn, 1), (15, .iconst 0, 1), (16, .istore_n 2, 1), (17, .iconst 0, 1), (18, .istore_n 3, 1), (19, .iload_n 3, 1), (20, .aload_n 0, 1), (21, .getfield 238, 3), (24, .if_icmp .ge 31, 3), (27, .iload_n 2, 1), (28, .aload_n 0, 1), (29, .getfield 122, 3), (32, .iload_n 3, 1), (33, .iaload, 1), (34, .iload_n 1, 1), (35, .if_icmp .gt 11, 3), (38, .aload_n 0, 1), (39, .iload_n 3, 1), (40, .invokevirtual 351, 3), (43, .goto 4, 3), (46, .iconst 0, 1), (47, .iadd, 1), (48, .istore_n 2, 1), (49, .iinc 3 1, 3), (52, .goto (-33), 3), (55, .iload_n 2, 1), (56, .ireturn, 1)]
set_option maxRecDepth 100000 in
theorem am_kt207 : ∀ q ∈ am_t207, decode cX11_purse q.1 = .ok q.2 := by decide +kernel
def am_t208 : List (Nat × Instr × Nat) := [(0, .iload_n 1, 1), (1, .i2l, 1), (2, .lconst 0, 1), (3, .ldc2_w 225, 3), (6, .invokestatic 158, 3), (9, .ifCond .ne 5, 3), (12, .iconst (-1), 1), (13, .ireturn, 1), (14, .iload_n 2, 1), (15, .i2l, 1), (16, .lconst 0, 1), (17, .ldc2_w 254, 3), (20, .invokestatic 158, 3), (23, .ifCond .ne 6, 3), (26, .bipush (-2), 2), (28, .ireturn, 1), (29, .iconst 0, 1), (30, .istore_n 3, 1), (31, .iconst 0, 1), (32, .istore 4, 2), (34, .iload 4, 2), (36, .aload_n 0, 1), (37, .getfield 238, 3), (40, .if_icmp .ge 54, 3), (43, .iload_n 3, 1), (44, .aload_n 0, 1), (45, .getfield 122, 3), (48, .iload 4, 2), (50, .iaload, 1), (51, .iload_n 2, 1), (52, .if_icmp .gt 33, 3), (55, .aload_n 0, 1), (56, .getfield 125, 3), (59, .iload 4, 2), (61, .baload, 1), (62, .ifCond .ne 23, 3), (65, .aload_n 0, 1), (66, .getfield 104, 3), (69, .aload_n 0, 1), (70, .getfield 113, 3), (73, .iload 4, 2), (75, .iaload, 1), (76, .iaload, 1), (77, .iload_n 1, 1), (78, .if_icmp .ne 7, 3), (81, .iconst 1, 1), (82, .goto 4, 3), (85, .iconst 0, 1), (86, .iadd, 1), (87, .istore_n 3, 1), (88, .iinc 4 1, 3), (91, .goto (-57), 3), (94, .iload_n 3, 1), (95, .ireturn, 1)]
set_option maxRecDepth 100000 in
theorem am_kt208_0 : ∀ q ∈ (am_t208.drop 0).take 40, decode cX11_letters q.1 = .ok q.2 := by decide +kernel
set_option maxRecDepth 100000 in
theorem am_kt208_1 : ∀ q ∈ (am_t208.drop 40).take 40, decode cX11_letters q.1 = .ok q.2 := by decide +kernel
set_option maxRecDepth 100000 in
theorem am_kt208 : ∀ q ∈ am_t208, decode cX11_letters q.1 = .ok q.2 := by
  intro q hq
  rw [← List.take_append_drop 40 (am_t208)] at hq
  rcases List.mem_append.mp hq with hq | hq
  · exact am_kt208_0 q hq
  exact am_kt208_1 q (by rw [List.take_of_length_le (by decide)]; exact hq)
def am_t209 : List (Nat × Instr × Nat) := [(0, .iconst 0, 1), (1, .istore_n 2, 1), (2, .iload_n 1, 1), (3, .tableswitch 137 0 7 #[45, 50, 55, 60, 65, 70, 75, 102], 45), (48, .aload_n 0, 1), (49, .getfield 166, 3), (52, .ireturn, 1), (53, .aload_n 0, 1), (54, .getfield 235, 3), (57, .ireturn, 1), (58, .aload_n 0, 1), (59, .getfield 238, 3), (62, .ireturn, 1), (63, .aload_n 0, 1), (64, .getfield 336, 3), (67, .ireturn, 1), (68, .aload_n 0, 1), (69, .getfield 251, 3), (72, .ireturn, 1), (73, .aload_n 0, 1), (74, .getfield 306, 3), (77, .ireturn, 1), (78, .iconst 0, 1), (79, .istore_n 3, 1), (80, .iload_n 3, 1), (81, .aload_n 0, 1), (82, .getfield 166, 3), (85, .if_icmp .ge 18, 3), (88, .iload_n 2, 1), (89, .aload_n 0, 1), (90, .getfield 62, 3), (93, .iload_n 3, 1), (94, .iaload, 1), (95, .iadd, 1), (96, .istore_n 2, 1), (97, .iinc 3 1, 3), (100, .goto (-20), 3), (103, .iload_n 2, 1), (104, .ireturn, 1), (105, .iconst 0, 1), (106, .istore_n 3, 1), (107, .iload_n 3, 1), (108, .aload_n 0, 1), (109, .getfield 238, 3), (112, .if_icmp .ge 26, 3), (115, .iload_n 2, 1), (116, .aload_n 0, 1), (117, .getfield 125, 3), (120, .iload_n 3, 1), (121, .baload, 1), (122, .ifCond .eq 7, 3), (125, .iconst 1, 1), (126, .goto 4, 3), (129, .iconst 0, 1), (130, .iadd, 1), (131, .istore_n 2, 1), (132, .iinc 3 1, 3), (135, .goto (-28), 3), (138, .iload_n 2, 1), (139, .ireturn, 1), (140, .iconst (-1), 1), (141, .ireturn, 1)]
set_option maxRecDepth 100000 in
theorem am_kt209_0 : ∀ q ∈ (am_t209.drop 0).take 40, decode cX11_count q.1 = .ok q.2 := by decide +kernel
set_option maxRecDepth 100000 in
theorem am_kt209_1 : ∀ q ∈ (am_t209.drop 40).take 40, decode cX11_count q.1 = .ok q.2 := by decide +kernel
set_option maxRecDepth 100000 in
theorem am_kt209 : ∀ q ∈ am_t209, decode cX11_count q.1 = .ok q.2 := by
  intro q hq
  rw [← List.take_append_drop 40 (am_t209)] at hq
  rcases List.mem_append.mp hq with hq | hq
  · exact am_kt209_0 q hq
  exact am_kt209_1 q (by rw [List.take_of_length_le (by decide)]; exact hq)
end
section
def am_t210 : List (Nat × Instr × Nat) := [(0, .new 7, 3), (3, .dup, 1), (4, .invokespecial 9, 3), (7, .astore_n 1, 1), (8, .new 10, 3), (11, .dup, 1), (12, .invokespecial 12, 3), (15, .astore_n 2, 1), (16, .iconst 0, 1), (17, .istore_n 3, 1), (18, .iload_n 3, 1), (19, .aload_n 0, 1), (20, .arraylength, 1), (21, .bipush 7, 2), (23, .isub, 1), (24, .if_icmp .gt 1345, 3), (27, .aload_n 0, 1), (28, .iload_n 3, 1), (29, .iaload, 1), (30, .bipush 63, 2), (32, .iand, 1), (33, .tableswitch 1330 0 32 #[147, 210, 253, 306, 349, 392, 415, 490, 523, 566, 629, 662, 705, 768, 791, 824, 857, 880, 903, 926, 949, 992, 1025, 1048, 1062, 1076, 1099, 1152, 1215, 1228, 1251, 1274, 1307], 147), (180, .aload_n 1, 1), (181, .aload_n 0, 1), (182, .iload_n 3, 1), (183, .iconst 1, 1), (184, .iadd, 1), (185, .iaload, 1), (186, .aload_n 0, 1), (187, .iload_n 3, 1), (188, .iconst 2, 1), (189, .iadd, 1), (190, .iaload, 1), (191, .aload_n 0, 1), (192, .iload_n 3, 1), (193, .iconst 3, 1), (194, .iadd, 1), (195, .iaload, 1), (196, .aload_n 0, 1), (197, .iload_n 3, 1), (198, .iconst 4, 1), (199, .iadd, 1), (200, .iaload, 1), (201, .aload_n 0, 1), (202, .iload_n 3, 1), (203, .iconst 5, 1), (204, .iadd, 1), (205, .iaload, 1), (206, .invokevirtual 13, 3), (209, .aload_n 2, 1), (210, .aload_n 0, 1), (211, .iload_n 3, 1), (212, .iconst 1, 1), (213, .iadd, 1), (214, .iaload, 1), (215, .aload_n 0, 1), (216, .iload_n 3, 1), (217, .iconst 2, 1), (218, .iadd, 1), (219, .iaload, 1), (220, .aload_n 0, 1), (221, .iload_n 3, 1), (222, .iconst 3, 1), (223, .iadd, 1), (224, .iaload, 1), (225, .aload_n 0, 1), (226, .iload_n 3, 1), (227, .iconst 4, 1), (228, .iadd, 1), (229, .iaload, 1), (230, .aload_n 0, 1), (231, .iload_n 3, 1), (232, .iconst 5, 1), (233, .iadd, 1), (234, .iaload, 1), (235, .invokevirtual 17, 3), (238, .if_icmp .eq 1125, 3), (241, .iconst 0, 1), (242, .ireturn, 1), (243, .aload_n 1, 1), (244, .aload_n 0, 1), (245, .iload_n 3, 1), (246, .iconst 1, 1), (247, .iadd, 1), (248, .iaload, 1), (249, .aload_n 0, 1), (250, .iload_n 3, 1), (251, .iconst 2, 1), (252, .iadd, 1), (253, .iaload, 1), (254, .aload_n 0, 1), (255, .iload_n 3, 1), (256, .iconst 3, 1), (257, .iadd, 1), (258, .iaload, 1), (259, .invokevirtual 18, 3), (262, .aload_n 2, 1), (263, .aload_n 0, 1), (264, .iload_n 3, 1), (265, .iconst 1, 1), (266, .iadd, 1), (267, .iaload, 1), (268, .aload_n 0, 1), (269, .iload_n 3, 1), (270, .iconst 2, 1), (271, .iadd, 1), (272, .iaload, 1), (273, .aload_n 0, 1), (274, .iload_n 3, 1), (275, .iconst 3, 1), (276, .iadd, 1), (277, .iaload, 1), (278, .invokevirtual 22, 3), (281, .if_icmp .eq 1082, 3), (284, .iconst 0, 1), (285, .ireturn, 1), (286, .aload_n 1, 1), (287, .aload_n 0, 1), (288, .iload_n 3, 1), (289, .iconst 1, 1), (290, .iadd, 1), (291, .iaload, 1), (292, .aload_n 0, 1), (293, .iload_n 3, 1), (294, .iconst 2, 1), (295, .iadd, 1), (296, .iaload, 1), (297, .aload_n 0, 1), (298, .iload_n 3, 1), (299, .iconst 3, 1), (300, .iadd, 1), (301, .iaload, 1), (302, .aload_n 0, 1), (303, .iload_n 3, 1), (304, .iconst 4, 1), (305, .iadd, 1), (306, .iaload, 1), (307, .invokevirtual 23, 3), (310, .aload_n 2, 1), (311, .aload_n 0, 1), (312, .iload_n 3, 1), (313, .iconst 1, 1), (314, .iadd, 1), (315, .iaload, 1), (316, .aload_n 0, 1), (317, .iload_n 3, 1), (318, .iconst 2, 1), (319, .iadd, 1), (320, .iaload, 1), (321, .aload_n 0, 1), (322, .iload_n 3, 1), (323, .iconst 3, 1), (324, .iadd, 1), (325, .iaload, 1), (326, .aload_n 0, 1), (327, .iload_n 3, 1), (328, .iconst 4, 1), (329, .iadd, 1), (330, .iaload, 1), (331, .invokevirtual 27, 3), (334, .if_icmp .eq 1029, 3), (337, .iconst 0, 1), (338, .ireturn, 1), (339, .aload_n 1, 1), (340, .aload_n 0, 1), (341, .iload_n 3, 1), (342, .iconst 1, 1), (343, .iadd, 1), (344, .iaload, 1), (345, .aload_n 0, 1), (346, .iload_n 3, 1), (347, .iconst 2, 1), (348, .iadd, 1), (349, .iaload, 1), (350, .aload_n 0, 1), (351, .iload_n 3, 1), (352, .iconst 3, 1), (353, .iadd, 1), (354, .iaload, 1), (355, .invokevirtual 28, 3), (358, .aload_n 2, 1), (359, .aload_n 0, 1), (360, .iload_n 3, 1), (361, .iconst 1, 1), (362, .iadd, 1), (363, .iaload, 1), (364, .aload_n 0, 1), (365, .iload_n 3, 1), (366, .iconst 2, 1), (367, .iadd, 1), (368, .iaload, 1), (369, .aload_n 0, 1), (370, .iload_n 3, 1), (371, .iconst 3, 1), (372, .iadd, 1), (373, .iaload, 1), (374, .invokevirtual 31, 3), (377, .if_icmp .eq 986, 3), (380, .iconst 0, 1), (381, .ireturn, 1), (382, .aload_n 1, 1), (383, .aload_n 0, 1), (384, .iload_n 3, 1), (385, .iconst 1, 1), (386, .iadd, 1), (387, .iaload, 1), (388, .aload_n 0, 1), (389, .iload_n 3, 1), (390, .iconst 2, 1), (391, .iadd, 1), (392, .iaload, 1), (393, .aload_n 0, 1), (394, .iload_n 3, 1), (395, .iconst 3, 1), (396, .iadd, 1), (397, .iaload, 1), (398, .invokevirtual 32, 3), (401, .aload_n 2, 1), (402, .aload_n 0, 1), (403, .iload_n 3, 1), (404, .iconst 1, 1), (405, .iadd, 1), (406, .iaload, 1), (407, .aload_n 0, 1), (408, .iload_n 3, 1), (409, .iconst 2, 1), (410, .iadd, 1), (411, .iaload, 1), (412, .aload_n 0, 1), (413, .iload_n 3, 1), (414, .iconst 3, 1), (415, .iadd, 1), (416, .iaload, 1), (417, .invokevirtual 35, 3), (420, .if_icmp .eq 943, 3), (423, .iconst 0, 1), (424, .ireturn, 1), (425, .aload_n 1, 1), (426, .aload_n 0, 1), (427, .iload_n 3, 1), (428, .iconst 1, 1), (429, .iadd, 1), (430, .iaload, 1), (431, .invokevirtual 36, 3), (434, .aload_n 2, 1), (435, .aload_n 0, 1), (436, .iload_n 3, 1), (437, .iconst 1, 1), (438, .iadd, 1), (439, .iaload, 1), (440, .invokevirtual 40, 3), (443, .if_icmp .eq 920, 3), (446, .iconst 0, 1), (447, .ireturn, 1), (448, .aload_n 1, 1), (449, .aload_n 0, 1), (450, .iload_n 3, 1), (451, .iconst 1, 1), (452, .iadd, 1), (453, .iaload, 1), (454, .aload_n 0, 1), (455, .iload_n 3, 1), (456, .iconst 2, 1), (457, .iadd, 1), (458, .iaload, 1), (459, .aload_n 0, 1), (460, .iload_n 3, 1), (461, .iconst 3, 1), (462, .iadd, 1), (463, .iaload, 1), (464, .aload_n 0, 1), (465, .iload_n 3, 1), (466, .iconst 4, 1), (467, .iadd, 1), (468, .iaload, 1), (469, .aload_n 0, 1), (470, .iload_n 3, 1), (471, .iconst 5, 1), (472, .iadd, 1), (473, .iaload, 1), (474, .aload_n 0, 1), (475, .iload_n 3, 1), (476, .bipush 6, 2), (478, .iadd, 1), (479, .iaload, 1), (480, .invokevirtual 41, 3), (483, .aload_n 2, 1), (484, .aload_n 0, 1), (485, .iload_n 3, 1), (486, .iconst 1, 1), (487, .iadd, 1), (488, .iaload, 1), (489, .aload_n 0, 1), (490, .iload_n 3, 1), (491, .iconst 2, 1), (492, .iadd, 1), (493, .iaload, 1), (494, .aload_n 0, 1), (495, .iload_n 3, 1), (496, .iconst 3, 1), (497, .iadd, 1), (498, .iaload, 1), (499, .aload_n 0, 1), (500, .iload_n 3, 1), (501, .iconst 4, 1), (502, .iadd, 1), (503, .iaload, 1), (504, .aload_n 0, 1), (505, .iload_n 3, 1), (506, .iconst 5, 1), (507, .iadd, 1), (508, .iaload, 1), (509, .aload_n 0, 1), (510, .iload_n 3, 1), (511, .bipush 6, 2), (513, .iadd, 1), (514, .iaload, 1), (515, .invokevirtual 45, 3), (518, .if_icmp .eq 845, 3), (521, .iconst 0, 1), (522, .ireturn, 1), (523, .aload_n 1, 1), (524, .aload_n 0, 1), (525, .iload_n 3, 1), (526, .iconst 1, 1), (527, .iadd, 1), (528, .iaload, 1), (529, .aload_n 0, 1), (530, .iload_n 3, 1), (531, .iconst 2, 1), (532, .iadd, 1), (533, .iaload, 1), (534, .invokevirtual 46, 3), (537, .aload_n 2, 1), (538, .aload_n 0, 1), (539, .iload_n 3, 1), (540, .iconst 1, 1), (541, .iadd, 1), (542, .iaload, 1), (543, .aload_n 0, 1), (544, .iload_n 3, 1), (545, .iconst 2, 1), (546, .iadd, 1), (547, .iaload, 1), (548, .invokevirtual 50, 3), (551, .if_icmp .eq 812, 3), (554, .iconst 0, 1), (555, .ireturn, 1), (556, .aload_n 1, 1), (557, .aload_n 0, 1), (558, .iload_n 3, 1), (559, .iconst 1, 1), (560, .iadd, 1), (561, .iaload, 1), (562, .aload_n 0, 1), (563, .iload_n 3, 1), (564, .iconst 2, 1), (565, .iadd, 1), (566, .iaload, 1), (567, .aload_n 0, 1), (568, .iload_n 3, 1), (569, .iconst 3, 1), (570, .iadd, 1), (571, .iaload, 1), (572, .invokevirtual 51, 3), (575, .aload_n 2, 1), (576, .aload_n 0, 1), (577, .iload_n 3, 1), (578, .iconst 1, 1), (579, .iadd, 1), (580, .iaload, 1), (581, .aload_n 0, 1), (582, .iload_n 3, 1), (583, .iconst 2, 1), (584, .iadd, 1), (585, .iaload, 1), (586, .aload_n 0, 1), (587, .iload_n 3, 1), (588, .iconst 3, 1), (589, .iadd, 1), (590, .iaload, 1), (591, .invokevirtual 54, 3), (594, .if_icmp .eq 769, 3), (597, .iconst 0, 1), (598, .ireturn, 1), (599, .aload_n 1, 1), (600, .aload_n 0, 1), (601, .iload_n 3, 1), (602, .iconst 1, 1), (603, .iadd, 1), (604, .iaload, 1), (605, .aload_n 0, 1), (606, .iload_n 3, 1), (607, .iconst 2, 1), (608, .iadd, 1), (609, .iaload, 1), (610, .aload_n 0, 1), (611, .iload_n 3, 1), (612, .iconst 3, 1), (613, .iadd, 1), (614, .iaload, 1), (615, .aload_n 0, 1), (616, .iload_n 3, 1), (617, .iconst 4, 1), (618, .iadd, 1), (619, .iaload, 1), (620, .aload_n 0, 1), (621, .iload_n 3, 1), (622, .iconst 5, 1), (623, .iadd, 1), (624, .iaload, 1), (625, .invokevirtual 55, 3), (628, .aload_n 2, 1), (629, .aload_n 0, 1), (630, .iload_n 3, 1), (631, .iconst 1, 1), (632, .iadd, 1), (633, .iaload, 1), (634, .aload_n 0, 1), (635, .iload_n 3, 1), (636, .iconst 2, 1), (637, .iadd, 1), (638, .iaload, 1), (639, .aload_n 0, 1), (640, .iload_n 3, 1), (641, .iconst 3, 1), (642, .iadd, 1), (643, .iaload, 1), (644, .aload_n 0, 1), (645, .iload_n 3, 1), (646, .iconst 4, 1), (647, .iadd, 1), (648, .iaload, 1), (649, .aload_n 0, 1), (650, .iload_n 3, 1), (651, .iconst 5, 1), (652, .iadd, 1), (653, .iaload, 1), (654, .invokevirtual 58, 3), (657, .if_icmp .eq 706, 3), (660, .iconst 0, 1), (661, .ireturn, 1), (662, .aload_n 1, 1), (663, .aload_n 0, 1), (664, .iload_n 3, 1), (665, .iconst 1, 1), (666, .iadd, 1), (667, .iaload, 1), (668, .aload_n 0, 1), (669, .iload_n 3, 1), (670, .iconst 2, 1), (671, .iadd, 1), (672, .iaload, 1), (673, .invokevirtual 59, 3), (676, .aload_n 2, 1), (677, .aload_n 0, 1), (678, .iload_n 3, 1), (679, .iconst 1, 1), (680, .iadd, 1), (681, .iaload, 1), (682, .aload_n 0, 1), (683, .iload_n 3, 1), (684, .iconst 2, 1), (685, .iadd, 1), (686, .iaload, 1), (687, .invokevirtual 62, 3), (690, .if_icmp .eq 673, 3), (693, .iconst 0, 1), (694, .ireturn, 1), (695, .aload_n 1, 1), (696, .aload_n 0, 1), (697, .iload_n 3, 1), (698, .iconst 1, 1), (699, .iadd, 1), (700, .iaload, 1), (701, .aload_n 0, 1), (702, .iload_n 3, 1), (703, .iconst 2, 1), (704, .iadd, 1), (705, .iaload, 1), (706, .aload_n 0, 1), (707, .iload_n 3, 1), (708, .iconst 3, 1), (709, .iadd, 1), (710, .iaload, 1), (711, .invokevirtual 63, 3), (714, .aload_n 2, 1), (715, .aload_n 0, 1), (716, .iload_n 3, 1), (717, .iconst 1, 1), (718, .iadd, 1), (719, .iaload, 1), (720, .aload_n 0, 1), (721, .iload_n 3, 1), (722, .iconst 2, 1), (723, .iadd, 1), (724, .iaload, 1), (725, .aload_n 0, 1), (726, .iload_n 3, 1), (727, .iconst 3, 1), (728, .iadd, 1), (729, .iaload, 1), (730, .invokevirtual 66, 3), (733, .if_icmp .eq 630, 3), (736, .iconst 0, 1), (737, .ireturn, 1), (738, .aload_n 1, 1), (739, .aload_n 0, 1), (740, .iload_n 3, 1), (741, .iconst 1, 1), (742, .iadd, 1), (743, .iaload, 1), (744, .aload_n 0, 1), (745, .iload_n 3, 1), (746, .iconst 2, 1), (747, .iadd, 1), (748, .iaload, 1), (749, .aload_n 0, 1), (750, .iload_n 3, 1), (751, .iconst 3, 1), (752, .iadd, 1), (753, .iaload, 1), (754, .aload_n 0, 1), (755, .iload_n 3, 1), (756, .iconst 4, 1), (757, .iadd, 1), (758, .iaload, 1), (759, .aload_n 0, 1), (760, .iload_n 3, 1), (761, .iconst 5, 1), (762, .iadd, 1), (763, .iaload, 1), (764, .invokevirtual 67, 3), (767, .aload_n 2, 1), (768, .aload_n 0, 1), (769, .iload_n 3, 1), (770, .iconst 1, 1), (771, .iadd, 1), (772, .iaload, 1), (773, .aload_n 0, 1), (774, .iload_n 3, 1), (775, .iconst 2, 1), (776, .iadd, 1), (777, .iaload, 1), (778, .aload_n 0, 1), (779, .iload_n 3, 1), (780, .iconst 3, 1), (781, .iadd, 1), (782, .iaload, 1), (783, .aload_n 0, 1), (784, .iload_n 3, 1), (785, .iconst 4, 1), (786, .iadd, 1), (787, .iaload, 1), (788, .aload_n 0, 1), (789, .iload_n 3, 1), (790, .iconst 5, 1), (791, .iadd, 1), (792, .iaload, 1), (793, .invokevirtual 70, 3), (796, .if_icmp .eq 567, 3), (799, .iconst 0, 1), (800, .ireturn, 1), (801, .aload_n 1, 1), (802, .aload_n 0, 1), (803, .iload_n 3, 1), (804, .iconst 1, 1), (805, .iadd, 1), (806, .iaload, 1), (807, .invokevirtual 71, 3), (810, .aload_n 2, 1), (811, .aload_n 0, 1), (812, .iload_n 3, 1), (813, .iconst 1, 1), (814, .iadd, 1), (815, .iaload, 1), (816, .invokevirtual 74, 3), (819, .if_icmp .eq 544, 3), (822, .iconst 0, 1), (823, .ireturn, 1), (824, .aload_n 1, 1), (825, .aload_n 0, 1), (826, .iload_n 3, 1), (827, .iconst 1, 1), (828, .iadd, 1), (829, .iaload, 1), (830, .aload_n 0, 1), (831, .iload_n 3, 1), (832, .iconst 2, 1), (833, .iadd, 1), (834, .iaload, 1), (835, .invokevirtual 75, 3), (838, .aload_n 2, 1), (839, .aload_n 0, 1), (840, .iload_n 3, 1), (841, .iconst 1, 1), (842, .iadd, 1), (843, .iaload, 1), (844, .aload_n 0, 1), (845, .iload_n 3, 1), (846, .iconst 2, 1), (847, .iadd, 1), (848, .iaload, 1), (849, .invokevirtual 78, 3), (852, .if_icmp .eq 511, 3), (855, .iconst 0, 1), (856, .ireturn, 1), (857, .aload_n 1, 1), (858, .aload_n 0, 1), (859, .iload_n 3, 1), (860, .iconst 1, 1), (861, .iadd, 1), (862, .iaload, 1), (863, .aload_n 0, 1), (864, .iload_n 3, 1), (865, .iconst 2, 1), (866, .iadd, 1), (867, .iaload, 1), (868, .invokevirtual 79, 3), (871, .aload_n 2, 1), (872, .aload_n 0, 1), (873, .iload_n 3, 1), (874, .iconst 1, 1), (875, .iadd, 1), (876, .iaload, 1), (877, .aload_n 0, 1), (878, .iload_n 3, 1), (879, .iconst 2, 1), (880, .iadd, 1), (881, .iaload, 1), (882, .invokevirtual 82, 3), (885, .if_icmp .eq 478, 3), (888, .iconst 0, 1), (889, .ireturn, 1), (890, .aload_n 1, 1), (891, .aload_n 0, 1), (892, .iload_n 3, 1), (893, .iconst 1, 1), (894, .iadd, 1), (895, .iaload, 1), (896, .invokevirtual 83, 3), (899, .aload_n 2, 1), (900, .aload_n 0, 1), (901, .iload_n 3, 1), (902, .iconst 1, 1), (903, .iadd, 1), (904, .iaload, 1), (905, .invokevirtual 86, 3), (908, .if_icmp .eq 455, 3), (911, .iconst 0, 1), (912, .ireturn, 1), (913, .aload_n 1, 1), (914, .aload_n 0, 1), (915, .iload_n 3, 1), (916, .iconst 1, 1), (917, .iadd, 1), (918, .iaload, 1), (919, .invokevirtual 87, 3), (922, .aload_n 2, 1), (923, .aload_n 0, 1), (924, .iload_n 3, 1), (925, .iconst 1, 1), (926, .iadd, 1), (927, .iaload, 1), (928, .invokevirtual 90, 3), (931, .if_icmp .eq 432, 3), (934, .iconst 0, 1), (935, .ireturn, 1), (936, .aload_n 1, 1), (937, .aload_n 0, 1), (938, .iload_n 3, 1), (939, .iconst 1, 1), (940, .iadd, 1), (941, .iaload, 1), (942, .invokevirtual 91, 3), (945, .aload_n 2, 1), (946, .aload_n 0, 1), (947, .iload_n 3, 1), (948, .iconst 1, 1), (949, .iadd, 1), (950, .iaload, 1), (951, .invokevirtual 94, 3), (954, .if_icmp .eq 409, 3), (957, .iconst 0, 1), (958, .ireturn, 1), (959, .aload_n 1, 1), (960, .aload_n 0, 1), (961, .iload_n 3, 1), (962, .iconst 1, 1), (963, .iadd, 1), (964, .iaload, 1), (965, .invokevirtual 95, 3), (968, .aload_n 2, 1), (969, .aload_n 0, 1), (970, .iload_n 3, 1), (971, .iconst 1, 1), (972, .iadd, 1), (973, .iaload, 1), (974, .invokevirtual 98, 3), (977, .if_icmp .eq 386, 3), (980, .iconst 0, 1), (981, .ireturn, 1), (982, .aload_n 1, 1), (983, .aload_n 0, 1), (984, .iload_n 3, 1), (985, .iconst 1, 1), (986, .iadd, 1), (987, .iaload, 1), (988, .aload_n 0, 1), (989, .iload_n 3, 1), (990, .iconst 2, 1), (991, .iadd, 1), (992, .iaload, 1), (993, .aload_n 0, 1), (994, .iload_n 3, 1), (995, .iconst 3, 1), (996, .iadd, 1), (997, .iaload, 1), (998, .invokevirtual 99, 3), (1001, .aload_n 2, 1), (1002, .aload_n 0, 1), (1003, .iload_n 3, 1), (1004, .iconst 1, 1), (1005, .iadd, 1), (1006, .iaload, 1), (1007, .aload_n 0, 1), (1008, .iload_n 3, 1), (1009, .iconst 2, 1), (1010, .iadd, 1), (1011, .iaload, 1), (1012, .aload_n 0, 1), (1013, .iload_n 3, 1), (1014, .iconst 3, 1), (1015, .iadd, 1), (1016, .iaload, 1), (1017, .invokevirtual 102, 3), (1020, .if_icmp .eq 343, 3), (1023, .iconst 0, 1), (1024, .ireturn, 1), (1025, .aload_n 1, 1), (1026, .aload_n 0, 1), (1027, .iload_n 3, 1), (1028, .iconst 1, 1), (1029, .iadd, 1), (1030, .iaload, 1), (1031, .aload_n 0, 1), (1032, .iload_n 3, 1), (1033, .iconst 2, 1), (1034, .iadd, 1), (1035, .iaload, 1), (1036, .invokevirtual 103, 3), (1039, .aload_n 2, 1), (1040, .aload_n 0, 1), (1041, .iload_n 3, 1), (1042, .iconst 1, 1), (1043, .iadd, 1), (1044, .iaload, 1), (1045, .aload_n 0, 1), (1046, .iload_n 3, 1), (1047, .iconst 2, 1), (1048, .iadd, 1), (1049, .iaload, 1), (1050, .invokevirtual 106, 3), (1053, .if_icmp .eq 310, 3), (1056, .iconst 0, 1), (1057, .ireturn, 1), (1058, .aload_n 1, 1), (1059, .aload_n 0, 1), (1060, .iload_n 3, 1), (1061, .iconst 1, 1), (1062, .iadd, 1), (1063, .iaload, 1), (1064, .invokevirtual 107, 3), (1067, .aload_n 2, 1), (1068, .aload_n 0, 1), (1069, .iload_n 3, 1), (1070, .iconst 1, 1), (1071, .iadd, 1), (1072, .iaload, 1), (1073, .invokevirtual 110, 3), (1076, .if_icmp .eq 287, 3), (1079, .iconst 0, 1), (1080, .ireturn, 1), (1081, .aload_n 1, 1), (1082, .invokevirtual 111, 3), (1085, .aload_n 2, 1), (1086, .invokevirtual 115, 3), (1089, .lcmp, 1), (1090, .ifCond .eq 273, 3), (1093, .iconst 0, 1), (1094, .ireturn, 1), (1095, .aload_n 1, 1), (1096, .invokevirtual 116, 3), (1099, .aload_n 2, 1), (1100, .invokevirtual 119, 3), (1103, .lcmp, 1), (1104, .ifCond .eq 259, 3), (1107, .iconst 0, 1), (1108, .ireturn, 1), (1109, .aload_n 1, 1), (1110, .aload_n 0, 1), (1111, .iload_n 3, 1), (1112, .iconst 1, 1), (1113, .iadd, 1), (1114, .iaload, 1), (1115, .invokevirtual 120, 3), (1118, .aload_n 2, 1), (1119, .aload_n 0, 1), (1120, .iload_n 3, 1), (1121, .iconst 1, 1), (1122, .iadd, 1), (1123, .iaload, 1), (1124, .invokevirtual 123, 3), (1127, .if_icmp .eq 236, 3), (1130, .iconst 0, 1), (1131, .ireturn, 1), (1132, .aload_n 1, 1), (1133, .aload_n 0, 1), (1134, .iload_n 3, 1), (1135, .iconst 1, 1), (1136, .iadd, 1), (1137, .iaload, 1), (1138, .aload_n 0, 1), (1139, .iload_n 3, 1), (1140, .iconst 2, 1), (1141, .iadd, 1), (1142, .iaload, 1), (1143, .aload_n 0, 1), (1144, .iload_n 3, 1), (1145, .iconst 3, 1), (1146, .iadd, 1), (1147, .iaload, 1), (1148, .aload_n 0, 1), (1149, .iload_n 3, 1), (1150, .iconst 4, 1), (1151, .iadd, 1), (1152, .iaload, 1), (1153, .invokevirtual 124, 3), (1156, .aload_n 2, 1), (1157, .aload_n 0, 1), (1158, .iload_n 3, 1), (1159, .iconst 1, 1), (1160, .iadd, 1), (1161, .iaload, 1), (1162, .aload_n 0, 1), (1163, .iload_n 3, 1), (1164, .iconst 2, 1), (1165, .iadd, 1), (1166, .iaload, 1), (1167, .aload_n 0, 1), (1168, .iload_n 3, 1), (1169, .iconst 3, 1), (1170, .iadd, 1), (1171, .iaload, 1), (1172, .aload_n 0, 1), (1173, .iload_n 3, 1), (1174, .iconst 4, 1), (1175, .iadd, 1), (1176, .iaload, 1), (1177, .invokevirtual 127, 3), (1180, .if_icmp .eq 183, 3), (1183, .iconst 0, 1), (1184, .ireturn, 1), (1185, .aload_n 1, 1), (1186, .aload_n 0, 1), (1187, .iload_n 3, 1), (1188, .iconst 1, 1), (1189, .iadd, 1), (1190, .iaload, 1), (1191, .i2l, 1), (1192, .bipush 32, 2), (1194, .lshl, 1), (1195, .aload_n 0, 1), (1196, .iload_n 3, 1), (1197, .iconst 2, 1), (1198, .iadd, 1), (1199, .iaload, 1), (1200, .i2l, 1), (1201, .ldc2_w 128, 3), (1204, .land, 1), (1205, .lor, 1), (1206, .aload_n 0, 1), (1207, .iload_n 3, 1), (1208, .iconst 3, 1), (1209, .iadd, 1), (1210, .iaload, 1), (1211, .invokevirtual 130, 3), (1214, .aload_n 2, 1), (1215, .aload_n 0, 1), (1216, .iload_n 3, 1), (1217, .iconst 1, 1), (1218, .iadd, 1), (1219, .iaload, 1), (1220, .i2l, 1), (1221, .bipush 32, 2), (1223, .lshl, 1), (1224, .aload_n 0, 1), (1225, .iload_n 3, 1), (1226, .iconst 2, 1), (1227, .iadd, 1), (1228, .iaload, 1), (1229, .i2l, 1), (1230, .ldc2_w 128, 3), (1233, .land, 1), (1234, .lor, 1), (1235, .aload_n 0, 1), (1236, .iload_n 3, 1), (1237, .iconst 3, 1), (1238, .iadd, 1), (1239, .iaload, 1), (1240, .invokevirtual 134, 3), (1243, .if_icmp .eq 120, 3), (1246, .iconst 0, 1), (1247, .ireturn, 1), (1248, .aload_n 1, 1), (1249, .invokevirtual 135, 3), (1252, .aload_n 2, 1), (1253, .invokevirtual 139, 3), (1256, .if_icmp .eq 107, 3), (1259, .iconst 0, 1), (1260, .ireturn, 1), (1261, .aload_n 1, 1), (1262, .aload_n 0, 1), (1263, .iload_n 3, 1), (1264, .iconst 1, 1), (1265, .iadd, 1), (1266, .iaload, 1), (1267, .invokevirtual 140, 3), (1270, .aload_n 2, 1), (1271, .aload_n 0, 1), (1272, .iload_n 3, 1), (1273, .iconst 1, 1), (1274, .iadd, 1), (1275, .iaload, 1), (1276, .invokevirtual 143, 3), (1279, .if_icmp .eq 84, 3), (1282, .iconst 0, 1), (1283, .ireturn, 1), (1284, .aload_n 1, 1), (1285, .aload_n 0, 1), (1286, .iload_n 3, 1), (1287, .iconst 1, 1), (1288, .iadd, 1), (1289, .iaload, 1), (1290, .invokevirtual 144, 3), (1293, .aload_n 2, 1), (1294, .aload_n 0, 1), (1295, .iload_n 3, 1), (1296, .iconst 1, 1), (1297, .iadd, 1), (1298, .iaload, 1), (1299, .invokevirtual 147, 3), (1302, .if_icmp .eq 61, 3), (1305, .iconst 0, 1), (1306, .ireturn, 1), (1307, .aload_n 1, 1), (1308, .aload_n 0, 1), (1309, .iload_n 3, 1), (1310, .iconst 1, 1), (1311, .iadd, 1), (1312, .iaload, 1), (1313, .aload_n 0, 1), (1314, .iload_n 3, 1), (1315, .iconst 2, 1), (1316, .iadd, 1), (1317, .iaload, 1), (1318, .invokevirtual 148, 3), (1321, .aload_n 2, 1), (1322, .aload_n 0, 1), (1323, .iload_n 3, 1), (1324, .iconst 1, 1), (1325, .iadd, 1), (1326, .iaload, 1), (1327, .aload_n 0, 1), (1328, .iload_n 3, 1), (1329, .iconst 2, 1), (1330, .iadd, 1), (1331, .iaload, 1), (1332, .invokevirtual 151, 3), (1335, .if_icmp .eq 28, 3), (1338, .iconst 0, 1), (1339, .ireturn, 1), (1340, .aload_n 1, 1), (1341, .aload_n 0, 1), (1342, .iload_n 3, 1), (1343, .iconst 1, 1), (1344, .iadd, 1), (1345, .iaload, 1), (1346, .invokevirtual 152, 3), (1349, .aload_n 2, 1), (1350, .aload_n 0, 1), (1351, .iload_n 3, 1), (1352, .iconst 1, 1), (1353, .iadd, 1), (1354, .iaload, 1), (1355, .invokevirtual 155, 3), (1358, .if_icmp .eq 5, 3), (1361, .iconst 0, 1), (1362, .ireturn, 1), (1363, .iinc 3 7, 3), (1366, .goto (-1348), 3), (1369, .iconst 1, 1), (1370, .ireturn, 1)]
set_option maxRecDepth 100000 in
theorem am_kt210_0 : ∀ q ∈ (am_t210.drop 0).take 40, decode cL_law q.1 = .ok q.2 := by decide +kernel
set_option maxRecDepth 100000 in
theorem am_kt210_1 : ∀ q ∈ (am_t210.drop 40).take 40, decode cL_law q.1 = .ok q.2 := by decide +kernel
set_option maxRecDepth 100000 in
theorem am_kt210_2 : ∀ q ∈ (am_t210.drop 80).take 40, decode cL_law q.1 = .ok q.2 := by decide +kernel
set_option maxRecDepth 100000 in
theorem am_kt210_3 : ∀ q ∈ (am_t210.drop 120).take 40, decode cL_law q.1 = .ok q.2 := by decide +kernel
set_option maxRecDepth 100000 in
theorem am_kt210_4 : ∀ q ∈ (am_t210.drop 160).take 40, decode cL_law q.1 = .ok q.2 := by decide +kernel
set_option maxRecDepth 100000 in
theorem am_kt210_5 : ∀ q ∈ (am_t210.drop 200).take 40, decode cL_law q.1 = .ok q.2 := by decide +kernel
set_option maxRecDepth 100000 in
theorem am_kt210_6 : ∀ q ∈ (am_t210.drop 240).take 40, decode cL_law q.1 = .ok q.2 := by decide +kernel
set_option maxRecDepth 100000 in
theorem am_kt210_7 : ∀ q ∈ (am_t210.drop 280).take 40, decode cL_law q.1 = .ok q.2 := by decide +kernel
set_option maxRecDepth 100000 in
theorem am_kt210_8 : ∀ q ∈ (am_t210.drop 320).take 40, decode cL_law q.1 = .ok q.2 := by decide +kernel
set_option maxRecDepth 100000 in
theorem am_kt210_9 : ∀ q ∈ (am_t210.drop 360).take 40, decode cL_law q.1 = .ok q.2 := by decide +kernel
set_option maxRecDepth 100000 in
theorem am_kt210_10 : ∀ q ∈ (am_t210.drop 400).take 40, decode cL_law q.1 = .ok q.2 := by decide +kernel
set_option maxRecDepth 100000 in
theorem am_kt210_11 : ∀ q ∈ (am_t210.drop 440).take 40, decode cL_law q.1 = .ok q.2 := by decide +kernel
set_option maxRecDepth 100000 in
theorem am_kt210_12 : ∀ q ∈ (am_t210.drop 480).take 40, decode cL_law q.1 = .ok q.2 := by decide +kernel
set_option maxRecDepth 100000 in
theorem am_kt210_13 : ∀ q ∈ (am_t210.drop 520).take 40, decode cL_law q.1 = .ok q.2 := by decide +kernel
set_option maxRecDepth 100000 in
theorem am_kt210_14 : ∀ q ∈ (am_t210.drop 560).take 40, decode cL_law q.1 = .ok q.2 := by decide +kernel
set_option maxRecDepth 100000 in
theorem am_kt210_15 : ∀ q ∈ (am_t210.drop 600).take 40, decode cL_law q.1 = .ok q.2 := by decide +kernel
set_option maxRecDepth 100000 in
theorem am_kt210_16 : ∀ q ∈ (am_t210.drop 640).take 40, decode cL_law q.1 = .ok q.2 := by decide +kernel
set_option maxRecDepth 100000 in
theorem am_kt210_17 : ∀ q ∈ (am_t210.drop 680).take 40, decode cL_law q.1 = .ok q.2 := by decide +kernel
set_option maxRecDepth 100000 in
theorem am_kt210_18 : ∀ q ∈ (am_t210.drop 720).take 40, decode cL_law q.1 = .ok q.2 := by decide +kernel
set_option maxRecDepth 100000 in
theorem am_kt210_19 : ∀ q ∈ (am_t210.drop 760).take 40, decode cL_law q.1 = .ok q.2 := by decide +kernel
set_option maxRecDepth 100000 in
theorem am_kt210_20 : ∀ q ∈ (am_t210.drop 800).take 40, decode cL_law q.1 = .ok q.2 := by decide +kernel
set_option maxRecDepth 100000 in
theorem am_kt210_21 : ∀ q ∈ (am_t210.drop 840).take 40, decode cL_law q.1 = .ok q.2 := by decide +kernel
set_option maxRecDepth 100000 in
theorem am_kt210_22 : ∀ q ∈ (am_t210.drop 880).take 40, decode cL_law q.1 = .ok q.2 := by decide +kernel
set_option maxRecDepth 100000 in
theorem am_kt210_23 : ∀ q ∈ (am_t210.drop 920).take 40, decode cL_law q.1 = .ok q.2 := by decide +kernel
set_option maxRecDepth 100000 in
theorem am_kt210_24 : ∀ q ∈ (am_t210.drop 960).take 40, decode cL_law q.1 = .ok q.2 := by decide +kernel
set_option maxRecDepth 100000 in
theorem am_kt210_25 : ∀ q ∈ (am_t210.drop 1000).take 40, decode cL_law q.1 = .ok q.2 := by decide +kernel
set_option maxRecDepth 100000 in
theorem am_kt210 : ∀ q ∈ am_t210, decode cL_law q.1 = .ok q.2 := by
  intro q hq
  rw [← List.take_append_drop 40 (am_t210)] at hq
  rcases List.mem_append.mp hq with hq | hq
  · exact am_kt210_0 q hq
  rw [← List.take_append_drop 40 ((am_t210.drop 40))] at hq
  rcases List.mem_append.mp hq with hq | hq
  · exact am_kt210_1 q hq
  rw [List.drop_drop] at hq
  rw [← List.take_append_drop 40 ((am_t210.drop 80))] at hq
  rcases List.mem_append.mp hq with hq | hq
  · exact am_kt210_2 q hq
  rw [List.drop_drop] at hq
  rw [← List.take_append_drop 40 ((am_t210.drop 120))] at hq
  rcases List.mem_append.mp hq with hq | hq
  · exact am_kt210_3 q hq
  rw [List.drop_drop] at hq
  rw [← List.take_append_drop 40 ((am_t210.drop 160))] at hq
  rcases List.mem_append.mp hq with hq | hq
  · exact am_kt210_4 q hq
  rw [List.drop_drop] at hq
  rw [← List.take_append_drop 40 ((am_t210.drop 200))] at hq
  rcases List.mem_append.mp hq with hq | hq
  · exact am_kt210_5 q hq
  rw [List.drop_drop] at hq
  rw [← List.take_append_drop 40 ((am_t210.drop 240))] at hq
  rcases List.mem_append.mp hq with hq | hq
  · exact am_kt210_6 q hq
  rw [List.drop_drop] at hq
  rw [← List.take_append_drop 40 ((am_t210.drop 280))] at hq
  rcases List.mem_append.mp hq with hq | hq
  · exact am_kt210_7 q hq
  rw [List.drop_drop] at hq
  rw [← List.take_append_drop 40 ((am_t210.drop 320))] at hq
  rcases List.mem_append.mp hq with hq | hq
  · exact am_kt210_8 q hq
  rw [List.drop_drop] at hq
  rw [← List.take_append_drop 40 ((am_t210.drop 360))] at hq
  rcases List.mem_append.mp hq with hq | hq
  · exact am_kt210_9 q hq
  rw [List.drop_drop] at hq
  rw [← List.take_append_drop 40 ((am_t210.drop 400))] at hq
  rcases List.mem_append.mp hq with hq | hq
  · exact am_kt210_10 q hq
  rw [List.drop_drop] at hq
  rw [← List.take_append_drop 40 ((am_t210.drop 440))] at hq
  rcases List.mem_append.mp hq with hq | hq
  · exact am_kt210_11 q hq
  rw [List.drop_drop] at hq
  rw [← List.take_append_drop 40 ((am_t210.drop 480))] at hq
  rcases List.mem_append.mp hq with hq | hq
  · exact am_kt210_12 q hq
  rw [List.drop_drop] at hq
  rw [← List.take_append_drop 40 ((am_t210.drop 520))] at hq
  rcases List.mem_append.mp hq with hq | hq
  · exact am_kt210_13 q hq
  rw [List.drop_drop] at hq
  rw [← List.take_append_drop 40 ((am_t210.drop 560))] at hq
  rcases List.mem_append.mp hq with hq | hq
  · exact am_kt210_14 q hq
  rw [List.drop_drop] at hq
  rw [← List.take_append_drop 40 ((am_t210.drop 600))] at hq
  rcases List.mem_append.mp hq with hq | hq
  · exact am_kt210_15 q hq
  rw [List.drop_drop] at hq
  rw [← List.take_append_drop 40 ((am_t210.drop 640))] at hq
  rcases List.mem_append.mp hq with hq | hq
  · exact am_kt210_16 q hq
  rw [List.drop_drop] at hq
  rw [← List.take_append_drop 40 ((am_t210.drop 680))] at hq
  rcases List.mem_append.mp hq with hq | hq
  · exact am_kt210_17 q hq
  rw [List.drop_drop] at hq
  rw [← List.take_append_drop 40 ((am_t210.drop 720))] at hq
  rcases List.mem_append.mp hq with hq | hq
  · exact am_kt210_18 q hq
  rw [List.drop_drop] at hq
  rw [← List.take_append_drop 40 ((am_t210.drop 760))] at hq
  rcases List.mem_append.mp hq with hq | hq
  · exact am_kt210_19 q hq
  rw [List.drop_drop] at hq
  rw [← List.take_append_drop 40 ((am_t210.drop 800))] at hq
  rcases List.mem_append.mp hq with hq | hq
  · exact am_kt210_20 q hq
  rw [List.drop_drop] at hq
  rw [← List.take_append_drop 40 ((am_t210.drop 840))] at hq
  rcases List.mem_append.mp hq with hq | hq
  · exact am_kt210_21 q hq
  rw [List.drop_drop] at hq
  rw [← List.take_append_drop 40 ((am_t210.drop 880))] at hq
  rcases List.mem_append.mp hq with hq | hq
  · exact am_kt210_22 q hq
  rw [List.drop_drop] at hq
  rw [← List.take_append_drop 40 ((am_t210.drop 920))] at hq
  rcases List.mem_append.mp hq with hq | hq
  · exact am_kt210_23 q hq
  rw [List.drop_drop] at hq
  rw [← List.take_append_drop 40 ((am_t210.drop 960))] at hq
  rcases List.mem_append.mp hq with hq | hq
  · exact am_kt210_24 q hq
  rw [List.drop_drop] at hq
  exact am_kt210_25 q (by rw [List.take_of_length_le (by decide)]; exact hq)
end
section
def am_pick : List Nat → List Cond → List Cond
  | [], _ => []
  | g :: gs, l => match l.drop g with
    | [] => []
    | c :: l' => c :: am_pick gs l'
theorem am_pick_mem : ∀ (gs : List Nat) (l : List Cond), ∀ w ∈ am_pick gs l, w ∈ l
  | [], _, w, h => by simp [am_pick] at h
  | g :: gs, l, w, h => by
    unfold am_pick at h
    cases hd : l.drop g with
    | nil => rw [hd] at h; simp at h
    | cons c l' =>
      rw [hd] at h
      rcases List.mem_cons.mp h with rfl | h
      · exact List.mem_of_mem_drop (i := g) (by rw [hd]; exact List.mem_cons_self)
      · exact List.mem_of_mem_drop (i := g) (by rw [hd]; exact List.mem_cons_of_mem _ (am_pick_mem gs l' w h))
theorem am_pick_of {α : Type} {l : List α} {f : α → Cond} {gs : List Nat} {t : List Cond} (h : l.map f = am_pick gs t) : ∀ q ∈ l, f q ∈ t := fun q hq => am_pick_mem gs t _ (by rw [← h]; exact List.mem_map_of_mem hq)
theorem am_pick_1 {w : Cond} {gs : List Nat} {t : List Cond} (h : [w] = am_pick gs t) : w ∈ t := am_pick_mem gs t _ (by rw [← h]; exact List.mem_cons_self)
theorem am_look {α : Type} {l : List (Nat × α)} {k : Nat} {v : α} (h : l.lookup k = some v) : (k, v) ∈ l := by
  induction l with
  | nil => cases h
  | cons q r ih =>
    rw [List.lookup_cons] at h
    split at h
    · rename_i e
      cases h
      have e2 : k = q.1 := by simpa using e
      rw [e2]
      exact List.mem_cons_self
    · exact List.mem_cons_of_mem _ (ih h)
set_option maxRecDepth 100000 in
set_option maxHeartbeats 4000000 in
theorem am_kc : (am_ms.take 210).map (fun q => Cond.code q.1 q.2.1 q.2.2.1 q.2.2.2.1) = am_pick [66, 7, 58, 49, 27, 44, 53, 23, 22, 43, 17, 68, 2, 2, 4, 3, 2, 3, 4, 2, 3, 3, 2, 3, 3, 3, 3, 3, 2, 2, 3, 3, 3, 3, 3, 2, 2, 3, 3, 3, 3, 2, 7, 3, 2, 3, 3, 3, 3, 3, 3, 3, 2, 2, 5, 3, 3, 3, 3, 3, 3, 3, 3, 3, 2, 5, 3, 3, 3, 3, 3, 6, 3, 2, 4, 3, 4, 3, 3, 3, 3, 3, 2, 4, 2, 3, 6, 3, 3, 4, 4, 3, 2, 6, 3, 5, 4, 4, 4, 3, 4, 3, 5, 4, 4, 3, 4, 3, 4, 3, 3, 5, 3, 2, 2, 4, 22, 3, 3, 4, 4, 3, 8, 3, 3, 4, 3, 4, 2, 3, 3, 3, 3, 3, 3, 3, 3, 4, 182, 2, 3, 2, 3, 3, 3, 3, 4, 3, 5, 4, 3, 6, 3, 3, 4, 3, 4, 2, 3, 3, 3, 3, 3, 3, 3, 2, 5, 4, 3, 3, 3, 3, 3, 3, 3, 3, 3, 3, 3, 3, 3, 3, 3, 3, 3, 4, 3, 3, 3, 3, 3, 3, 3, 3, 5, 3, 3, 2, 3, 3, 3, 2, 3, 3, 3, 3, 2, 3, 3, 3] lw_tbl := by rfl
set_option maxRecDepth 100000 in
set_option maxHeartbeats 4000000 in
theorem am_kf0 : (am_fls.getD 0 []).map (fun q => Cond.fieldLink (am_cn 0) q.1 (am_Tf q.2.1 q.2.2).1 (am_Tf q.2.1 q.2.2).2.1 (am_Tf q.2.1 q.2.2).2.2.1) = am_pick [135, 2, 2, 3, 3, 2, 2, 1] lw_tbl := by rfl
set_option maxRecDepth 100000 in
set_option maxHeartbeats 4000000 in
theorem am_kf1 : (am_fls.getD 1 []).map (fun q => Cond.fieldLink (am_cn 1) q.1 (am_Tf q.2.1 q.2.2).1 (am_Tf q.2.1 q.2.2).2.1 (am_Tf q.2.1 q.2.2).2.2.1) = am_pick [80, 1, 1, 1, 1, 47, 9, 3, 5, 101, 0, 0, 0, 0, 2, 0, 0, 0, 0, 0, 0, 0, 0, 0] lw_tbl := by rfl
set_option maxRecDepth 100000 in
set_option maxHeartbeats 4000000 in
theorem am_kf2 : (am_fls.getD 2 []).map (fun q => Cond.fieldLink (am_cn 2) q.1 (am_Tf q.2.1 q.2.2).1 (am_Tf q.2.1 q.2.2).2.1 (am_Tf q.2.1 q.2.2).2.2.1) = am_pick [213, 1, 1, 3, 2, 1, 1, 2] lw_tbl := by rfl
set_option maxRecDepth 100000 in
set_option maxHeartbeats 4000000 in
theorem am_kf3 : (am_fls.getD 3 []).map (fun q => Cond.fieldLink (am_cn 3) q.1 (am_Tf q.2.1 q.2.2).1 (am_Tf q.2.1 q.2.2).2.1 (am_Tf q.2.1 q.2.2).2.2.1) = am_pick [95, 4, 42, 17, 30, 25, 14, 30, 95, 0, 0, 0, 0, 0, 0, 0, 0, 0, 0, 0] lw_tbl := by rfl
set_option maxRecDepth 100000 in
set_option maxHeartbeats 4000000 in
theorem am_kf4 : (am_fls.getD 4 []).map (fun q => Cond.fieldLink (am_cn 4) q.1 (am_Tf q.2.1 q.2.2).1 (am_Tf q.2.1 q.2.2).2.1 (am_Tf q.2.1 q.2.2).2.2.1) = am_pick [96, 2, 58, 104, 49, 0, 0, 0, 1] lw_tbl := by rfl
set_option maxRecDepth 100000 in
set_option maxHeartbeats 4000000 in
theorem am_kf5 : (am_fls.getD 5 []).map (fun q => Cond.fieldLink (am_cn 5) q.1 (am_Tf q.2.1 q.2.2).1 (am_Tf q.2.1 q.2.2).2.1 (am_Tf q.2.1 q.2.2).2.2.1) = am_pick [185, 0, 0, 0, 0, 1] lw_tbl := by rfl
set_option maxRecDepth 100000 in
set_option maxHeartbeats 4000000 in
theorem am_kf6 : (am_fls.getD 6 []).map (fun q => Cond.fieldLink (am_cn 6) q.1 (am_Tf q.2.1 q.2.2).1 (am_Tf q.2.1 q.2.2).2.1 (am_Tf q.2.1 q.2.2).2.2.1) = am_pick [421, 0, 0, 0, 0, 0, 0, 1] lw_tbl := by rfl
set_option maxRecDepth 100000 in
set_option maxHeartbeats 4000000 in
theorem am_kf7 : (am_fls.getD 7 []).map (fun q => Cond.fieldLink (am_cn 7) q.1 (am_Tf q.2.1 q.2.2).1 (am_Tf q.2.1 q.2.2).2.1 (am_Tf q.2.1 q.2.2).2.2.1) = am_pick [139, 2, 4, 5, 6, 53, 1, 2, 2, 2, 3, 2, 84, 19, 0, 0, 0, 0] lw_tbl := by rfl
set_option maxRecDepth 100000 in
set_option maxHeartbeats 4000000 in
theorem am_kf8 : (am_fls.getD 8 []).map (fun q => Cond.fieldLink (am_cn 8) q.1 (am_Tf q.2.1 q.2.2).1 (am_Tf q.2.1 q.2.2).2.1 (am_Tf q.2.1 q.2.2).2.2.1) = am_pick [78, 2, 1, 1, 1, 1, 0, 0, 0, 0, 0, 3] lw_tbl := by rfl
set_option maxRecDepth 100000 in
set_option maxHeartbeats 4000000 in
theorem am_kf9 : (am_fls.getD 9 []).map (fun q => Cond.fieldLink (am_cn 9) q.1 (am_Tf q.2.1 q.2.2).1 (am_Tf q.2.1 q.2.2).2.1 (am_Tf q.2.1 q.2.2).2.2.1) = am_pick [403, 0, 1] lw_tbl := by rfl
set_option maxRecDepth 100000 in
set_option maxHeartbeats 4000000 in
theorem am_kf10 : (am_fls.getD 10 []).map (fun q => Cond.fieldLink (am_cn 10) q.1 (am_Tf q.2.1 q.2.2).1 (am_Tf q.2.1 q.2.2).2.1 (am_Tf q.2.1 q.2.2).2.2.1) = am_pick [79, 17, 3, 35, 2, 3, 3, 2, 2, 4, 30, 2, 26, 2, 3, 2, 3, 170, 1, 20, 1, 17, 0, 0, 0, 0, 0, 0, 0, 0, 0, 0, 0] lw_tbl := by rfl
set_option maxRecDepth 100000 in
set_option maxHeartbeats 4000000 in
theorem am_kf11 : (am_fls.getD 11 []).map (fun q => Cond.fieldLink (am_cn 11) q.1 (am_Tf q.2.1 q.2.2).1 (am_Tf q.2.1 q.2.2).2.1 (am_Tf q.2.1 q.2.2).2.2.1) = am_pick [1041, 0, 0, 0, 0, 0, 0, 0, 0, 0, 0, 0, 0, 0, 0, 0, 0, 0, 0, 0, 0, 0, 0, 0, 0, 0, 0, 0, 0, 0, 0, 0, 0, 0, 0, 0, 0, 0, 0, 0, 0, 0, 0, 0, 0, 0, 0, 0, 0, 0, 0, 0, 0, 0, 0, 0, 0, 0, 0] lw_tbl := by rfl
theorem am_kfs : ∀ (o : Nat), ∀ q ∈ am_fls.getD o [], Cond.fieldLink (am_cn o) q.1 (am_Tf q.2.1 q.2.2).1 (am_Tf q.2.1 q.2.2).2.1 (am_Tf q.2.1 q.2.2).2.2.1 ∈ lw_tbl := fun o => match o with
  | 0 => am_pick_of am_kf0
  | 1 => am_pick_of am_kf1
  | 2 => am_pick_of am_kf2
  | 3 => am_pick_of am_kf3
  | 4 => am_pick_of am_kf4
  | 5 => am_pick_of am_kf5
  | 6 => am_pick_of am_kf6
  | 7 => am_pick_of am_kf7
  | 8 => am_pick_of am_kf8
  | 9 => am_pick_of am_kf9
  | 10 => am_pick_of am_kf10
  | 11 => am_pick_of am_kf11
  | 12 => fun q hq => by cases hq
  | 13 => fun q hq => by cases hq
  | 14 => fun q hq => by cases hq
  | 15 => fun q hq => by cases hq
  | 16 => fun q hq => by cases hq
  | 17 => fun q hq => by cases hq
  | 18 => fun q hq => by cases hq
  | n + 19 => fun q hq => by cases hq
theorem am_kfb : (am_fls.all fun l => l.all fun q => decide (q.2.2 < am_nf q.2.1) && decide (q.2.1 < 12)) = true := by decide +kernel
set_option maxRecDepth 100000 in
set_option maxHeartbeats 4000000 in
theorem am_km1 : ((am_cls.getD 1 []).filter (fun q => !q.2.2)).map (fun q => Cond.methodLink (am_cn 1) q.1 (am_y q.2.1)) = am_pick [594, 3, 10, 3, 2, 3, 3, 3, 3, 3, 3, 3, 2, 4, 15] lw_tbl := by rfl
set_option maxRecDepth 100000 in
set_option maxHeartbeats 4000000 in
theorem am_km2 : ((am_cls.getD 2 []).filter (fun q => !q.2.2)).map (fun q => Cond.methodLink (am_cn 2) q.1 (am_y q.2.1)) = am_pick [769] lw_tbl := by rfl
set_option maxRecDepth 100000 in
set_option maxHeartbeats 4000000 in
theorem am_km3 : ((am_cls.getD 3 []).filter (fun q => !q.2.2)).map (fun q => Cond.methodLink (am_cn 3) q.1 (am_y q.2.1)) = am_pick [799, 0, 3, 0, 0, 2, 6, 0, 0, 4, 28, 9, 4, 4] lw_tbl := by rfl
set_option maxRecDepth 100000 in
set_option maxHeartbeats 4000000 in
theorem am_km4 : ((am_cls.getD 4 []).filter (fun q => !q.2.2)).map (fun q => Cond.methodLink (am_cn 4) q.1 (am_y q.2.1)) = am_pick [721, 0] lw_tbl := by rfl
set_option maxRecDepth 100000 in
set_option maxHeartbeats 4000000 in
theorem am_km5 : ((am_cls.getD 5 []).filter (fun q => !q.2.2)).map (fun q => Cond.methodLink (am_cn 5) q.1 (am_y q.2.1)) = am_pick [732, 267] lw_tbl := by rfl
set_option maxRecDepth 100000 in
set_option maxHeartbeats 4000000 in
theorem am_km6 : ((am_cls.getD 6 []).filter (fun q => !q.2.2)).map (fun q => Cond.methodLink (am_cn 6) q.1 (am_y q.2.1)) = am_pick [891, 59, 4, 4, 3, 0, 2, 5, 31, 3] lw_tbl := by rfl
set_option maxRecDepth 100000 in
set_option maxHeartbeats 4000000 in
theorem am_km7 : ((am_cls.getD 7 []).filter (fun q => !q.2.2)).map (fun q => Cond.methodLink (am_cn 7) q.1 (am_y q.2.1)) = am_pick [572, 3, 151, 15, 39, 0, 0] lw_tbl := by rfl
set_option maxRecDepth 100000 in
set_option maxHeartbeats 4000000 in
theorem am_km9 : ((am_cls.getD 9 []).filter (fun q => !q.2.2)).map (fun q => Cond.methodLink (am_cn 9) q.1 (am_y q.2.1)) = am_pick [895, 9, 37, 3, 7] lw_tbl := by rfl
set_option maxRecDepth 100000 in
set_option maxHeartbeats 4000000 in
theorem am_km10 : ((am_cls.getD 10 []).filter (fun q => !q.2.2)).map (fun q => Cond.methodLink (am_cn 10) q.1 (am_y q.2.1)) = am_pick [254, 53, 23, 22, 133, 2, 4, 2, 10, 4, 2, 7, 2, 7, 11, 2, 2, 3, 3, 3, 21, 14, 50, 7, 11, 7, 7, 3, 0, 3, 15, 6, 15, 8, 7, 7, 11, 2, 14, 23, 8, 4, 4, 0, 3, 4, 8, 5, 4, 8, 8, 91, 3, 8, 3, 0, 6, 23, 3] lw_tbl := by rfl
set_option maxRecDepth 100000 in
set_option maxHeartbeats 4000000 in
theorem am_km11 : ((am_cls.getD 11 []).filter (fun q => !q.2.2)).map (fun q => Cond.methodLink (am_cn 11) q.1 (am_y q.2.1)) = am_pick [1223, 3, 2, 2, 3, 13, 28, 8, 3, 4, 3, 2, 3, 19, 3, 13, 7, 3, 3, 7, 7, 11, 3, 7, 3, 12, 3, 19, 13, 3, 3, 2, 3, 3, 3, 2, 7, 3, 3] lw_tbl := by rfl
set_option maxRecDepth 100000 in
set_option maxHeartbeats 4000000 in
theorem am_km14 : ((am_cls.getD 14 []).filter (fun q => !q.2.2)).map (fun q => Cond.methodLink (am_cn 14) q.1 (am_y q.2.1)) = am_pick [899, 9, 3, 7] lw_tbl := by rfl
set_option maxRecDepth 100000 in
set_option maxHeartbeats 4000000 in
theorem am_km15 : ((am_cls.getD 15 []).filter (fun q => !q.2.2)).map (fun q => Cond.methodLink (am_cn 15) q.1 (am_y q.2.1)) = am_pick [916] lw_tbl := by rfl
set_option maxRecDepth 100000 in
set_option maxHeartbeats 4000000 in
theorem am_km18 : ((am_cls.getD 18 []).filter (fun q => !q.2.2)).map (fun q => Cond.methodLink (am_cn 18) q.1 (am_y q.2.1)) = am_pick [64, 420, 21, 4, 10, 10, 7, 3, 35, 3, 73, 11, 7, 7, 16, 3, 3, 22, 8, 7, 7, 11, 13, 3, 37, 4, 9, 8, 19, 8, 104, 27, 3, 3, 13, 181, 21, 3, 8, 5, 4, 3, 6, 7, 28, 3, 3, 3, 12, 4, 7, 15, 7, 7, 3, 11, 11, 4, 11, 3, 3, 3, 7, 5, 33, 14, 3, 3] lw_tbl := by rfl
theorem am_kms : ∀ (o : Nat), ∀ q ∈ (am_cls.getD o []).filter (fun q => !q.2.2), Cond.methodLink (am_cn o) q.1 (am_y q.2.1) ∈ lw_tbl := fun o => match o with
  | 0 => fun q hq => by cases hq
  | 1 => am_pick_of am_km1
  | 2 => am_pick_of am_km2
  | 3 => am_pick_of am_km3
  | 4 => am_pick_of am_km4
  | 5 => am_pick_of am_km5
  | 6 => am_pick_of am_km6
  | 7 => am_pick_of am_km7
  | 8 => fun q hq => by cases hq
  | 9 => am_pick_of am_km9
  | 10 => am_pick_of am_km10
  | 11 => am_pick_of am_km11
  | 12 => fun q hq => by cases hq
  | 13 => fun q hq => by cases hq
  | 14 => am_pick_of am_km14
  | 15 => am_pick_of am_km15
  | 16 => fun q hq => by cases hq
  | 17 => fun q hq => by cases hq
  | 18 => am_pick_of am_km18
  | n + 19 => fun q hq => by cases hq
def am_nlk : List (Nat × Nat × Nat) := [(10, 11, 1), (10, 18, 2), (10, 25, 3), (10, 32, 4), (10, 78, 9), (10, 85, 10), (8, 52, 16), (7, 63, 36), (1, 152, 12), (1, 155, 16), (5, 41, 16), (2, 42, 36), (3, 78, 92)]
set_option maxRecDepth 100000 in
set_option maxHeartbeats 4000000 in
theorem am_kn : am_nlk.map (fun q => Cond.methodLinkNest (am_cn q.1) q.2.1 (am_y q.2.2) "DriftCards") = am_pick [72, 58, 49, 27, 189, 17, 86, 74, 70, 0, 83, 36, 40] lw_tbl := by rfl
theorem am_kbb : (am_cls.all fun l => l.all fun q => decide (q.2.1 < 210)) = true := by decide +kernel
theorem am_knb : ((List.range 19).all fun o => (am_cls.getD o []).all fun q => !q.2.2 || am_nlk.contains (o, q.1, q.2.1)) = true := by decide +kernel
def am_sta : List Nat := [12, 13, 14, 16, 19, 22, 28, 29, 35, 36, 41, 44, 52, 53, 64, 73, 82, 84, 90, 92, 113, 114, 115, 121, 122, 128, 139, 140, 141, 146, 157, 165, 197, 201, 206]
set_option maxRecDepth 100000 in
set_option maxHeartbeats 4000000 in
theorem am_sta_k : am_sta.map (fun j => Cond.static (am_y j)) = am_pick [490, 2, 4, 6, 11, 10, 22, 2, 22, 2, 18, 14, 30, 2, 44, 39, 36, 7, 28, 6, 99, 2, 4, 44, 8, 24, 222, 3, 2, 20, 50, 30, 132, 14, 18] lw_tbl := by rfl
def am_ins : List Nat := [0, 1, 2, 3, 4, 5, 6, 7, 8, 9, 10, 11, 15, 17, 18, 20, 21, 23, 24, 25, 26, 27, 30, 31, 32, 33, 34, 37, 38, 39, 40, 42, 43, 45, 46, 47, 48, 49, 50, 51, 54, 55, 56, 57, 58, 59, 60, 61, 62, 63, 65, 66, 67, 68, 69, 70, 71, 72, 74, 75, 76, 77, 78, 79, 80, 81, 83, 85, 86, 87, 88, 89, 91, 93, 94, 95, 96, 97, 98, 99, 100, 101, 102, 103, 104, 105, 106, 107, 108, 109, 110, 111, 112, 116, 117, 118, 119, 120, 123, 124, 125, 126, 127, 129, 130, 131, 132, 133, 134, 135, 136, 137, 138, 142, 143, 144, 145, 147, 148, 149, 150, 151, 152, 153, 154, 155, 156, 158, 159, 160, 161, 162, 163, 164, 166, 167, 168, 169, 170, 171, 172, 173, 174, 175, 176, 177, 178, 179, 180, 181, 182, 183, 184, 185, 186, 187, 188, 189, 190, 191, 192, 193, 194, 195, 196, 198, 199, 200, 202, 203, 204, 205, 207, 208, 209]
set_option maxRecDepth 100000 in
set_option maxHeartbeats 4000000 in
theorem am_ins_k : am_ins.map (fun j => Cond.instanceMethod (am_y j)) = am_pick [65, 7, 58, 49, 27, 44, 53, 23, 22, 43, 17, 67, 14, 6, 4, 6, 3, 6, 3, 3, 3, 3, 9, 3, 3, 3, 4, 8, 3, 3, 3, 10, 4, 6, 2, 4, 2, 3, 4, 3, 11, 2, 3, 3, 3, 3, 3, 3, 3, 3, 8, 3, 3, 3, 3, 3, 6, 3, 7, 3, 4, 3, 3, 3, 3, 3, 7, 6, 6, 3, 3, 4, 8, 9, 3, 5, 4, 4, 4, 3, 4, 3, 5, 4, 4, 3, 4, 3, 4, 3, 3, 5, 3, 33, 3, 3, 4, 5, 15, 3, 4, 4, 3, 6, 4, 3, 2, 3, 3, 3, 3, 5, 181, 14, 3, 2, 3, 8, 5, 4, 3, 6, 4, 2, 5, 3, 4, 6, 3, 2, 3, 3, 3, 4, 7, 4, 4, 2, 4, 3, 3, 2, 4, 2, 4, 2, 3, 4, 3, 2, 4, 3, 2, 4, 4, 3, 2, 3, 3, 3, 4, 2, 5, 4, 3, 6, 3, 3, 6, 2, 4, 3, 5, 3, 3] lw_tbl := by rfl
def am_sel : List Nat := [34, 43, 45, 47, 50, 51, 54, 120, 126, 130, 131, 142, 143, 152, 154, 155, 156, 158, 159, 164, 168, 170, 171, 172, 174, 176, 179, 180, 182, 183, 186, 187, 192, 195, 196, 198, 199, 200, 202, 204, 205, 11, 15, 17, 18, 20, 21, 23, 24, 25, 26, 27, 30, 31, 32, 33, 37, 38, 39, 40, 42, 46, 48, 49, 55, 56, 57, 58, 59, 60, 61, 62, 63, 65, 66, 67, 68, 69, 70, 71, 72, 74, 75, 76, 77, 78, 79, 80, 81, 83, 85, 86, 87, 88, 89, 91, 93, 94, 95, 96, 97, 98, 99, 100, 101, 102, 103, 104, 105, 106, 107, 108, 109, 110, 111, 112, 116, 117, 118, 119, 123, 124, 125, 127, 129, 132, 133, 134, 135, 136, 138, 144, 145, 147, 148, 149, 150, 151, 153, 160, 161, 162, 163, 166, 167, 169, 173, 175, 177, 178, 181, 184, 185, 188, 189, 190, 191, 193, 194, 203, 207, 208, 209]
set_option maxRecDepth 100000 in
set_option maxHeartbeats 4000000 in
theorem am_sel_k : am_sel.map (fun j => Cond.selects (am_y j).cls (am_y j) (am_y j)) = am_pick [0, 0, 0, 0, 0, 0, 0, 0, 0, 0, 0, 0, 0, 0, 0, 0, 0, 0, 0, 0, 0, 0, 0, 0, 0, 0, 0, 0, 0, 0, 0, 0, 0, 0, 0, 0, 0, 0, 0, 0, 0, 446, 14, 6, 4, 6, 3, 6, 3, 3, 3, 3, 9, 3, 3, 3, 13, 3, 3, 3, 10, 14, 7, 3, 23, 3, 3, 3, 3, 3, 3, 3, 3, 8, 3, 3, 3, 3, 3, 6, 3, 7, 3, 4, 3, 3, 3, 3, 3, 7, 6, 6, 3, 3, 4, 8, 9, 3, 5, 4, 4, 4, 3, 4, 3, 5, 4, 4, 3, 4, 3, 4, 3, 3, 5, 3, 33, 3, 3, 4, 21, 3, 4, 8, 6, 11, 3, 3, 3, 3, 187, 21, 3, 8, 5, 4, 3, 6, 7, 28, 3, 3, 3, 12, 4, 7, 15, 7, 7, 3, 11, 11, 4, 11, 3, 3, 3, 7, 5, 33, 14, 3, 3] lw_tbl := by rfl
def am_ini : List Nat := [18, 10, 8, 0, 5, 2, 1, 4, 7, 3, 9, 6, 11, 16, 13, 12, 14, 15, 17]
set_option maxRecDepth 100000 in
set_option maxHeartbeats 4000000 in
theorem am_ini_k : am_ini.map (fun j => Cond.initialized (am_cn j)) = am_pick [41, 0, 0, 0, 0, 0, 0, 0, 0, 0, 0, 0, 0, 0, 1, 0, 0, 0, 0] lw_tbl := by rfl
set_option maxRecDepth 100000 in
set_option maxHeartbeats 4000000 in
theorem am_ly0 : u_ws RX0 TX0 8 = am_pick [162, 1, 1, 1, 1, 1, 1, 1] lw_tbl := by rfl
set_option maxRecDepth 100000 in
set_option maxHeartbeats 4000000 in
theorem am_ly1 : u_ws RX1 TX1 15 = am_pick [275, 1, 1, 1, 1, 1, 1, 1, 1, 1, 1, 1, 1, 1, 1] lw_tbl := by rfl
set_option maxRecDepth 100000 in
set_option maxHeartbeats 4000000 in
theorem am_ly2 : u_ws RX2 TX2 8 = am_pick [235, 1, 1, 1, 1, 1, 1, 1] lw_tbl := by rfl
set_option maxRecDepth 100000 in
set_option maxHeartbeats 4000000 in
theorem am_ly3 : u_ws RX3 TX3 12 = am_pick [372, 1, 1, 1, 1, 1, 1, 1, 1, 1, 1, 1] lw_tbl := by rfl
set_option maxRecDepth 100000 in
set_option maxHeartbeats 4000000 in
theorem am_ly4 : u_ws RX4 TX4 5 = am_pick [319, 1, 1, 1, 1] lw_tbl := by rfl
set_option maxRecDepth 100000 in
set_option maxHeartbeats 4000000 in
theorem am_ly5 : u_ws RX5 TX5 6 = am_pick [194, 1, 1, 1, 1, 1] lw_tbl := by rfl
set_option maxRecDepth 100000 in
set_option maxHeartbeats 4000000 in
theorem am_ly6 : u_ws RX6 TX6 8 = am_pick [431, 1, 1, 1, 1, 1, 1, 1] lw_tbl := by rfl
set_option maxRecDepth 100000 in
set_option maxHeartbeats 4000000 in
theorem am_ly7 : u_ws RX7 TX7 5 = am_pick [342, 1, 1, 1, 1] lw_tbl := by rfl
set_option maxRecDepth 100000 in
set_option maxHeartbeats 4000000 in
theorem am_ly8 : u_ws RX8 TX8 12 = am_pick [102, 1, 1, 1, 1, 1, 1, 1, 1, 1, 1, 1] lw_tbl := by rfl
set_option maxRecDepth 100000 in
set_option maxHeartbeats 4000000 in
theorem am_ly9 : u_ws RX9 TX9 3 = am_pick [408, 1, 1] lw_tbl := by rfl
set_option maxRecDepth 100000 in
set_option maxHeartbeats 4000000 in
theorem am_ly10 : u_ws RX10 TX10 12 = am_pick [460, 1, 1, 1, 1, 1, 1, 1, 1, 1, 1, 1] lw_tbl := by rfl
set_option maxRecDepth 100000 in
set_option maxHeartbeats 4000000 in
theorem am_ly11 : u_ws RX11 TX11 59 = am_pick [1100, 1, 1, 1, 1, 1, 1, 1, 1, 1, 1, 1, 1, 1, 1, 1, 1, 1, 1, 1, 1, 1, 1, 1, 1, 1, 1, 1, 1, 1, 1, 1, 1, 1, 1, 1, 1, 1, 1, 1, 1, 1, 1, 1, 1, 1, 1, 1, 1, 1, 1, 1, 1, 1, 1, 1, 1, 1, 1] lw_tbl := by rfl
def am_inq : List Nat := [10, 8, 0, 5, 2, 1, 4, 7, 3, 9, 6, 11]
set_option maxRecDepth 100000 in
set_option maxHeartbeats 4000000 in
theorem am_inq_k : am_inq.map (fun j => Cond.instantiable (am_cn j) (am_nf j)) = am_pick [63, 7, 58, 49, 27, 44, 53, 23, 22, 43, 17, 619] lw_tbl := by rfl
set_option maxRecDepth 100000 in
set_option maxHeartbeats 4000000 in
theorem am_kw10 : (am_nws.getD 10 []).map (fun q => Cond.classLink (am_cn 10) q.1 (am_cn q.2)) = am_pick [70, 58, 49, 27, 44, 53, 23, 22, 43, 17] lw_tbl := by rfl
set_option maxRecDepth 100000 in
set_option maxHeartbeats 4000000 in
theorem am_kw18 : (am_nws.getD 18 []).map (fun q => Cond.classLink (am_cn 18) q.1 (am_cn q.2)) = am_pick [62, 972] lw_tbl := by rfl
theorem am_kws : ∀ (o : Nat), ∀ q ∈ am_nws.getD o [], Cond.classLink (am_cn o) q.1 (am_cn q.2) ∈ lw_tbl := fun o => match o with
  | 0 => fun q hq => by cases hq
  | 1 => fun q hq => by cases hq
  | 2 => fun q hq => by cases hq
  | 3 => fun q hq => by cases hq
  | 4 => fun q hq => by cases hq
  | 5 => fun q hq => by cases hq
  | 6 => fun q hq => by cases hq
  | 7 => fun q hq => by cases hq
  | 8 => fun q hq => by cases hq
  | 9 => fun q hq => by cases hq
  | 10 => am_pick_of am_kw10
  | 11 => fun q hq => by cases hq
  | 12 => fun q hq => by cases hq
  | 13 => fun q hq => by cases hq
  | 14 => fun q hq => by cases hq
  | 15 => fun q hq => by cases hq
  | 16 => fun q hq => by cases hq
  | 17 => fun q hq => by cases hq
  | 18 => am_pick_of am_kw18
  | n + 19 => fun q hq => by cases hq
set_option maxRecDepth 100000 in
set_option maxHeartbeats 4000000 in
theorem am_kg3 : (am_ggs.getD 3 []).map (fun q => Cond.classLink (am_cn 3) q "[[I") = am_pick [359] lw_tbl := by rfl
set_option maxRecDepth 100000 in
set_option maxHeartbeats 4000000 in
theorem am_kg4 : (am_ggs.getD 4 []).map (fun q => Cond.classLink (am_cn 4) q "[[I") = am_pick [312] lw_tbl := by rfl
set_option maxRecDepth 100000 in
set_option maxHeartbeats 4000000 in
theorem am_kg7 : (am_ggs.getD 7 []).map (fun q => Cond.classLink (am_cn 7) q "[[I") = am_pick [336] lw_tbl := by rfl
set_option maxRecDepth 100000 in
set_option maxHeartbeats 4000000 in
theorem am_kg8 : (am_ggs.getD 8 []).map (fun q => Cond.classLink (am_cn 8) q "[[I") = am_pick [76] lw_tbl := by rfl
theorem am_kgs : ∀ (o : Nat), ∀ q ∈ am_ggs.getD o [], Cond.classLink (am_cn o) q "[[I" ∈ lw_tbl := fun o => match o with
  | 0 => fun q hq => by cases hq
  | 1 => fun q hq => by cases hq
  | 2 => fun q hq => by cases hq
  | 3 => am_pick_of am_kg3
  | 4 => am_pick_of am_kg4
  | 5 => fun q hq => by cases hq
  | 6 => fun q hq => by cases hq
  | 7 => am_pick_of am_kg7
  | 8 => am_pick_of am_kg8
  | 9 => fun q hq => by cases hq
  | 10 => fun q hq => by cases hq
  | 11 => fun q hq => by cases hq
  | 12 => fun q hq => by cases hq
  | 13 => fun q hq => by cases hq
  | 14 => fun q hq => by cases hq
  | 15 => fun q hq => by cases hq
  | 16 => fun q hq => by cases hq
  | 17 => fun q hq => by cases hq
  | 18 => fun q hq => by cases hq
  | n + 19 => fun q hq => by cases hq
set_option maxRecDepth 100000 in
set_option maxHeartbeats 4000000 in
theorem am_kci1 : (am_kis.getD 1 []).map (fun q => Cond.constant (am_cn 1) q.1 q.2) = am_pick [604] lw_tbl := by rfl
set_option maxRecDepth 100000 in
set_option maxHeartbeats 4000000 in
theorem am_kci10 : (am_kis.getD 10 []).map (fun q => Cond.constant (am_cn 10) q.1 q.2) = am_pick [695] lw_tbl := by rfl
set_option maxRecDepth 100000 in
set_option maxHeartbeats 4000000 in
theorem am_kci11 : (am_kis.getD 11 []).map (fun q => Cond.constant (am_cn 11) q.1 q.2) = am_pick [1297] lw_tbl := by rfl
theorem am_kcis : ∀ (o : Nat), ∀ q ∈ am_kis.getD o [], Cond.constant (am_cn o) q.1 q.2 ∈ lw_tbl := fun o => match o with
  | 0 => fun q hq => by cases hq
  | 1 => am_pick_of am_kci1
  | 2 => fun q hq => by cases hq
  | 3 => fun q hq => by cases hq
  | 4 => fun q hq => by cases hq
  | 5 => fun q hq => by cases hq
  | 6 => fun q hq => by cases hq
  | 7 => fun q hq => by cases hq
  | 8 => fun q hq => by cases hq
  | 9 => fun q hq => by cases hq
  | 10 => am_pick_of am_kci10
  | 11 => am_pick_of am_kci11
  | 12 => fun q hq => by cases hq
  | 13 => fun q hq => by cases hq
  | 14 => fun q hq => by cases hq
  | 15 => fun q hq => by cases hq
  | 16 => fun q hq => by cases hq
  | 17 => fun q hq => by cases hq
  | 18 => fun q hq => by cases hq
  | n + 19 => fun q hq => by cases hq
set_option maxRecDepth 100000 in
set_option maxHeartbeats 4000000 in
theorem am_kcl3 : (am_kls.getD 3 []).map (fun q => Cond.constantLong (am_cn 3) q.1 q.2) = am_pick [827] lw_tbl := by rfl
set_option maxRecDepth 100000 in
set_option maxHeartbeats 4000000 in
theorem am_kcl9 : (am_kls.getD 9 []).map (fun q => Cond.constantLong (am_cn 9) q.1 q.2) = am_pick [881] lw_tbl := by rfl
set_option maxRecDepth 100000 in
set_option maxHeartbeats 4000000 in
theorem am_kcl11 : (am_kls.getD 11 []).map (fun q => Cond.constantLong (am_cn 11) q.1 q.2) = am_pick [1226, 22, 0, 7, 0, 4, 8, 0, 0, 12, 47, 0, 4, 72, 36, 0] lw_tbl := by rfl
set_option maxRecDepth 100000 in
set_option maxHeartbeats 4000000 in
theorem am_kcl18 : (am_kls.getD 18 []).map (fun q => Cond.constantLong (am_cn 18) q.1 q.2) = am_pick [1515] lw_tbl := by rfl
theorem am_kcls : ∀ (o : Nat), ∀ q ∈ am_kls.getD o [], Cond.constantLong (am_cn o) q.1 q.2 ∈ lw_tbl := fun o => match o with
  | 0 => fun q hq => by cases hq
  | 1 => fun q hq => by cases hq
  | 2 => fun q hq => by cases hq
  | 3 => am_pick_of am_kcl3
  | 4 => fun q hq => by cases hq
  | 5 => fun q hq => by cases hq
  | 6 => fun q hq => by cases hq
  | 7 => fun q hq => by cases hq
  | 8 => fun q hq => by cases hq
  | 9 => am_pick_of am_kcl9
  | 10 => fun q hq => by cases hq
  | 11 => am_pick_of am_kcl11
  | 12 => fun q hq => by cases hq
  | 13 => fun q hq => by cases hq
  | 14 => fun q hq => by cases hq
  | 15 => fun q hq => by cases hq
  | 16 => fun q hq => by cases hq
  | 17 => fun q hq => by cases hq
  | 18 => am_pick_of am_kcl18
  | n + 19 => fun q hq => by cases hq
set_option maxRecDepth 100000 in
set_option maxHeartbeats 4000000 in
theorem am_ko0 : (am_ois.getD 0 []).map (fun q => Cond.methodLink (am_cn 0) q objectInit) = am_pick [134] lw_tbl := by rfl
set_option maxRecDepth 100000 in
set_option maxHeartbeats 4000000 in
theorem am_ko1 : (am_ois.getD 1 []).map (fun q => Cond.methodLink (am_cn 1) q objectInit) = am_pick [257] lw_tbl := by rfl
set_option maxRecDepth 100000 in
set_option maxHeartbeats 4000000 in
theorem am_ko2 : (am_ois.getD 2 []).map (fun q => Cond.methodLink (am_cn 2) q objectInit) = am_pick [212] lw_tbl := by rfl
set_option maxRecDepth 100000 in
set_option maxHeartbeats 4000000 in
theorem am_ko3 : (am_ois.getD 3 []).map (fun q => Cond.methodLink (am_cn 3) q objectInit) = am_pick [358] lw_tbl := by rfl
set_option maxRecDepth 100000 in
set_option maxHeartbeats 4000000 in
theorem am_ko4 : (am_ois.getD 4 []).map (fun q => Cond.methodLink (am_cn 4) q objectInit) = am_pick [311] lw_tbl := by rfl
set_option maxRecDepth 100000 in
set_option maxHeartbeats 4000000 in
theorem am_ko5 : (am_ois.getD 5 []).map (fun q => Cond.methodLink (am_cn 5) q objectInit) = am_pick [184] lw_tbl := by rfl
set_option maxRecDepth 100000 in
set_option maxHeartbeats 4000000 in
theorem am_ko6 : (am_ois.getD 6 []).map (fun q => Cond.methodLink (am_cn 6) q objectInit) = am_pick [420] lw_tbl := by rfl
set_option maxRecDepth 100000 in
set_option maxHeartbeats 4000000 in
theorem am_ko7 : (am_ois.getD 7 []).map (fun q => Cond.methodLink (am_cn 7) q objectInit) = am_pick [335] lw_tbl := by rfl
set_option maxRecDepth 100000 in
set_option maxHeartbeats 4000000 in
theorem am_ko8 : (am_ois.getD 8 []).map (fun q => Cond.methodLink (am_cn 8) q objectInit) = am_pick [75] lw_tbl := by rfl
set_option maxRecDepth 100000 in
set_option maxHeartbeats 4000000 in
theorem am_ko9 : (am_ois.getD 9 []).map (fun q => Cond.methodLink (am_cn 9) q objectInit) = am_pick [402] lw_tbl := by rfl
set_option maxRecDepth 100000 in
set_option maxHeartbeats 4000000 in
theorem am_ko10 : (am_ois.getD 10 []).map (fun q => Cond.methodLink (am_cn 10) q objectInit) = am_pick [67] lw_tbl := by rfl
set_option maxRecDepth 100000 in
set_option maxHeartbeats 4000000 in
theorem am_ko11 : (am_ois.getD 11 []).map (fun q => Cond.methodLink (am_cn 11) q objectInit) = am_pick [1040] lw_tbl := by rfl
theorem am_kos : ∀ (o : Nat), ∀ q ∈ am_ois.getD o [], Cond.methodLink (am_cn o) q objectInit ∈ lw_tbl := fun o => match o with
  | 0 => am_pick_of am_ko0
  | 1 => am_pick_of am_ko1
  | 2 => am_pick_of am_ko2
  | 3 => am_pick_of am_ko3
  | 4 => am_pick_of am_ko4
  | 5 => am_pick_of am_ko5
  | 6 => am_pick_of am_ko6
  | 7 => am_pick_of am_ko7
  | 8 => am_pick_of am_ko8
  | 9 => am_pick_of am_ko9
  | 10 => am_pick_of am_ko10
  | 11 => am_pick_of am_ko11
  | 12 => fun q hq => by cases hq
  | 13 => fun q hq => by cases hq
  | 14 => fun q hq => by cases hq
  | 15 => fun q hq => by cases hq
  | 16 => fun q hq => by cases hq
  | 17 => fun q hq => by cases hq
  | 18 => fun q hq => by cases hq
  | n + 19 => fun q hq => by cases hq
set_option maxRecDepth 100000 in
set_option maxHeartbeats 4000000 in
theorem am_ka1 : (am_acs.getD 1 []).map (fun q => Cond.methodLink (am_cn 1) q arraycopyName) = am_pick [601] lw_tbl := by rfl
set_option maxRecDepth 100000 in
set_option maxHeartbeats 4000000 in
theorem am_ka3 : (am_acs.getD 3 []).map (fun q => Cond.methodLink (am_cn 3) q arraycopyName) = am_pick [861] lw_tbl := by rfl
set_option maxRecDepth 100000 in
set_option maxHeartbeats 4000000 in
theorem am_ka4 : (am_acs.getD 4 []).map (fun q => Cond.methodLink (am_cn 4) q arraycopyName) = am_pick [723] lw_tbl := by rfl
theorem am_kas : ∀ (o : Nat), ∀ q ∈ am_acs.getD o [], Cond.methodLink (am_cn o) q arraycopyName ∈ lw_tbl := fun o => match o with
  | 0 => fun q hq => by cases hq
  | 1 => am_pick_of am_ka1
  | 2 => fun q hq => by cases hq
  | 3 => am_pick_of am_ka3
  | 4 => am_pick_of am_ka4
  | 5 => fun q hq => by cases hq
  | 6 => fun q hq => by cases hq
  | 7 => fun q hq => by cases hq
  | 8 => fun q hq => by cases hq
  | 9 => fun q hq => by cases hq
  | 10 => fun q hq => by cases hq
  | 11 => fun q hq => by cases hq
  | 12 => fun q hq => by cases hq
  | 13 => fun q hq => by cases hq
  | 14 => fun q hq => by cases hq
  | 15 => fun q hq => by cases hq
  | 16 => fun q hq => by cases hq
  | 17 => fun q hq => by cases hq
  | 18 => fun q hq => by cases hq
  | n + 19 => fun q hq => by cases hq
set_option maxRecDepth 100000 in
set_option maxHeartbeats 4000000 in
theorem am_s1 : Cond.instanceMethod objectInit ∈ lw_tbl := am_pick_1 (gs := [68]) (by rfl)
set_option maxRecDepth 100000 in
set_option maxHeartbeats 4000000 in
theorem am_s2 : Cond.code objectInit ⟨#[0xb1]⟩ 1 none ∈ lw_tbl := am_pick_1 (gs := [69]) (by rfl)
set_option maxRecDepth 100000 in
set_option maxHeartbeats 4000000 in
theorem am_s3 : Cond.native arraycopyName ∈ lw_tbl := am_pick_1 (gs := [603]) (by rfl)
set_option maxRecDepth 100000 in
set_option maxHeartbeats 4000000 in
theorem am_s4 : Cond.static arraycopyName ∈ lw_tbl := am_pick_1 (gs := [602]) (by rfl)
set_option maxRecDepth 100000 in
set_option maxHeartbeats 4000000 in
theorem am_s5 : Cond.initialized "java/lang/System" ∈ lw_tbl := am_pick_1 (gs := [55]) (by rfl)
set_option maxRecDepth 100000 in
set_option maxHeartbeats 4000000 in
theorem am_s6 : Cond.arrayClass .int ∈ lw_tbl := am_pick_1 (gs := [127]) (by rfl)
set_option maxRecDepth 100000 in
set_option maxHeartbeats 4000000 in
theorem am_s7 : Cond.arrayClass .boolean ∈ lw_tbl := am_pick_1 (gs := [128]) (by rfl)
set_option maxRecDepth 100000 in
set_option maxHeartbeats 4000000 in
theorem am_s8 : Cond.arrayOver (.array .int) ∈ lw_tbl := am_pick_1 (gs := [77]) (by rfl)
def am_nas : List Nat := [0, 0, 0, 0, 0, 1, 3, 4, 7, 0, 0, 5, 2, 2, 3, 5, 2, 3, 4, 1, 3, 3, 1, 3, 3, 4, 1, 6, 2, 2, 1, 3, 7, 1, 2, 2, 2, 2, 3, 3, 5, 2, 1, 0, 1, 1, 1, 1, 1, 2, 2, 4, 1, 1, 0, 1, 5, 2, 1, 2, 1, 3, 5, 5, 1, 6, 1, 1, 2, 2, 0, 2, 4, 2, 1, 1, 1, 1, 1, 2, 1, 1, 1, 3, 1, 1, 2, 1, 0, 0, 2, 1, 2, 0, 1, 0, 0, 0, 1, 1, 4, 5, 0, 0, 2, 2, 0, 1, 1, 0, 0, 1, 0, 2, 2, 3, 1, 1, 0, 0, 2, 1, 1, 0, 0, 1, 1, 2, 3, 0, 1, 1, 1, 2, 1, 0, 0, 0, 5, 2, 3, 1, 2, 3, 3, 4, 1, 3, 3, 1, 6, 2, 1, 3, 2, 5, 3, 2, 4, 2, 5, 2, 3, 5, 1, 1, 1, 2, 1, 2, 2, 2, 4, 1, 1, 1, 1, 1, 1, 1, 1, 3, 0, 4, 2, 1, 1, 1, 0, 0, 1, 4, 5, 2, 0, 0, 2, 2, 0, 1, 0, 1, 1, 1, 1, 3, 3, 1, 2, 1, 1]
def am_na (j : Nat) : Nat := am_nas.getD j 0
set_option maxRecDepth 100000 in
set_option maxHeartbeats 4000000 in
theorem am_own : am_ms.map (fun q => q.1.cls) = am_ms.map (fun q => am_cn q.2.2.2.2.1) := by rfl
theorem am_cnp : ((List.range 19).all fun o => decide (am_cn o ≠ "java/lang/invoke/MethodHandle") && decide (am_cn o ≠ "java/lang/invoke/VarHandle")) = true := by decide +kernel
theorem am_pln : (am_ms.all fun q => plainFor q.1) = true := by decide +kernel
theorem am_par : am_ms.map (fun q => (parseMethodDescriptor q.1.desc).map (fun d => d.parameters.length)) = am_nas.map some := by decide +kernel
end
section
/-! ===== an abstract machine: cells are numbered, a memory of ints and of longs, references are numbers of cells ===== -/
abbrev am_M : Type := Nat → Nat → Int32
abbrev am_N : Type := Nat → Nat → Int64
/-- a cell's shape: an array (0 int, 1 boolean, 2 rows that lie behind it) of a length, or an object of a kind with its references -/
abbrev am_E : Type := (Nat × Nat) ⊕ (Nat × List (Option Nat))
abbrev am_V : Type := List Value
abbrev am_Q : Type := Option Value → am_M → am_N → Prop
def am_up (M : am_M) (k j : Nat) (x : Int32) : am_M := fun a b => if a = k then (if b = j then x else M a b) else M a b
def am_upL (N : am_N) (k j : Nat) (x : Int64) : am_N := fun a b => if a = k then (if b = j then x else N a b) else N a b
def am_upR (M : am_M) (k : Nat) (f : Nat → Int32) : am_M := fun a => if a = k then f else M a
def am_tbl : List Cond := lw_tbl.filter goodWord
theorem am_tbl_in {w : Cond} (h : w ∈ lw_tbl) (hg : goodWord w = true) : w ∈ am_tbl := List.mem_filter.mpr ⟨h, hg⟩
def am_in (i pc : Nat) : Option (Instr × Nat) := match decode (am_c i) pc with
  | .ok x => some x
  | .error _ => none
theorem am_in_dec {i pc : Nat} {x : Instr × Nat} (h : am_in i pc = some x) : decode (am_c i) pc = .ok x := by
  unfold am_in at h
  split at h
  · rename_i y hy
    cases h
    exact hy
  · cases h
def am_wide (v : Value) : Bool := match v with
  | .long _ => true
  | .double _ => true
  | _ => false
theorem am_wide_c {v : Value} (h : am_wide v = false) : v.category = 1 := by cases v <;> first | rfl | cases h
def am_unk (v : Value) : Bool := match v with
  | .retAddr _ => true
  | _ => false
def am_set (L : am_V) (i : Nat) (v : Value) : am_V := (match i with
  | 0 => L
  | j + 1 => match L[j]? with
    | some (.long _) => L.set j (.retAddr 0)
    | some (.double _) => L.set j (.retAddr 0)
    | _ => L).set i v
def am_set2 (L : am_V) (i : Nat) (v : Value) : am_V := (am_set L i v).set (i + 1) (.retAddr 0)
theorem am_set_len (L : am_V) (i : Nat) (v : Value) : (am_set L i v).length = L.length := by
  unfold am_set
  rw [List.length_set]
  split
  · rfl
  · split <;> simp
theorem am_set_ne {L : am_V} {i : Nat} {v : Value} {j : Nat} {w : Value} (hj : j ≠ i) (h : (am_set L i v)[j]? = some w) (hw : am_unk w = false) : L[j]? = some w ∧ ¬ (j + 1 = i ∧ w.category = 2) := by
  unfold am_set at h
  rw [List.getElem?_set_ne (fun q => hj q.symm)] at h
  cases i with
  | zero => exact ⟨h, fun q => absurd q.1 (by omega)⟩
  | succ k =>
    have aux : ∀ (l : am_V), (l = L ∧ (∀ z, L[k]? = some z → z.category = 1)) ∨ l = L.set k (.retAddr 0) → l[j]? = some w → L[j]? = some w ∧ ¬ (j + 1 = k + 1 ∧ w.category = 2) := by
      rintro l (⟨rfl, hz⟩ | rfl) h1
      · refine ⟨h1, fun q => ?_⟩
        have e : j = k := by omega
        subst e
        have := hz w h1
        omega
      · by_cases e : j = k
        · subst e
          exfalso
          by_cases hl : j < L.length
          · rw [List.getElem?_set_self hl] at h1
            cases h1
            cases hw
          · rw [List.getElem?_eq_none (by rw [List.length_set]; omega)] at h1
            cases h1
        · rw [List.getElem?_set_ne (fun q => e q.symm)] at h1
          exact ⟨h1, fun q => e (by omega)⟩
    refine aux _ ?_ h
    show ((match L[k]? with
    | some (.long _) => L.set k (.retAddr 0)
    | some (.double _) => L.set k (.retAddr 0)
    | _ => L) = L ∧ (∀ z, L[k]? = some z → z.category = 1)) ∨ (match L[k]? with
    | some (.long _) => L.set k (.retAddr 0)
    | some (.double _) => L.set k (.retAddr 0)
    | _ => L) = L.set k (.retAddr 0)
    cases hk : L[k]? with
    | none => exact Or.inl ⟨rfl, fun z hz => by cases hz⟩
    | some z => cases z <;> first | exact Or.inr rfl | exact Or.inl ⟨rfl, fun z hz => by cases hz; rfl⟩
theorem am_set_self {L : am_V} {i : Nat} {v : Value} (h : i < L.length) : (am_set L i v)[i]? = some v := by
  have h2 : i < (match i with
  | 0 => L
  | j + 1 => match L[j]? with
    | some (.long _) => L.set j (.retAddr 0)
    | some (.double _) => L.set j (.retAddr 0)
    | _ => L).length := by
    have h3 := am_set_len L i v
    unfold am_set at h3
    rw [List.length_set] at h3
    omega
  unfold am_set
  rw [List.getElem?_set_self h2]
/-! addresses, values, locals -/
def am_ad (B : Nat) (sp : Nat → Nat) (k : Nat) : Nat := if k < 1000000 then B + k else sp k
def am_cv (B : Nat) (sp : Nat → Nat) (fz : Value) (v : Value) : Value := match v with
  | .ref k => .ref (am_ad B sp k)
  | .retAddr _ => fz
  | v => v
theorem am_cv_cat {B : Nat} {sp : Nat → Nat} {fz : Value} (hf : fz.category = 1) (v : Value) : (am_cv B sp fz v).category = v.category := by
  cases v <;> first | rfl | exact hf
def am_lv (cv : Value → Value) (ls : Array Slot) (L : am_V) : Prop := lv_wf ls ∧ ls.size = L.length ∧ ∀ (i : Nat) (v : Value), L[i]? = some v → am_unk v = false → ls[i]? = some (.val (cv v))
def am_prs (cv : Value → Value) (L : am_V) : List (Nat × Value) := (List.range L.length).filterMap fun i => match L[i]? with
  | some v => if am_unk v then none else some (i, cv v)
  | none => none
theorem am_prs_in {cv : Value → Value} {L : am_V} {i : Nat} {v : Value} (h : L[i]? = some v) (hu : am_unk v = false) : (i, cv v) ∈ am_prs cv L := by
  refine List.mem_filterMap.mpr ⟨i, List.mem_range.mpr (List.getElem?_eq_some_iff.mp h).1, ?_⟩
  simp [h, hu]
theorem am_prs_of {cv : Value → Value} {L : am_V} {q : Nat × Value} (h : q ∈ am_prs cv L) : ∃ v, L[q.1]? = some v ∧ am_unk v = false ∧ q.2 = cv v := by
  obtain ⟨i, -, hi⟩ := List.mem_filterMap.mp h
  cases hk : L[i]? with
  | none => simp [hk] at hi
  | some v =>
    by_cases hu : am_unk v = true
    · simp [hk, hu] at hi
    · simp [hk, hu] at hi
      subst hi
      exact ⟨v, hk, by simpa using hu, rfl⟩
theorem am_lv.has {cv : Value → Value} {ls : Array Slot} {L : am_V} (h : am_lv cv ls L) : lv_has ls L.length (am_prs cv L) := by
  refine ⟨h.2.1, h.1, fun q hq => ?_⟩
  obtain ⟨v, h1, h2, h3⟩ := am_prs_of hq
  rw [h3]
  exact h.2.2 _ v h1 h2
theorem am_lv.st1 {cv : Value → Value} (hc : ∀ v, (cv v).category = v.category) {ls : Array Slot} {L : am_V} {i : Nat} {v : Value} (h : lv_has ls L.length ((i, cv v) :: (am_prs cv L).filter (fun q => !(q.1 == i) && !(q.1 + 1 == i && q.2.category == 2)))) (hi : i < L.length) : am_lv cv ls (am_set L i v) := by
  refine ⟨h.2.1, h.1.trans (am_set_len L i v).symm, fun j w hj hw => ?_⟩
  by_cases e : j = i
  · subst e
    rw [am_set_self hi] at hj
    cases hj
    exact h.2.2 (j, cv v) List.mem_cons_self
  · obtain ⟨h1, h2⟩ := am_set_ne e hj hw
    refine h.2.2 (j, cv w) (List.mem_cons_of_mem _ (List.mem_filter.mpr ⟨am_prs_in h1 hw, ?_⟩))
    have hcat := hc w
    by_cases e2 : j + 1 = i
    · have hn : ¬ w.category = 2 := fun q => h2 ⟨e2, q⟩
      simp [e, e2, hcat, hn]
    · simp [e, e2]
theorem am_lv.st2 {cv : Value → Value} (hc : ∀ v, (cv v).category = v.category) {ls : Array Slot} {L : am_V} {i : Nat} {v : Value} (h : lv_has ls L.length ((i, cv v) :: (am_prs cv L).filter (fun q => !(q.1 == i) && (!(q.1 == i + 1) && !(q.1 + 1 == i && q.2.category == 2))))) (hi : i < L.length) : am_lv cv ls (am_set2 L i v) := by
  refine ⟨h.2.1, by unfold am_set2; rw [List.length_set, am_set_len]; exact h.1, fun j w hj hw => ?_⟩
  unfold am_set2 at hj
  by_cases e1 : j = i + 1
  · subst e1
    exfalso
    by_cases hl : i + 1 < (am_set L i v).length
    · rw [List.getElem?_set_self hl] at hj
      cases hj
      cases hw
    · rw [List.getElem?_eq_none (by rw [List.length_set]; omega)] at hj
      cases hj
  · rw [List.getElem?_set_ne (fun q => e1 q.symm)] at hj
    by_cases e : j = i
    · subst e
      rw [am_set_self hi] at hj
      cases hj
      exact h.2.2 (j, cv v) List.mem_cons_self
    · obtain ⟨h1, h2⟩ := am_set_ne e hj hw
      refine h.2.2 (j, cv w) (List.mem_cons_of_mem _ (List.mem_filter.mpr ⟨am_prs_in h1 hw, ?_⟩))
      have hcat := hc w
      by_cases e2 : j + 1 = i
      · have hn : ¬ w.category = 2 := fun q => h2 ⟨e2, q⟩
        simp [e, e1, e2, hcat, hn]
      · simp [e, e1, e2]
theorem am_lv.forget {cv : Value → Value} {ls : Array Slot} {L : am_V} (h : am_lv cv ls L) (j : Nat) : am_lv cv ls (L.set j (.retAddr 0)) := by
  refine ⟨h.1, by rw [List.length_set]; exact h.2.1, fun i v hi hu => ?_⟩
  by_cases e : i = j
  · subst e
    exfalso
    by_cases hl : i < L.length
    · rw [List.getElem?_set_self hl] at hi
      cases hi
      cases hu
    · rw [List.getElem?_eq_none (by rw [List.length_set]; omega)] at hi
      cases hi
  · rw [List.getElem?_set_ne (fun q => e q.symm)] at hi
    exact h.2.2 i v hi hu
/-! a method's locals at its start -/
def am_ent : am_V → am_V
  | [] => []
  | .long x :: r => .long x :: .retAddr 0 :: am_ent r
  | .double x :: r => .double x :: .retAddr 0 :: am_ent r
  | v :: r => v :: am_ent r
def am_en (i : Nat) (As : am_V) : am_V := am_ent As ++ List.replicate (am_mx i - (am_ent As).length) (.retAddr 0)
theorem am_ent_args {cv : Value → Value} (hc : ∀ v, (cv v).category = v.category) : ∀ (As : am_V) (b j : Nat) (v : Value), (am_ent As)[j]? = some v → am_unk v = false → (b + j, cv v) ∈ lv_args b (As.map cv)
  | [], b, j, v, h, _ => by simp [am_ent] at h
  | a :: r, b, j, v, h, hu => by
    have one : a.category = 1 → (am_ent (a :: r)) = a :: am_ent r := fun hq => by cases a <;> first | rfl | cases hq
    have two : a.category = 2 → (am_ent (a :: r)) = a :: .retAddr 0 :: am_ent r := fun hq => by cases a <;> first | rfl | cases hq
    rw [List.map_cons, lv_args]
    rcases lv_cat a with hq | hq
    · rw [one hq] at h
      cases j with
      | zero =>
        cases h
        exact List.mem_cons_self
      | succ j =>
        rw [List.getElem?_cons_succ] at h
        have := am_ent_args hc r (b + 1) j v h hu
        rw [show b + (j + 1) = b + 1 + j by omega]
        refine List.mem_cons_of_mem _ ?_
        rw [if_neg (by rw [hc, hq]; decide)]
        exact this
    · rw [two hq] at h
      match j, h with
      | 0, h =>
        cases h
        exact List.mem_cons_self
      | 1, h =>
        cases h
        cases hu
      | j + 2, h =>
        rw [List.getElem?_cons_succ, List.getElem?_cons_succ] at h
        have := am_ent_args hc r (b + 2) j v h hu
        rw [show b + (j + 2) = b + 2 + j by omega]
        refine List.mem_cons_of_mem _ ?_
        rw [if_pos (by rw [hc, hq])]
        exact this
theorem am_ent_len {cv : Value → Value} (hc : ∀ v, (cv v).category = v.category) : ∀ As : am_V, (am_ent As).length = (lg_sl (As.map cv)).length
  | [] => rfl
  | a :: r => by
    have ih := am_ent_len hc r
    have h1 : (lg_sl ((a :: r).map cv)).length = (if (cv a).category = 2 then 2 else 1) + (lg_sl (r.map cv)).length := by
      simp only [lg_sl, List.map_cons, List.flatMap_cons, List.length_append]
      split <;> rfl
    rw [h1, hc, ← ih]
    cases a <;> simp [am_ent, Value.category] <;> omega
theorem am_lv.entry {cv : Value → Value} (hc : ∀ v, (cv v).category = v.category) {i : Nat} {As : am_V} (hn : (am_ent As).length ≤ am_mx i) : am_lv cv ((lg_sl (As.map cv) ++ List.replicate (am_mx i - (lg_sl (As.map cv)).length) Slot.unset).toArray) (am_en i As) := by
  have hlen := am_ent_len hc As
  obtain ⟨h1, h2, h3⟩ := lv_entry (As.map cv) (n := am_mx i) (by omega)
  refine ⟨h2, by rw [h1]; unfold am_en; simp; omega, fun j v hj hu => ?_⟩
  unfold am_en at hj
  by_cases hl : j < (am_ent As).length
  · rw [List.getElem?_append_left hl] at hj
    have := am_ent_args hc As 0 j v hj hu
    rw [Nat.zero_add] at this
    exact h3 _ this
  · rw [List.getElem?_append_right (by omega)] at hj
    rw [List.getElem?_replicate] at hj
    split at hj
    · cases hj
      cases hu
    · cases hj
theorem am_en_len {i : Nat} {As : am_V} (hn : (am_ent As).length ≤ am_mx i) : (am_en i As).length = am_mx i := by
  unfold am_en
  simp
  omega
def am_ln (ins : Instr) : Nat := match ins with
  | .bipush _ => 2
  | .sipush _ => 3
  | .iload _ => 2
  | .lload _ => 2
  | .aload _ => 2
  | .istore _ => 2
  | .lstore _ => 2
  | .astore _ => 2
  | .iinc _ _ => 3
  | _ => 1
def am_q (ins : Instr) (L S : am_V) : Option (am_V × am_V) := match ins with
  | .iconst k => some (L, .int (Int32.ofInt k) :: S)
  | .bipush k => some (L, .int (Int8.ofInt k).toInt32 :: S)
  | .sipush k => some (L, .int (Int16.ofInt k).toInt32 :: S)
  | .lconst k => some (L, .long (Int64.ofNat (k : Nat)) :: S)
  | .iload k => (match L[k]? with
    | some (.int x) => some (L, .int x :: S)
    | _ => none)
  | .iload_n k => (match L[(k : Nat)]? with
    | some (.int x) => some (L, .int x :: S)
    | _ => none)
  | .lload k => (match L[k]? with
    | some (.long x) => some (L, .long x :: S)
    | _ => none)
  | .lload_n k => (match L[(k : Nat)]? with
    | some (.long x) => some (L, .long x :: S)
    | _ => none)
  | .aload k => (match L[k]? with
    | some (.ref x) => some (L, .ref x :: S)
    | _ => none)
  | .aload_n k => (match L[(k : Nat)]? with
    | some (.ref x) => some (L, .ref x :: S)
    | _ => none)
  | .istore k => (match S with
    | .int x :: T => if k < L.length then some (am_set L k (.int x), T) else none
    | _ => none)
  | .istore_n k => (match S with
    | .int x :: T => if (k : Nat) < L.length then some (am_set L k (.int x), T) else none
    | _ => none)
  | .astore k => (match S with
    | .ref x :: T => if k < L.length then some (am_set L k (.ref x), T) else none
    | _ => none)
  | .astore_n k => (match S with
    | .ref x :: T => if (k : Nat) < L.length then some (am_set L k (.ref x), T) else none
    | _ => none)
  | .lstore k => (match S with
    | .long x :: T => if k + 1 < L.length then some (am_set2 L k (.long x), T) else none
    | _ => none)
  | .lstore_n k => (match S with
    | .long x :: T => if (k : Nat) + 1 < L.length then some (am_set2 L k (.long x), T) else none
    | _ => none)
  | .iinc k n => (match L[k]? with
    | some (.int x) => some (am_set L k (.int (x + Int32.ofInt n)), S)
    | _ => none)
  | .iadd => (match S with
    | .int y :: .int x :: T => some (L, .int (x + y) :: T)
    | _ => none)
  | .isub => (match S with
    | .int y :: .int x :: T => some (L, .int (x - y) :: T)
    | _ => none)
  | .imul => (match S with
    | .int y :: .int x :: T => some (L, .int (x * y) :: T)
    | _ => none)
  | .iand => (match S with
    | .int y :: .int x :: T => some (L, .int (x &&& y) :: T)
    | _ => none)
  | .ior => (match S with
    | .int y :: .int x :: T => some (L, .int (x ||| y) :: T)
    | _ => none)
  | .ishl => (match S with
    | .int y :: .int x :: T => some (L, .int (x <<< (y &&& 31)) :: T)
    | _ => none)
  | .ishr => (match S with
    | .int y :: .int x :: T => some (L, .int (x >>> (y &&& 31)) :: T)
    | _ => none)
  | .ladd => (match S with
    | .long y :: .long x :: T => some (L, .long (x + y) :: T)
    | _ => none)
  | .lsub => (match S with
    | .long y :: .long x :: T => some (L, .long (x - y) :: T)
    | _ => none)
  | .lmul => (match S with
    | .long y :: .long x :: T => some (L, .long (x * y) :: T)
    | _ => none)
  | .land => (match S with
    | .long y :: .long x :: T => some (L, .long (x &&& y) :: T)
    | _ => none)
  | .lor => (match S with
    | .long y :: .long x :: T => some (L, .long (x ||| y) :: T)
    | _ => none)
  | .iushr => (match S with
    | .int y :: .int x :: T => some (L, .int ((x.toUInt32 >>> (y.toUInt32 &&& Int32.toUInt32 31)).toInt32) :: T)
    | _ => none)
  | .lshl => (match S with
    | .int y :: .long x :: T => some (L, .long (x <<< (y.toInt64 &&& 63)) :: T)
    | _ => none)
  | .lshr => (match S with
    | .int y :: .long x :: T => some (L, .long (x >>> (y.toInt64 &&& 63)) :: T)
    | _ => none)
  | .idiv => (match S with
    | .int y :: .int x :: T => if y = 0 then none else some (L, .int (x / y) :: T)
    | _ => none)
  | .irem => (match S with
    | .int y :: .int x :: T => if y = 0 then none else some (L, .int (x - x / y * y) :: T)
    | _ => none)
  | .ldiv => (match S with
    | .long y :: .long x :: T => if y = 0 then none else some (L, .long (x / y) :: T)
    | _ => none)
  | .ineg => (match S with
    | .int x :: T => some (L, .int (-x) :: T)
    | _ => none)
  | .i2l => (match S with
    | .int x :: T => some (L, .long x.toInt64 :: T)
    | _ => none)
  | .l2i => (match S with
    | .long x :: T => some (L, .int x.toInt32 :: T)
    | _ => none)
  | .i2c => (match S with
    | .int x :: T => some (L, .int ((x.toUInt32 % 65536).toInt32) :: T)
    | _ => none)
  | .lcmp => (match S with
    | .long y :: .long x :: T => some (L, .int (lg_cmp x y) :: T)
    | _ => none)
  | .dup => (match S with
    | v :: T => if am_wide v then none else some (L, v :: v :: T)
    | _ => none)
  | .pop => (match S with
    | v :: T => if am_wide v then none else some (L, T)
    | _ => none)
  | .dup_x1 => (match S with
    | v :: w :: T => if am_wide v || am_wide w then none else some (L, v :: w :: v :: T)
    | _ => none)
  | .dup2 => (match S with
    | v :: w :: T => if am_wide v || am_wide w then none else some (L, v :: w :: v :: w :: T)
    | _ => none)
  | _ => none
section AMQ
variable {p : Program} {l : Launch} {e : Env} {R : Room} {s : State} {m : MethodId} {args : Array Value} {below : List Frame} {meth : Method} {c : Code} {H : Heap} {locs : List Loc} {cells slots : Nat} {Q : State → Prop}
variable {cc : ByteArray} {pc : Nat} {ls : Array Slot} {B : Nat} {sp : Nat → Nat} {fz : Value} {L S L' S' : am_V}
theorem am_W_iconst (hf : fz.category = 1) (hx : p.tables.exec = Jvm.exec) (hb : c.code = cc) {k : Int} (hd : decode cc pc = .ok (.iconst k, am_ln (.iconst k))) (h : am_q (.iconst k) L S = some (L', S')) (hl : am_lv (am_cv B sp fz) ls L) (kk : ∀ ls2 : Array Slot, am_lv (am_cv B sp fz) ls2 L' → L'.length = L.length → W p l e R s m args below meth c H locs cells slots Q (F0 m (pc + am_ln (.iconst k)) ls2 (S'.map (am_cv B sp fz)))) : W p l e R s m args below meth c H locs cells slots Q (F0 m pc ls (S.map (am_cv B sp fz))) := by
  simp only [am_q] at h
  cases h
  exact lv_iconst hx hb hd rfl (kk ls hl rfl)
theorem am_W_bipush (hf : fz.category = 1) (hx : p.tables.exec = Jvm.exec) (hb : c.code = cc) {k : Int} (hd : decode cc pc = .ok (.bipush k, am_ln (.bipush k))) (h : am_q (.bipush k) L S = some (L', S')) (hl : am_lv (am_cv B sp fz) ls L) (kk : ∀ ls2 : Array Slot, am_lv (am_cv B sp fz) ls2 L' → L'.length = L.length → W p l e R s m args below meth c H locs cells slots Q (F0 m (pc + am_ln (.bipush k)) ls2 (S'.map (am_cv B sp fz)))) : W p l e R s m args below meth c H locs cells slots Q (F0 m pc ls (S.map (am_cv B sp fz))) := by
  simp only [am_q] at h
  cases h
  exact lv_bipush hx hb hd rfl (kk ls hl rfl)
theorem am_W_sipush (hf : fz.category = 1) (hx : p.tables.exec = Jvm.exec) (hb : c.code = cc) {k : Int} (hd : decode cc pc = .ok (.sipush k, am_ln (.sipush k))) (h : am_q (.sipush k) L S = some (L', S')) (hl : am_lv (am_cv B sp fz) ls L) (kk : ∀ ls2 : Array Slot, am_lv (am_cv B sp fz) ls2 L' → L'.length = L.length → W p l e R s m args below meth c H locs cells slots Q (F0 m (pc + am_ln (.sipush k)) ls2 (S'.map (am_cv B sp fz)))) : W p l e R s m args below meth c H locs cells slots Q (F0 m pc ls (S.map (am_cv B sp fz))) := by
  simp only [am_q] at h
  cases h
  exact lv_sipush hx hb hd rfl (kk ls hl rfl)
theorem am_W_lconst (hf : fz.category = 1) (hx : p.tables.exec = Jvm.exec) (hb : c.code = cc) {k : Fin 2} (hd : decode cc pc = .ok (.lconst k, am_ln (.lconst k))) (h : am_q (.lconst k) L S = some (L', S')) (hl : am_lv (am_cv B sp fz) ls L) (kk : ∀ ls2 : Array Slot, am_lv (am_cv B sp fz) ls2 L' → L'.length = L.length → W p l e R s m args below meth c H locs cells slots Q (F0 m (pc + am_ln (.lconst k)) ls2 (S'.map (am_cv B sp fz)))) : W p l e R s m args below meth c H locs cells slots Q (F0 m pc ls (S.map (am_cv B sp fz))) := by
  simp only [am_q] at h
  cases h
  exact lv_lconst hx hb hd rfl (kk ls hl rfl)
theorem am_W_iload (hf : fz.category = 1) (hx : p.tables.exec = Jvm.exec) (hb : c.code = cc) {k : Nat} (hd : decode cc pc = .ok (.iload k, am_ln (.iload k))) (h : am_q (.iload k) L S = some (L', S')) (hl : am_lv (am_cv B sp fz) ls L) (kk : ∀ ls2 : Array Slot, am_lv (am_cv B sp fz) ls2 L' → L'.length = L.length → W p l e R s m args below meth c H locs cells slots Q (F0 m (pc + am_ln (.iload k)) ls2 (S'.map (am_cv B sp fz)))) : W p l e R s m args below meth c H locs cells slots Q (F0 m pc ls (S.map (am_cv B sp fz))) := by
  simp only [am_q] at h
  split at h
  · rename_i x hk
    cases h
    exact lv_iload hx hb hd (hl.2.2 _ _ hk rfl) (kk ls hl rfl)
  · cases h
theorem am_W_iload_n (hf : fz.category = 1) (hx : p.tables.exec = Jvm.exec) (hb : c.code = cc) {k : Fin 4} (hd : decode cc pc = .ok (.iload_n k, am_ln (.iload_n k))) (h : am_q (.iload_n k) L S = some (L', S')) (hl : am_lv (am_cv B sp fz) ls L) (kk : ∀ ls2 : Array Slot, am_lv (am_cv B sp fz) ls2 L' → L'.length = L.length → W p l e R s m args below meth c H locs cells slots Q (F0 m (pc + am_ln (.iload_n k)) ls2 (S'.map (am_cv B sp fz)))) : W p l e R s m args below meth c H locs cells slots Q (F0 m pc ls (S.map (am_cv B sp fz))) := by
  simp only [am_q] at h
  split at h
  · rename_i x hk
    cases h
    exact lv_iload_n hx hb hd rfl (hl.2.2 _ _ hk rfl) (kk ls hl rfl)
  · cases h
theorem am_W_lload (hf : fz.category = 1) (hx : p.tables.exec = Jvm.exec) (hb : c.code = cc) {k : Nat} (hd : decode cc pc = .ok (.lload k, am_ln (.lload k))) (h : am_q (.lload k) L S = some (L', S')) (hl : am_lv (am_cv B sp fz) ls L) (kk : ∀ ls2 : Array Slot, am_lv (am_cv B sp fz) ls2 L' → L'.length = L.length → W p l e R s m args below meth c H locs cells slots Q (F0 m (pc + am_ln (.lload k)) ls2 (S'.map (am_cv B sp fz)))) : W p l e R s m args below meth c H locs cells slots Q (F0 m pc ls (S.map (am_cv B sp fz))) := by
  simp only [am_q] at h
  split at h
  · rename_i x hk
    cases h
    exact lv_lload hx hb hd (hl.2.2 _ _ hk rfl) (kk ls hl rfl)
  · cases h
theorem am_W_lload_n (hf : fz.category = 1) (hx : p.tables.exec = Jvm.exec) (hb : c.code = cc) {k : Fin 4} (hd : decode cc pc = .ok (.lload_n k, am_ln (.lload_n k))) (h : am_q (.lload_n k) L S = some (L', S')) (hl : am_lv (am_cv B sp fz) ls L) (kk : ∀ ls2 : Array Slot, am_lv (am_cv B sp fz) ls2 L' → L'.length = L.length → W p l e R s m args below meth c H locs cells slots Q (F0 m (pc + am_ln (.lload_n k)) ls2 (S'.map (am_cv B sp fz)))) : W p l e R s m args below meth c H locs cells slots Q (F0 m pc ls (S.map (am_cv B sp fz))) := by
  simp only [am_q] at h
  split at h
  · rename_i x hk
    cases h
    exact lv_lload_n hx hb hd rfl (hl.2.2 _ _ hk rfl) (kk ls hl rfl)
  · cases h
theorem am_W_aload (hf : fz.category = 1) (hx : p.tables.exec = Jvm.exec) (hb : c.code = cc) {k : Nat} (hd : decode cc pc = .ok (.aload k, am_ln (.aload k))) (h : am_q (.aload k) L S = some (L', S')) (hl : am_lv (am_cv B sp fz) ls L) (kk : ∀ ls2 : Array Slot, am_lv (am_cv B sp fz) ls2 L' → L'.length = L.length → W p l e R s m args below meth c H locs cells slots Q (F0 m (pc + am_ln (.aload k)) ls2 (S'.map (am_cv B sp fz)))) : W p l e R s m args below meth c H locs cells slots Q (F0 m pc ls (S.map (am_cv B sp fz))) := by
  simp only [am_q] at h
  split at h
  · rename_i x hk
    cases h
    exact lv_aload hx hb hd (hl.2.2 _ _ hk rfl) (kk ls hl rfl)
  · cases h
theorem am_W_aload_n (hf : fz.category = 1) (hx : p.tables.exec = Jvm.exec) (hb : c.code = cc) {k : Fin 4} (hd : decode cc pc = .ok (.aload_n k, am_ln (.aload_n k))) (h : am_q (.aload_n k) L S = some (L', S')) (hl : am_lv (am_cv B sp fz) ls L) (kk : ∀ ls2 : Array Slot, am_lv (am_cv B sp fz) ls2 L' → L'.length = L.length → W p l e R s m args below meth c H locs cells slots Q (F0 m (pc + am_ln (.aload_n k)) ls2 (S'.map (am_cv B sp fz)))) : W p l e R s m args below meth c H locs cells slots Q (F0 m pc ls (S.map (am_cv B sp fz))) := by
  simp only [am_q] at h
  split at h
  · rename_i x hk
    cases h
    exact lv_aload_n hx hb hd rfl (hl.2.2 _ _ hk rfl) (kk ls hl rfl)
  · cases h
theorem am_W_istore (hf : fz.category = 1) (hx : p.tables.exec = Jvm.exec) (hb : c.code = cc) {k : Nat} (hd : decode cc pc = .ok (.istore k, am_ln (.istore k))) (h : am_q (.istore k) L S = some (L', S')) (hl : am_lv (am_cv B sp fz) ls L) (kk : ∀ ls2 : Array Slot, am_lv (am_cv B sp fz) ls2 L' → L'.length = L.length → W p l e R s m args below meth c H locs cells slots Q (F0 m (pc + am_ln (.istore k)) ls2 (S'.map (am_cv B sp fz)))) : W p l e R s m args below meth c H locs cells slots Q (F0 m pc ls (S.map (am_cv B sp fz))) := by
  simp only [am_q] at h
  split at h
  · rename_i x T
    split at h
    · rename_i hk
      cases h
      exact lv_istore hx hb hd hl.has hk rfl (fun ls2 h2 => kk ls2 (am_lv.st1 (am_cv_cat hf) h2 hk) (am_set_len _ _ _))
    · cases h
  · cases h
theorem am_W_istore_n (hf : fz.category = 1) (hx : p.tables.exec = Jvm.exec) (hb : c.code = cc) {k : Fin 4} (hd : decode cc pc = .ok (.istore_n k, am_ln (.istore_n k))) (h : am_q (.istore_n k) L S = some (L', S')) (hl : am_lv (am_cv B sp fz) ls L) (kk : ∀ ls2 : Array Slot, am_lv (am_cv B sp fz) ls2 L' → L'.length = L.length → W p l e R s m args below meth c H locs cells slots Q (F0 m (pc + am_ln (.istore_n k)) ls2 (S'.map (am_cv B sp fz)))) : W p l e R s m args below meth c H locs cells slots Q (F0 m pc ls (S.map (am_cv B sp fz))) := by
  simp only [am_q] at h
  split at h
  · rename_i x T
    split at h
    · rename_i hk
      cases h
      exact lv_istore_n hx hb hd rfl hl.has hk rfl (fun ls2 h2 => kk ls2 (am_lv.st1 (am_cv_cat hf) h2 hk) (am_set_len _ _ _))
    · cases h
  · cases h
theorem am_W_astore (hf : fz.category = 1) (hx : p.tables.exec = Jvm.exec) (hb : c.code = cc) {k : Nat} (hd : decode cc pc = .ok (.astore k, am_ln (.astore k))) (h : am_q (.astore k) L S = some (L', S')) (hl : am_lv (am_cv B sp fz) ls L) (kk : ∀ ls2 : Array Slot, am_lv (am_cv B sp fz) ls2 L' → L'.length = L.length → W p l e R s m args below meth c H locs cells slots Q (F0 m (pc + am_ln (.astore k)) ls2 (S'.map (am_cv B sp fz)))) : W p l e R s m args below meth c H locs cells slots Q (F0 m pc ls (S.map (am_cv B sp fz))) := by
  simp only [am_q] at h
  split at h
  · rename_i x T
    split at h
    · rename_i hk
      cases h
      exact lv_astore hx hb hd hl.has hk rfl (fun ls2 h2 => kk ls2 (am_lv.st1 (am_cv_cat hf) h2 hk) (am_set_len _ _ _))
    · cases h
  · cases h
theorem am_W_astore_n (hf : fz.category = 1) (hx : p.tables.exec = Jvm.exec) (hb : c.code = cc) {k : Fin 4} (hd : decode cc pc = .ok (.astore_n k, am_ln (.astore_n k))) (h : am_q (.astore_n k) L S = some (L', S')) (hl : am_lv (am_cv B sp fz) ls L) (kk : ∀ ls2 : Array Slot, am_lv (am_cv B sp fz) ls2 L' → L'.length = L.length → W p l e R s m args below meth c H locs cells slots Q (F0 m (pc + am_ln (.astore_n k)) ls2 (S'.map (am_cv B sp fz)))) : W p l e R s m args below meth c H locs cells slots Q (F0 m pc ls (S.map (am_cv B sp fz))) := by
  simp only [am_q] at h
  split at h
  · rename_i x T
    split at h
    · rename_i hk
      cases h
      exact lv_astore_n hx hb hd rfl hl.has hk rfl (fun ls2 h2 => kk ls2 (am_lv.st1 (am_cv_cat hf) h2 hk) (am_set_len _ _ _))
    · cases h
  · cases h
theorem am_W_lstore (hf : fz.category = 1) (hx : p.tables.exec = Jvm.exec) (hb : c.code = cc) {k : Nat} (hd : decode cc pc = .ok (.lstore k, am_ln (.lstore k))) (h : am_q (.lstore k) L S = some (L', S')) (hl : am_lv (am_cv B sp fz) ls L) (kk : ∀ ls2 : Array Slot, am_lv (am_cv B sp fz) ls2 L' → L'.length = L.length → W p l e R s m args below meth c H locs cells slots Q (F0 m (pc + am_ln (.lstore k)) ls2 (S'.map (am_cv B sp fz)))) : W p l e R s m args below meth c H locs cells slots Q (F0 m pc ls (S.map (am_cv B sp fz))) := by
  simp only [am_q] at h
  split at h
  · rename_i x T
    split at h
    · rename_i hk
      cases h
      exact lv_lstore hx hb hd hl.has hk rfl (fun ls2 h2 => kk ls2 (am_lv.st2 (am_cv_cat hf) h2 (by omega)) (by unfold am_set2; rw [List.length_set, am_set_len]))
    · cases h
  · cases h
theorem am_W_lstore_n (hf : fz.category = 1) (hx : p.tables.exec = Jvm.exec) (hb : c.code = cc) {k : Fin 4} (hd : decode cc pc = .ok (.lstore_n k, am_ln (.lstore_n k))) (h : am_q (.lstore_n k) L S = some (L', S')) (hl : am_lv (am_cv B sp fz) ls L) (kk : ∀ ls2 : Array Slot, am_lv (am_cv B sp fz) ls2 L' → L'.length = L.length → W p l e R s m args below meth c H locs cells slots Q (F0 m (pc + am_ln (.lstore_n k)) ls2 (S'.map (am_cv B sp fz)))) : W p l e R s m args below meth c H locs cells slots Q (F0 m pc ls (S.map (am_cv B sp fz))) := by
  simp only [am_q] at h
  split at h
  · rename_i x T
    split at h
    · rename_i hk
      cases h
      exact lv_lstore_n hx hb hd rfl hl.has hk rfl (fun ls2 h2 => kk ls2 (am_lv.st2 (am_cv_cat hf) h2 (by omega)) (by unfold am_set2; rw [List.length_set, am_set_len]))
    · cases h
  · cases h
theorem am_W_iinc (hf : fz.category = 1) (hx : p.tables.exec = Jvm.exec) (hb : c.code = cc) {k : Nat} {n : Int} (hd : decode cc pc = .ok (.iinc k n, am_ln (.iinc k n))) (h : am_q (.iinc k n) L S = some (L', S')) (hl : am_lv (am_cv B sp fz) ls L) (kk : ∀ ls2 : Array Slot, am_lv (am_cv B sp fz) ls2 L' → L'.length = L.length → W p l e R s m args below meth c H locs cells slots Q (F0 m (pc + am_ln (.iinc k n)) ls2 (S'.map (am_cv B sp fz)))) : W p l e R s m args below meth c H locs cells slots Q (F0 m pc ls (S.map (am_cv B sp fz))) := by
  simp only [am_q] at h
  split at h
  · rename_i x hk
    cases h
    have hin : (k, Value.int x) ∈ am_prs (am_cv B sp fz) L := am_prs_in (cv := am_cv B sp fz) hk rfl
    obtain ⟨j, hj⟩ := List.getElem?_of_mem hin
    have hkl : k < L.length := (List.getElem?_eq_some_iff.mp hk).1
    exact lv_iinc hx hb hd hl.has hj rfl hkl rfl (fun ls2 h2 => kk ls2 (am_lv.st1 (am_cv_cat hf) h2 hkl) (am_set_len _ _ _))
  · cases h
theorem am_W_iadd (hf : fz.category = 1) (hx : p.tables.exec = Jvm.exec) (hb : c.code = cc)  (hd : decode cc pc = .ok (.iadd, am_ln (.iadd))) (h : am_q (.iadd) L S = some (L', S')) (hl : am_lv (am_cv B sp fz) ls L) (kk : ∀ ls2 : Array Slot, am_lv (am_cv B sp fz) ls2 L' → L'.length = L.length → W p l e R s m args below meth c H locs cells slots Q (F0 m (pc + am_ln (.iadd)) ls2 (S'.map (am_cv B sp fz)))) : W p l e R s m args below meth c H locs cells slots Q (F0 m pc ls (S.map (am_cv B sp fz))) := by
  simp only [am_q] at h
  split at h
  · cases h
    exact lv_iadd hx hb hd (kk ls hl rfl)
  · cases h
theorem am_W_isub (hf : fz.category = 1) (hx : p.tables.exec = Jvm.exec) (hb : c.code = cc)  (hd : decode cc pc = .ok (.isub, am_ln (.isub))) (h : am_q (.isub) L S = some (L', S')) (hl : am_lv (am_cv B sp fz) ls L) (kk : ∀ ls2 : Array Slot, am_lv (am_cv B sp fz) ls2 L' → L'.length = L.length → W p l e R s m args below meth c H locs cells slots Q (F0 m (pc + am_ln (.isub)) ls2 (S'.map (am_cv B sp fz)))) : W p l e R s m args below meth c H locs cells slots Q (F0 m pc ls (S.map (am_cv B sp fz))) := by
  simp only [am_q] at h
  split at h
  · cases h
    exact lv_isub hx hb hd (kk ls hl rfl)
  · cases h
theorem am_W_imul (hf : fz.category = 1) (hx : p.tables.exec = Jvm.exec) (hb : c.code = cc)  (hd : decode cc pc = .ok (.imul, am_ln (.imul))) (h : am_q (.imul) L S = some (L', S')) (hl : am_lv (am_cv B sp fz) ls L) (kk : ∀ ls2 : Array Slot, am_lv (am_cv B sp fz) ls2 L' → L'.length = L.length → W p l e R s m args below meth c H locs cells slots Q (F0 m (pc + am_ln (.imul)) ls2 (S'.map (am_cv B sp fz)))) : W p l e R s m args below meth c H locs cells slots Q (F0 m pc ls (S.map (am_cv B sp fz))) := by
  simp only [am_q] at h
  split at h
  · cases h
    exact lv_imul hx hb hd (kk ls hl rfl)
  · cases h
theorem am_W_iand (hf : fz.category = 1) (hx : p.tables.exec = Jvm.exec) (hb : c.code = cc)  (hd : decode cc pc = .ok (.iand, am_ln (.iand))) (h : am_q (.iand) L S = some (L', S')) (hl : am_lv (am_cv B sp fz) ls L) (kk : ∀ ls2 : Array Slot, am_lv (am_cv B sp fz) ls2 L' → L'.length = L.length → W p l e R s m args below meth c H locs cells slots Q (F0 m (pc + am_ln (.iand)) ls2 (S'.map (am_cv B sp fz)))) : W p l e R s m args below meth c H locs cells slots Q (F0 m pc ls (S.map (am_cv B sp fz))) := by
  simp only [am_q] at h
  split at h
  · cases h
    exact lv_iand hx hb hd (kk ls hl rfl)
  · cases h
theorem am_W_ior (hf : fz.category = 1) (hx : p.tables.exec = Jvm.exec) (hb : c.code = cc)  (hd : decode cc pc = .ok (.ior, am_ln (.ior))) (h : am_q (.ior) L S = some (L', S')) (hl : am_lv (am_cv B sp fz) ls L) (kk : ∀ ls2 : Array Slot, am_lv (am_cv B sp fz) ls2 L' → L'.length = L.length → W p l e R s m args below meth c H locs cells slots Q (F0 m (pc + am_ln (.ior)) ls2 (S'.map (am_cv B sp fz)))) : W p l e R s m args below meth c H locs cells slots Q (F0 m pc ls (S.map (am_cv B sp fz))) := by
  simp only [am_q] at h
  split at h
  · cases h
    exact lv_ior hx hb hd (kk ls hl rfl)
  · cases h
theorem am_W_ishl (hf : fz.category = 1) (hx : p.tables.exec = Jvm.exec) (hb : c.code = cc)  (hd : decode cc pc = .ok (.ishl, am_ln (.ishl))) (h : am_q (.ishl) L S = some (L', S')) (hl : am_lv (am_cv B sp fz) ls L) (kk : ∀ ls2 : Array Slot, am_lv (am_cv B sp fz) ls2 L' → L'.length = L.length → W p l e R s m args below meth c H locs cells slots Q (F0 m (pc + am_ln (.ishl)) ls2 (S'.map (am_cv B sp fz)))) : W p l e R s m args below meth c H locs cells slots Q (F0 m pc ls (S.map (am_cv B sp fz))) := by
  simp only [am_q] at h
  split at h
  · cases h
    exact lv_ishl hx hb hd (kk ls hl rfl)
  · cases h
theorem am_W_ishr (hf : fz.category = 1) (hx : p.tables.exec = Jvm.exec) (hb : c.code = cc)  (hd : decode cc pc = .ok (.ishr, am_ln (.ishr))) (h : am_q (.ishr) L S = some (L', S')) (hl : am_lv (am_cv B sp fz) ls L) (kk : ∀ ls2 : Array Slot, am_lv (am_cv B sp fz) ls2 L' → L'.length = L.length → W p l e R s m args below meth c H locs cells slots Q (F0 m (pc + am_ln (.ishr)) ls2 (S'.map (am_cv B sp fz)))) : W p l e R s m args below meth c H locs cells slots Q (F0 m pc ls (S.map (am_cv B sp fz))) := by
  simp only [am_q] at h
  split at h
  · cases h
    exact lv_ishr hx hb hd (kk ls hl rfl)
  · cases h
theorem am_W_lcmp (hf : fz.category = 1) (hx : p.tables.exec = Jvm.exec) (hb : c.code = cc)  (hd : decode cc pc = .ok (.lcmp, am_ln (.lcmp))) (h : am_q (.lcmp) L S = some (L', S')) (hl : am_lv (am_cv B sp fz) ls L) (kk : ∀ ls2 : Array Slot, am_lv (am_cv B sp fz) ls2 L' → L'.length = L.length → W p l e R s m args below meth c H locs cells slots Q (F0 m (pc + am_ln (.lcmp)) ls2 (S'.map (am_cv B sp fz)))) : W p l e R s m args below meth c H locs cells slots Q (F0 m pc ls (S.map (am_cv B sp fz))) := by
  simp only [am_q] at h
  split at h
  · cases h
    exact W.lcmp hx hb hd (kk ls hl rfl)
  · cases h
theorem am_W_ladd (hf : fz.category = 1) (hx : p.tables.exec = Jvm.exec) (hb : c.code = cc)  (hd : decode cc pc = .ok (.ladd, am_ln (.ladd))) (h : am_q (.ladd) L S = some (L', S')) (hl : am_lv (am_cv B sp fz) ls L) (kk : ∀ ls2 : Array Slot, am_lv (am_cv B sp fz) ls2 L' → L'.length = L.length → W p l e R s m args below meth c H locs cells slots Q (F0 m (pc + am_ln (.ladd)) ls2 (S'.map (am_cv B sp fz)))) : W p l e R s m args below meth c H locs cells slots Q (F0 m pc ls (S.map (am_cv B sp fz))) := by
  simp only [am_q] at h
  split at h
  · cases h
    exact lv_ladd hx hb hd (kk ls hl rfl)
  · cases h
theorem am_W_lsub (hf : fz.category = 1) (hx : p.tables.exec = Jvm.exec) (hb : c.code = cc)  (hd : decode cc pc = .ok (.lsub, am_ln (.lsub))) (h : am_q (.lsub) L S = some (L', S')) (hl : am_lv (am_cv B sp fz) ls L) (kk : ∀ ls2 : Array Slot, am_lv (am_cv B sp fz) ls2 L' → L'.length = L.length → W p l e R s m args below meth c H locs cells slots Q (F0 m (pc + am_ln (.lsub)) ls2 (S'.map (am_cv B sp fz)))) : W p l e R s m args below meth c H locs cells slots Q (F0 m pc ls (S.map (am_cv B sp fz))) := by
  simp only [am_q] at h
  split at h
  · cases h
    exact lv_lsub hx hb hd (kk ls hl rfl)
  · cases h
theorem am_W_lmul (hf : fz.category = 1) (hx : p.tables.exec = Jvm.exec) (hb : c.code = cc)  (hd : decode cc pc = .ok (.lmul, am_ln (.lmul))) (h : am_q (.lmul) L S = some (L', S')) (hl : am_lv (am_cv B sp fz) ls L) (kk : ∀ ls2 : Array Slot, am_lv (am_cv B sp fz) ls2 L' → L'.length = L.length → W p l e R s m args below meth c H locs cells slots Q (F0 m (pc + am_ln (.lmul)) ls2 (S'.map (am_cv B sp fz)))) : W p l e R s m args below meth c H locs cells slots Q (F0 m pc ls (S.map (am_cv B sp fz))) := by
  simp only [am_q] at h
  split at h
  · cases h
    exact lv_lmul hx hb hd (kk ls hl rfl)
  · cases h
theorem am_W_land (hf : fz.category = 1) (hx : p.tables.exec = Jvm.exec) (hb : c.code = cc)  (hd : decode cc pc = .ok (.land, am_ln (.land))) (h : am_q (.land) L S = some (L', S')) (hl : am_lv (am_cv B sp fz) ls L) (kk : ∀ ls2 : Array Slot, am_lv (am_cv B sp fz) ls2 L' → L'.length = L.length → W p l e R s m args below meth c H locs cells slots Q (F0 m (pc + am_ln (.land)) ls2 (S'.map (am_cv B sp fz)))) : W p l e R s m args below meth c H locs cells slots Q (F0 m pc ls (S.map (am_cv B sp fz))) := by
  simp only [am_q] at h
  split at h
  · cases h
    exact lv_land hx hb hd (kk ls hl rfl)
  · cases h
theorem am_W_lor (hf : fz.category = 1) (hx : p.tables.exec = Jvm.exec) (hb : c.code = cc)  (hd : decode cc pc = .ok (.lor, am_ln (.lor))) (h : am_q (.lor) L S = some (L', S')) (hl : am_lv (am_cv B sp fz) ls L) (kk : ∀ ls2 : Array Slot, am_lv (am_cv B sp fz) ls2 L' → L'.length = L.length → W p l e R s m args below meth c H locs cells slots Q (F0 m (pc + am_ln (.lor)) ls2 (S'.map (am_cv B sp fz)))) : W p l e R s m args below meth c H locs cells slots Q (F0 m pc ls (S.map (am_cv B sp fz))) := by
  simp only [am_q] at h
  split at h
  · cases h
    exact lv_lor hx hb hd (kk ls hl rfl)
  · cases h
theorem am_W_iushr (hf : fz.category = 1) (hx : p.tables.exec = Jvm.exec) (hb : c.code = cc)  (hd : decode cc pc = .ok (.iushr, am_ln (.iushr))) (h : am_q (.iushr) L S = some (L', S')) (hl : am_lv (am_cv B sp fz) ls L) (kk : ∀ ls2 : Array Slot, am_lv (am_cv B sp fz) ls2 L' → L'.length = L.length → W p l e R s m args below meth c H locs cells slots Q (F0 m (pc + am_ln (.iushr)) ls2 (S'.map (am_cv B sp fz)))) : W p l e R s m args below meth c H locs cells slots Q (F0 m pc ls (S.map (am_cv B sp fz))) := by
  simp only [am_q] at h
  split at h
  · cases h
    exact lv_iushr hx hb hd rfl (kk ls hl rfl)
  · cases h
theorem am_W_lshl (hf : fz.category = 1) (hx : p.tables.exec = Jvm.exec) (hb : c.code = cc)  (hd : decode cc pc = .ok (.lshl, am_ln (.lshl))) (h : am_q (.lshl) L S = some (L', S')) (hl : am_lv (am_cv B sp fz) ls L) (kk : ∀ ls2 : Array Slot, am_lv (am_cv B sp fz) ls2 L' → L'.length = L.length → W p l e R s m args below meth c H locs cells slots Q (F0 m (pc + am_ln (.lshl)) ls2 (S'.map (am_cv B sp fz)))) : W p l e R s m args below meth c H locs cells slots Q (F0 m pc ls (S.map (am_cv B sp fz))) := by
  simp only [am_q] at h
  split at h
  · cases h
    exact lv_lshl hx hb hd rfl (kk ls hl rfl)
  · cases h
theorem am_W_lshr (hf : fz.category = 1) (hx : p.tables.exec = Jvm.exec) (hb : c.code = cc)  (hd : decode cc pc = .ok (.lshr, am_ln (.lshr))) (h : am_q (.lshr) L S = some (L', S')) (hl : am_lv (am_cv B sp fz) ls L) (kk : ∀ ls2 : Array Slot, am_lv (am_cv B sp fz) ls2 L' → L'.length = L.length → W p l e R s m args below meth c H locs cells slots Q (F0 m (pc + am_ln (.lshr)) ls2 (S'.map (am_cv B sp fz)))) : W p l e R s m args below meth c H locs cells slots Q (F0 m pc ls (S.map (am_cv B sp fz))) := by
  simp only [am_q] at h
  split at h
  · cases h
    exact lv_lshr hx hb hd rfl (kk ls hl rfl)
  · cases h
theorem am_W_i2l (hf : fz.category = 1) (hx : p.tables.exec = Jvm.exec) (hb : c.code = cc)  (hd : decode cc pc = .ok (.i2l, am_ln (.i2l))) (h : am_q (.i2l) L S = some (L', S')) (hl : am_lv (am_cv B sp fz) ls L) (kk : ∀ ls2 : Array Slot, am_lv (am_cv B sp fz) ls2 L' → L'.length = L.length → W p l e R s m args below meth c H locs cells slots Q (F0 m (pc + am_ln (.i2l)) ls2 (S'.map (am_cv B sp fz)))) : W p l e R s m args below meth c H locs cells slots Q (F0 m pc ls (S.map (am_cv B sp fz))) := by
  simp only [am_q] at h
  split at h
  · cases h
    exact lv_i2l hx hb hd rfl (kk ls hl rfl)
  · cases h
theorem am_W_l2i (hf : fz.category = 1) (hx : p.tables.exec = Jvm.exec) (hb : c.code = cc)  (hd : decode cc pc = .ok (.l2i, am_ln (.l2i))) (h : am_q (.l2i) L S = some (L', S')) (hl : am_lv (am_cv B sp fz) ls L) (kk : ∀ ls2 : Array Slot, am_lv (am_cv B sp fz) ls2 L' → L'.length = L.length → W p l e R s m args below meth c H locs cells slots Q (F0 m (pc + am_ln (.l2i)) ls2 (S'.map (am_cv B sp fz)))) : W p l e R s m args below meth c H locs cells slots Q (F0 m pc ls (S.map (am_cv B sp fz))) := by
  simp only [am_q] at h
  split at h
  · cases h
    exact lv_l2i hx hb hd rfl (kk ls hl rfl)
  · cases h
theorem am_W_i2c (hf : fz.category = 1) (hx : p.tables.exec = Jvm.exec) (hb : c.code = cc)  (hd : decode cc pc = .ok (.i2c, am_ln (.i2c))) (h : am_q (.i2c) L S = some (L', S')) (hl : am_lv (am_cv B sp fz) ls L) (kk : ∀ ls2 : Array Slot, am_lv (am_cv B sp fz) ls2 L' → L'.length = L.length → W p l e R s m args below meth c H locs cells slots Q (F0 m (pc + am_ln (.i2c)) ls2 (S'.map (am_cv B sp fz)))) : W p l e R s m args below meth c H locs cells slots Q (F0 m pc ls (S.map (am_cv B sp fz))) := by
  simp only [am_q] at h
  split at h
  · cases h
    exact lv_i2c hx hb hd rfl (kk ls hl rfl)
  · cases h
theorem am_W_ineg (hf : fz.category = 1) (hx : p.tables.exec = Jvm.exec) (hb : c.code = cc)  (hd : decode cc pc = .ok (.ineg, am_ln (.ineg))) (h : am_q (.ineg) L S = some (L', S')) (hl : am_lv (am_cv B sp fz) ls L) (kk : ∀ ls2 : Array Slot, am_lv (am_cv B sp fz) ls2 L' → L'.length = L.length → W p l e R s m args below meth c H locs cells slots Q (F0 m (pc + am_ln (.ineg)) ls2 (S'.map (am_cv B sp fz)))) : W p l e R s m args below meth c H locs cells slots Q (F0 m pc ls (S.map (am_cv B sp fz))) := by
  simp only [am_q] at h
  split at h
  · cases h
    exact lv_ineg hx hb hd (kk ls hl rfl)
  · cases h
theorem am_W_idiv (hf : fz.category = 1) (hx : p.tables.exec = Jvm.exec) (hb : c.code = cc)  (hd : decode cc pc = .ok (.idiv, am_ln (.idiv))) (h : am_q (.idiv) L S = some (L', S')) (hl : am_lv (am_cv B sp fz) ls L) (kk : ∀ ls2 : Array Slot, am_lv (am_cv B sp fz) ls2 L' → L'.length = L.length → W p l e R s m args below meth c H locs cells slots Q (F0 m (pc + am_ln (.idiv)) ls2 (S'.map (am_cv B sp fz)))) : W p l e R s m args below meth c H locs cells slots Q (F0 m pc ls (S.map (am_cv B sp fz))) := by
  simp only [am_q] at h
  split at h
  · split at h
    · cases h
    · rename_i hz
      cases h
      exact lv_idiv hx hb hd hz (kk ls hl rfl)
  · cases h
theorem am_W_irem (hf : fz.category = 1) (hx : p.tables.exec = Jvm.exec) (hb : c.code = cc)  (hd : decode cc pc = .ok (.irem, am_ln (.irem))) (h : am_q (.irem) L S = some (L', S')) (hl : am_lv (am_cv B sp fz) ls L) (kk : ∀ ls2 : Array Slot, am_lv (am_cv B sp fz) ls2 L' → L'.length = L.length → W p l e R s m args below meth c H locs cells slots Q (F0 m (pc + am_ln (.irem)) ls2 (S'.map (am_cv B sp fz)))) : W p l e R s m args below meth c H locs cells slots Q (F0 m pc ls (S.map (am_cv B sp fz))) := by
  simp only [am_q] at h
  split at h
  · split at h
    · cases h
    · rename_i hz
      cases h
      exact lv_irem hx hb hd hz (kk ls hl rfl)
  · cases h
theorem am_W_ldiv (hf : fz.category = 1) (hx : p.tables.exec = Jvm.exec) (hb : c.code = cc)  (hd : decode cc pc = .ok (.ldiv, am_ln (.ldiv))) (h : am_q (.ldiv) L S = some (L', S')) (hl : am_lv (am_cv B sp fz) ls L) (kk : ∀ ls2 : Array Slot, am_lv (am_cv B sp fz) ls2 L' → L'.length = L.length → W p l e R s m args below meth c H locs cells slots Q (F0 m (pc + am_ln (.ldiv)) ls2 (S'.map (am_cv B sp fz)))) : W p l e R s m args below meth c H locs cells slots Q (F0 m pc ls (S.map (am_cv B sp fz))) := by
  simp only [am_q] at h
  split at h
  · split at h
    · cases h
    · rename_i hz
      cases h
      exact lv_ldiv hx hb hd hz (kk ls hl rfl)
  · cases h
theorem am_W_dup (hf : fz.category = 1) (hx : p.tables.exec = Jvm.exec) (hb : c.code = cc)  (hd : decode cc pc = .ok (.dup, am_ln (.dup))) (h : am_q (.dup) L S = some (L', S')) (hl : am_lv (am_cv B sp fz) ls L) (kk : ∀ ls2 : Array Slot, am_lv (am_cv B sp fz) ls2 L' → L'.length = L.length → W p l e R s m args below meth c H locs cells slots Q (F0 m (pc + am_ln (.dup)) ls2 (S'.map (am_cv B sp fz)))) : W p l e R s m args below meth c H locs cells slots Q (F0 m pc ls (S.map (am_cv B sp fz))) := by
  simp only [am_q] at h
  split at h
  · rename_i v T
    split at h
    · cases h
    · rename_i hz
      cases h
      exact lv_dup hx hb hd (by rw [am_cv_cat hf]; exact am_wide_c (by simpa using hz)) (kk ls hl rfl)
  · cases h
theorem am_W_pop (hf : fz.category = 1) (hx : p.tables.exec = Jvm.exec) (hb : c.code = cc)  (hd : decode cc pc = .ok (.pop, am_ln (.pop))) (h : am_q (.pop) L S = some (L', S')) (hl : am_lv (am_cv B sp fz) ls L) (kk : ∀ ls2 : Array Slot, am_lv (am_cv B sp fz) ls2 L' → L'.length = L.length → W p l e R s m args below meth c H locs cells slots Q (F0 m (pc + am_ln (.pop)) ls2 (S'.map (am_cv B sp fz)))) : W p l e R s m args below meth c H locs cells slots Q (F0 m pc ls (S.map (am_cv B sp fz))) := by
  simp only [am_q] at h
  split at h
  · rename_i v T
    split at h
    · cases h
    · rename_i hz
      cases h
      exact lv_pop hx hb hd (by rw [am_cv_cat hf]; exact am_wide_c (by simpa using hz)) (kk ls hl rfl)
  · cases h
theorem am_W_dup_x1 (hf : fz.category = 1) (hx : p.tables.exec = Jvm.exec) (hb : c.code = cc)  (hd : decode cc pc = .ok (.dup_x1, am_ln (.dup_x1))) (h : am_q (.dup_x1) L S = some (L', S')) (hl : am_lv (am_cv B sp fz) ls L) (kk : ∀ ls2 : Array Slot, am_lv (am_cv B sp fz) ls2 L' → L'.length = L.length → W p l e R s m args below meth c H locs cells slots Q (F0 m (pc + am_ln (.dup_x1)) ls2 (S'.map (am_cv B sp fz)))) : W p l e R s m args below meth c H locs cells slots Q (F0 m pc ls (S.map (am_cv B sp fz))) := by
  simp only [am_q] at h
  split at h
  · rename_i v w T
    split at h
    · cases h
    · rename_i hz
      cases h
      simp only [Bool.or_eq_true, not_or, Bool.not_eq_true] at hz
      exact lv_dup_x1 hx hb hd (by rw [am_cv_cat hf]; exact am_wide_c hz.1) (by rw [am_cv_cat hf]; exact am_wide_c hz.2) (kk ls hl rfl)
  · cases h
theorem am_W_dup2 (hf : fz.category = 1) (hx : p.tables.exec = Jvm.exec) (hb : c.code = cc)  (hd : decode cc pc = .ok (.dup2, am_ln (.dup2))) (h : am_q (.dup2) L S = some (L', S')) (hl : am_lv (am_cv B sp fz) ls L) (kk : ∀ ls2 : Array Slot, am_lv (am_cv B sp fz) ls2 L' → L'.length = L.length → W p l e R s m args below meth c H locs cells slots Q (F0 m (pc + am_ln (.dup2)) ls2 (S'.map (am_cv B sp fz)))) : W p l e R s m args below meth c H locs cells slots Q (F0 m pc ls (S.map (am_cv B sp fz))) := by
  simp only [am_q] at h
  split at h
  · rename_i v w T
    split at h
    · cases h
    · rename_i hz
      cases h
      simp only [Bool.or_eq_true, not_or, Bool.not_eq_true] at hz
      exact lv_dup2_11 hx hb hd (by rw [am_cv_cat hf]; exact am_wide_c hz.1) (by rw [am_cv_cat hf]; exact am_wide_c hz.2) (kk ls hl rfl)
  · cases h
set_option maxHeartbeats 4000000 in
theorem am_W_all (hf : fz.category = 1) (hx : p.tables.exec = Jvm.exec) (hb : c.code = cc) {ins : Instr} (hd : decode cc pc = .ok (ins, am_ln (ins))) (h : am_q (ins) L S = some (L', S')) (hl : am_lv (am_cv B sp fz) ls L) (kk : ∀ ls2 : Array Slot, am_lv (am_cv B sp fz) ls2 L' → L'.length = L.length → W p l e R s m args below meth c H locs cells slots Q (F0 m (pc + am_ln (ins)) ls2 (S'.map (am_cv B sp fz)))) : W p l e R s m args below meth c H locs cells slots Q (F0 m pc ls (S.map (am_cv B sp fz))) := by
  cases ins with
  | iconst _ => exact am_W_iconst hf hx hb hd h hl kk
  | bipush _ => exact am_W_bipush hf hx hb hd h hl kk
  | sipush _ => exact am_W_sipush hf hx hb hd h hl kk
  | lconst _ => exact am_W_lconst hf hx hb hd h hl kk
  | iload _ => exact am_W_iload hf hx hb hd h hl kk
  | lload _ => exact am_W_lload hf hx hb hd h hl kk
  | aload _ => exact am_W_aload hf hx hb hd h hl kk
  | iload_n _ => exact am_W_iload_n hf hx hb hd h hl kk
  | lload_n _ => exact am_W_lload_n hf hx hb hd h hl kk
  | aload_n _ => exact am_W_aload_n hf hx hb hd h hl kk
  | istore _ => exact am_W_istore hf hx hb hd h hl kk
  | istore_n _ => exact am_W_istore_n hf hx hb hd h hl kk
  | astore _ => exact am_W_astore hf hx hb hd h hl kk
  | astore_n _ => exact am_W_astore_n hf hx hb hd h hl kk
  | lstore _ => exact am_W_lstore hf hx hb hd h hl kk
  | lstore_n _ => exact am_W_lstore_n hf hx hb hd h hl kk
  | iadd => exact am_W_iadd hf hx hb hd h hl kk
  | isub => exact am_W_isub hf hx hb hd h hl kk
  | imul => exact am_W_imul hf hx hb hd h hl kk
  | iand => exact am_W_iand hf hx hb hd h hl kk
  | ior => exact am_W_ior hf hx hb hd h hl kk
  | ishl => exact am_W_ishl hf hx hb hd h hl kk
  | ishr => exact am_W_ishr hf hx hb hd h hl kk
  | ladd => exact am_W_ladd hf hx hb hd h hl kk
  | lsub => exact am_W_lsub hf hx hb hd h hl kk
  | lmul => exact am_W_lmul hf hx hb hd h hl kk
  | land => exact am_W_land hf hx hb hd h hl kk
  | lor => exact am_W_lor hf hx hb hd h hl kk
  | iushr => exact am_W_iushr hf hx hb hd h hl kk
  | lshl => exact am_W_lshl hf hx hb hd h hl kk
  | lshr => exact am_W_lshr hf hx hb hd h hl kk
  | idiv => exact am_W_idiv hf hx hb hd h hl kk
  | irem => exact am_W_irem hf hx hb hd h hl kk
  | ldiv => exact am_W_ldiv hf hx hb hd h hl kk
  | ineg => exact am_W_ineg hf hx hb hd h hl kk
  | i2l => exact am_W_i2l hf hx hb hd h hl kk
  | l2i => exact am_W_l2i hf hx hb hd h hl kk
  | i2c => exact am_W_i2c hf hx hb hd h hl kk
  | lcmp => exact am_W_lcmp hf hx hb hd h hl kk
  | dup => exact am_W_dup hf hx hb hd h hl kk
  | pop => exact am_W_pop hf hx hb hd h hl kk
  | dup_x1 => exact am_W_dup_x1 hf hx hb hd h hl kk
  | dup2 => exact am_W_dup2 hf hx hb hd h hl kk
  | iinc _ _ => exact am_W_iinc hf hx hb hd h hl kk
  | _ => cases h
end AMQ
end
section
/-! ===== the world that the cells are; what holds in a method's frame; the machine's judgement SW ===== -/
def am_fv (B : Nat) (sp : Nat → Nat) (M : am_M) (N : am_N) (k : Nat) (t : FieldType) (j : Nat) (r : Option Nat) : Value := match t with
  | .int => .int (M k j)
  | .long => .long (N k j)
  | _ => va_rf (r.map (am_ad B sp))
def am_fs (B : Nat) (sp : Nat → Nat) (M : am_M) (N : am_N) (k ci : Nat) (rs : List (Option Nat)) : List Value := (List.range (am_nf ci)).map fun j => am_fv B sp M N k (am_tf ci j) j (rs.getD j none)
abbrev am_G : Type := ClassId × ClassId × ClassId
def am_ce (G : am_G) (B : Nat) (sp : Nat → Nat) (M : am_M) (N : am_N) (k : Nat) (e : am_E) : va_E := match e with
  | .inl (0, n) => .inl (G.1, n, .inl (M k))
  | .inl (1, n) => .inl (G.2.1, n, .inl (M k))
  | .inl (_, n) => .inl (G.2.2, n, .inr (.inr (.inr (.inr (fun j => some (am_ad B sp (k + 1 + j)))))))
  | .inr (ci, rs) => .inr (ci, am_fs B sp M N k ci rs)
def am_ws (G : am_G) (B : Nat) (sp : Nat → Nat) (sh : List am_E) (M : am_M) (N : am_N) : va_W := sh.mapIdx fun k e => (am_ad B sp k, am_ce G B sp M N k e)
theorem am_ws_get {G : am_G} {B : Nat} {sp : Nat → Nat} {sh : List am_E} {M : am_M} {N : am_N} {k : Nat} {e : am_E} (h : sh[k]? = some e) : (am_ws G B sp sh M N)[k]? = some (am_ad B sp k, am_ce G B sp M N k e) := by
  simp [am_ws, h]
theorem am_ce_eq {G : am_G} {B : Nat} {sp : Nat → Nat} {M M' : am_M} {N N' : am_N} {k : Nat} (h1 : M' k = M k) (h2 : N' k = N k) (e : am_E) : am_ce G B sp M' N' k e = am_ce G B sp M N k e := by
  match e with
  | .inl (0, n) => simp only [am_ce, h1]
  | .inl (1, n) => simp only [am_ce, h1]
  | .inl (t + 2, n) => rfl
  | .inr (ci, rs) => simp only [am_ce, am_fs, am_fv, h1, h2]
theorem am_ws_put {G : am_G} {B : Nat} {sp : Nat → Nat} {sh : List am_E} {M M' : am_M} {N N' : am_N} {k : Nat} {e : am_E} (h : sh[k]? = some e) (hM : ∀ a, a ≠ k → M' a = M a) (hN : ∀ a, a ≠ k → N' a = N a) (e' : am_E) : (am_ws G B sp sh M N).set k (am_ad B sp k, am_ce G B sp M' N' k e') = am_ws G B sp (sh.set k e') M' N' := by
  have hl : k < sh.length := (List.getElem?_eq_some_iff.mp h).1
  apply List.ext_getElem?
  intro j
  by_cases hj : j = k
  · subst hj
    rw [List.getElem?_set_self (by simp [am_ws, hl])]
    exact (am_ws_get (by rw [List.getElem?_set_self hl])).symm
  · rw [List.getElem?_set_ne (fun q => hj q.symm)]
    simp only [am_ws, List.getElem?_mapIdx]
    rw [List.getElem?_set_ne (fun q => hj q.symm)]
    cases sh[j]? with
    | none => rfl
    | some x => simp only [Option.map_some]; rw [am_ce_eq (hM j hj) (hN j hj)]
theorem am_ws_set {G : am_G} {B : Nat} {sp : Nat → Nat} {sh : List am_E} {M M' : am_M} {N N' : am_N} {k : Nat} {e : am_E} (h : sh[k]? = some e) (hM : ∀ a, a ≠ k → M' a = M a) (hN : ∀ a, a ≠ k → N' a = N a) : (am_ws G B sp sh M N).set k (am_ad B sp k, am_ce G B sp M' N' k e) = am_ws G B sp sh M' N' := by
  have h2 : sh.set k e = sh := by
    apply List.ext_getElem?
    intro j
    by_cases hj : j = k
    · subst hj
      rw [List.getElem?_set_self (List.getElem?_eq_some_iff.mp h).1, h]
    · rw [List.getElem?_set_ne (fun q => hj q.symm)]
  have := am_ws_put (G := G) (B := B) (sp := sp) h hM hN e
  rw [h2] at this
  exact this
theorem am_ws_push {G : am_G} {B : Nat} {sp : Nat → Nat} {sh : List am_E} {M M' : am_M} {N N' : am_N} (hM : ∀ a, a ≠ sh.length → M' a = M a) (hN : ∀ a, a ≠ sh.length → N' a = N a) (e : am_E) : am_ws G B sp (sh ++ [e]) M' N' = am_ws G B sp sh M N ++ [(am_ad B sp sh.length, am_ce G B sp M' N' sh.length e)] := by
  apply List.ext_getElem?
  intro j
  have hlen : (am_ws G B sp sh M N).length = sh.length := by simp [am_ws]
  by_cases hj : j < sh.length
  · rw [List.getElem?_append_left (by omega)]
    simp only [am_ws, List.getElem?_mapIdx]
    rw [List.getElem?_append_left hj]
    cases sh[j]? with
    | none => rfl
    | some x => simp only [Option.map_some]; rw [am_ce_eq (hM j (by omega)) (hN j (by omega))]
  · rw [List.getElem?_append_right (by omega), hlen]
    simp only [am_ws, List.getElem?_mapIdx]
    rw [List.getElem?_append_right (by omega)]
    by_cases h0 : j = sh.length
    · subst h0
      simp
    · have : 1 ≤ j - sh.length := by omega
      rw [List.getElem?_eq_none (by simpa using this), List.getElem?_eq_none (by simpa using this)]
      rfl
def am_A (B : Nat) : Nat → Prop := fun q => B ≤ q
def am_sz (sh : List am_E) : Nat := (sh.map fun e => match e with
  | .inl (_, n) => n
  | .inr (ci, _) => am_nf ci).sum
def am_tys (G : am_G) : List (ClassId × FieldType) := [(G.1, .int), (G.2.1, .boolean), (G.2.2, .array .int)]
def am_mom : List Int32 := [2, 2, 16, 16, 4095]
/-- what lies outside: the script, a static row, two statics, the texts, the links between nest mates -/
def am_Xt (B : Nat) (sp : Nat → Nat) (fz : Value) (Lx : Nat) (xs : Nat → Int32) (s : State) (H : Heap) : Prop :=
  fz.category = 1 ∧ (va_X (sp 1000000) Lx xs s H ∧ sp 1000000 < B) ∧ (va_Z "DriftCards" "MOST_OF_MARK" "[I" (.ref (sp 1000001)) (am_A B) s H ∧ va_T .int (sp 1000001) 5 (fun j => .int (am_mom.getD j 0)) (am_A B) s H) ∧
  va_Z "java/lang/String" "COMPACT_STRINGS" "Z" (.int 1) (am_A B) s H ∧ va_Z "jdk/internal/util/Preconditions" "SIOOBE_FORMATTER" "Ljava/util/function/BiFunction;" fz (am_A B) s H ∧
  vk_S 7 am_slen am_sbyt (fun j => sp (1000010 + j)) (fun j => sp (1000100 + j)) (am_A B) s H ∧ (∀ j, j < 7 → vk_R "DriftCards$Prizes" (am_sks.getD j 0) (am_sts.getD j "") (sp (1000010 + j)) s) ∧
  (∃ (comp cA : ClassId) (kA : Class), s.vm.findClass (FieldType.array .int).toString = some comp ∧ s.vm.classes[cA]? = some kA ∧ kA.kind = .array comp (.array .int) ∧ s.vm.findClass ("[" ++ (FieldType.array .int).toString) = some cA) ∧
  ∀ q ∈ am_nlk, va_Nw (.methodLinkNest (am_cn q.1) q.2.1 (am_y q.2.2) "DriftCards") s
theorem am_over_moved {s U : State} (hvm : s.vm.Alike U.vm) (h : ∃ (comp cA : ClassId) (kA : Class), s.vm.findClass (FieldType.array .int).toString = some comp ∧ s.vm.classes[cA]? = some kA ∧ kA.kind = .array comp (.array .int) ∧ s.vm.findClass ("[" ++ (FieldType.array .int).toString) = some cA) : ∃ (comp cA : ClassId) (kA : Class), U.vm.findClass (FieldType.array .int).toString = some comp ∧ U.vm.classes[cA]? = some kA ∧ kA.kind = .array comp (.array .int) ∧ U.vm.findClass ("[" ++ (FieldType.array .int).toString) = some cA := by
  obtain ⟨comp, cA, kA, h1, h2, h3, h4⟩ := h
  obtain ⟨k', hk', he⟩ := hvm.2.2 _ _ h2
  exact ⟨comp, cA, k', by rw [hvm.findClass]; exact h1, hk', by rw [he]; exact h3, by rw [hvm.findClass]; exact h4⟩
theorem am_Xt.pass {B : Nat} {sp : Nat → Nat} {fz : Value} {Lx : Nat} {xs : Nat → Int32} {s U : State} {H : Heap} {locs : List Loc} (h : am_Xt B sp fz Lx xs s s.heap) (hB : B ≤ s.heap.size) (hS : va_S (am_A B) s.heap H locs) (hU : U.heap = H) (hW : s.WarmedH U.vm) : am_Xt B sp fz Lx xs U U.heap := by
  obtain ⟨h0, ⟨h1, h1b⟩, ⟨h2, h3⟩, h4, h5, h6, h7, h8, h9⟩ := h
  have hal := hW.alike
  have hk : ∀ a : Nat, a < s.heap.size → ¬ am_A B a → U.heap[a]? = s.heap[a]? := fun a ha hn => by rw [hU]; exact hS.2.1 a ha hn
  exact ⟨h0, ⟨(h1.moved hal).kept (hk _ (by omega) (by show ¬ B ≤ _; omega)), h1b⟩, ⟨(h2.moved hal).kept hk, (h3.moved hal).kept hk⟩, (h4.moved hal).kept hk, (h5.moved hal).kept hk, (h6.moved hal).kept hk, fun j hj => (h7 j hj).warm hW, am_over_moved hal h8, fun q hq => va_Nw.warmM hW (h9 q hq)⟩
theorem am_Xt.blind {B : Nat} {sp : Nat → Nat} {fz : Value} {Lx : Nat} {xs : Nat → Int32} {s U : State} (h : am_Xt B sp fz Lx xs s s.heap) (hU : U.heap = s.heap) (hv : U.vm = s.vm) : am_Xt B sp fz Lx xs U U.heap := by
  obtain ⟨h0, ⟨h1, h1b⟩, ⟨h2, h3⟩, h4, h5, h6, h7, h8, h9⟩ := h
  have hal : s.vm.Alike U.vm := by rw [hv]; exact Vm.Alike.refl s.vm
  have hk : ∀ a : Nat, a < s.heap.size → ¬ am_A B a → U.heap[a]? = s.heap[a]? := fun a ha hn => by rw [hU]
  exact ⟨h0, ⟨(h1.moved hal).kept (by rw [hU]), h1b⟩, ⟨(h2.moved hal).kept hk, (h3.moved hal).kept hk⟩, (h4.moved hal).kept hk, (h5.moved hal).kept hk, (h6.moved hal).kept hk, fun j hj => (h7 j hj).same hv, am_over_moved hal h8, fun q hq => va_Nw.same rfl hv.symm (h9 q hq)⟩
/-- a method's frame: what does not change in it -/
def am_Cx (D : va_G) (G : am_G) (B : Nat) (sp : Nat → Nat) (fz : Value) (Lx : Nat) (xs : Nat → Int32) (i : Nat) (p : Program) (R : Room) (s : State) (m : MethodId) (args : Array Value) (meth : Method) (c : Code) : Prop :=
  p.tables.exec = Jvm.exec ∧ c.code = am_c i ∧ c.maxLocals = am_mx i ∧ s.vm.findClass (am_cn (am_ow i)) = some m.cls ∧ (∀ w ∈ am_tbl, w.before args s = true) ∧ meth.sig.returnType = am_rt i ∧ meth.locks = false ∧ ((am_y i).name = "<init>" → meth.name = "<init>") ∧ va_K D vwCl (am_tys G) s ∧ am_Xt B sp fz Lx xs s s.heap ∧ B ≤ s.heap.size ∧ am_fr i ≤ R.frames ∧ am_lo i ≤ R.locals
def am_St (D : va_G) (G : am_G) (B : Nat) (sp : Nat → Nat) (fz : Value) (shE : List am_E) (i : Nat) (R : Room) (s : State) (H : Heap) (locs : List Loc) (ls : Array Slot) (cells slots : Nat) (L : am_V) (sh : List am_E) (M : am_M) (N : am_N) : Prop :=
  cells + shE.length ≤ R.cells + sh.length ∧ slots + am_sz shE ≤ R.slots + am_sz sh ∧ va_P D vwCl (am_ws G B sp sh M N) H ∧ va_D (am_A B) (am_ws G B sp sh M N) ∧ va_S (am_A B) s.heap H locs ∧ s.heap.size + cells ≤ B + sh.length ∧ am_lv (am_cv B sp fz) ls L ∧ L.length = am_mx i
def am_Qc (D : va_G) (G : am_G) (B : Nat) (sp : Nat → Nat) (fz : Value) (Q : am_Q) (shE : List am_E) : Array Value → State → Outcome → State → Prop := fun _ st oc t =>
  (∃ (r : Option Value) (M : am_M) (N : am_N), oc = .returned (r.map (am_cv B sp fz)) ∧ Q r M N ∧ va_P D vwCl (am_ws G B sp shE M N) t.heap ∧ va_D (am_A B) (am_ws G B sp shE M N)) ∧ va_F (am_A B) st t
/-- the machine, from here on, comes to the method's end with Q, and with the cells' shapes shE -/
def am_SW (l : Launch) (D : va_G) (G : am_G) (B : Nat) (sp : Nat → Nat) (fz : Value) (Lx : Nat) (xs : Nat → Int32) (Q : am_Q) (shE : List am_E) (i pc : Nat) (L S : am_V) (sh : List am_E) (M : am_M) (N : am_N) : Prop :=
  sh.length ≤ shE.length ∧ am_sz sh ≤ am_sz shE ∧
  ∀ (p : Program) (e : Env) (R : Room) (s : State) (m : MethodId) (args : Array Value) (below : List Frame) (meth : Method) (c : Code) (H : Heap) (locs : List Loc) (ls : Array Slot) (cells slots : Nat),
    am_Cx D G B sp fz Lx xs i p R s m args meth c → am_St D G B sp fz shE i R s H locs ls cells slots L sh M N →
    W p l e R s m args below meth c H locs cells slots (MQ below (am_Qc D G B sp fz Q shE) args s R.cells R.slots (am_A B)) (F0 m pc ls (S.map (am_cv B sp fz)))
section AMS
variable {l : Launch} {D : va_G} {G : am_G} {B : Nat} {sp : Nat → Nat} {fz : Value} {Lx : Nat} {xs : Nat → Int32} {Q : am_Q} {shE : List am_E} {i pc : Nat} {L S : am_V} {sh : List am_E} {M : am_M} {N : am_N}
theorem sw_q {ins : Instr} {L' S' : am_V} (hin : am_in i pc = some (ins, am_ln ins)) (h : am_q ins L S = some (L', S')) (k : am_SW l D G B sp fz Lx xs Q shE i (pc + am_ln ins) L' S' sh M N) : am_SW l D G B sp fz Lx xs Q shE i pc L S sh M N := by
  refine ⟨k.1, k.2.1, fun p e R s m args below meth c H locs ls cells slots C St => ?_⟩
  obtain ⟨a1, a2, a3, a4, a5, a6, a7, a8⟩ := St
  exact am_W_all C.2.2.2.2.2.2.2.2.2.1.1 C.1 C.2.1 (am_in_dec hin) h a7 (fun ls2 h2 h3 => k.2.2 p e R s m args below meth c H locs ls2 cells slots C ⟨a1, a2, a3, a4, a5, a6, h2, h3.trans a8⟩)
theorem sw_fg (j : Nat) (k : am_SW l D G B sp fz Lx xs Q shE i pc (L.set j (.retAddr 0)) S sh M N) : am_SW l D G B sp fz Lx xs Q shE i pc L S sh M N := by
  refine ⟨k.1, k.2.1, fun p e R s m args below meth c H locs ls cells slots C St => ?_⟩
  obtain ⟨a1, a2, a3, a4, a5, a6, a7, a8⟩ := St
  exact k.2.2 p e R s m args below meth c H locs ls cells slots C ⟨a1, a2, a3, a4, a5, a6, a7.forget j, by rw [List.length_set]; exact a8⟩
theorem sw_if_eq {x : Int32} {off : Int} (tgt : Nat) (hin : am_in i pc = some (.ifCond .eq off, 3)) (ht : (pc : Int) + off = (tgt : Int)) (kt : x = 0 → am_SW l D G B sp fz Lx xs Q shE i tgt L S sh M N) (kf : ¬ x = 0 → am_SW l D G B sp fz Lx xs Q shE i (pc + 3) L S sh M N) : am_SW l D G B sp fz Lx xs Q shE i pc L (.int x :: S) sh M N := by
  by_cases hc : x = 0
  · refine ⟨(kt hc).1, (kt hc).2.1, fun p e R s m args below meth c H locs ls cells slots C St => ?_⟩
    exact lv_if_eq C.1 C.2.1 (am_in_dec hin) ht (fun _ => (kt hc).2.2 p e R s m args below meth c H locs ls cells slots C St) (fun q => absurd hc (by first | exact q | exact fun z => z q))
  · refine ⟨(kf (by first | exact hc | exact Decidable.not_not.mp hc)).1, (kf (by first | exact hc | exact Decidable.not_not.mp hc)).2.1, fun p e R s m args below meth c H locs ls cells slots C St => ?_⟩
    exact lv_if_eq C.1 C.2.1 (am_in_dec hin) ht (fun q => absurd q hc) (fun q => (kf q).2.2 p e R s m args below meth c H locs ls cells slots C St)
theorem sw_icmp_eq {x y : Int32} {off : Int} (tgt : Nat) (hin : am_in i pc = some (.if_icmp .eq off, 3)) (ht : (pc : Int) + off = (tgt : Int)) (kt : x = y → am_SW l D G B sp fz Lx xs Q shE i tgt L S sh M N) (kf : ¬ x = y → am_SW l D G B sp fz Lx xs Q shE i (pc + 3) L S sh M N) : am_SW l D G B sp fz Lx xs Q shE i pc L (.int y :: .int x :: S) sh M N := by
  by_cases hc : x = y
  · refine ⟨(kt hc).1, (kt hc).2.1, fun p e R s m args below meth c H locs ls cells slots C St => ?_⟩
    exact lv_icmp_eq C.1 C.2.1 (am_in_dec hin) ht (fun _ => (kt hc).2.2 p e R s m args below meth c H locs ls cells slots C St) (fun q => absurd hc (by first | exact q | exact fun z => z q))
  · refine ⟨(kf (by first | exact hc | exact Decidable.not_not.mp hc)).1, (kf (by first | exact hc | exact Decidable.not_not.mp hc)).2.1, fun p e R s m args below meth c H locs ls cells slots C St => ?_⟩
    exact lv_icmp_eq C.1 C.2.1 (am_in_dec hin) ht (fun q => absurd q hc) (fun q => (kf q).2.2 p e R s m args below meth c H locs ls cells slots C St)
theorem sw_if_ne {x : Int32} {off : Int} (tgt : Nat) (hin : am_in i pc = some (.ifCond .ne off, 3)) (ht : (pc : Int) + off = (tgt : Int)) (kt : ¬ x = 0 → am_SW l D G B sp fz Lx xs Q shE i tgt L S sh M N) (kf : x = 0 → am_SW l D G B sp fz Lx xs Q shE i (pc + 3) L S sh M N) : am_SW l D G B sp fz Lx xs Q shE i pc L (.int x :: S) sh M N := by
  by_cases hc : ¬ x = 0
  · refine ⟨(kt hc).1, (kt hc).2.1, fun p e R s m args below meth c H locs ls cells slots C St => ?_⟩
    exact lv_if_ne C.1 C.2.1 (am_in_dec hin) ht (fun _ => (kt hc).2.2 p e R s m args below meth c H locs ls cells slots C St) (fun q => absurd hc (by first | exact q | exact fun z => z q))
  · refine ⟨(kf (by first | exact hc | exact Decidable.not_not.mp hc)).1, (kf (by first | exact hc | exact Decidable.not_not.mp hc)).2.1, fun p e R s m args below meth c H locs ls cells slots C St => ?_⟩
    exact lv_if_ne C.1 C.2.1 (am_in_dec hin) ht (fun q => absurd q hc) (fun q => (kf q).2.2 p e R s m args below meth c H locs ls cells slots C St)
theorem sw_icmp_ne {x y : Int32} {off : Int} (tgt : Nat) (hin : am_in i pc = some (.if_icmp .ne off, 3)) (ht : (pc : Int) + off = (tgt : Int)) (kt : ¬ x = y → am_SW l D G B sp fz Lx xs Q shE i tgt L S sh M N) (kf : x = y → am_SW l D G B sp fz Lx xs Q shE i (pc + 3) L S sh M N) : am_SW l D G B sp fz Lx xs Q shE i pc L (.int y :: .int x :: S) sh M N := by
  by_cases hc : ¬ x = y
  · refine ⟨(kt hc).1, (kt hc).2.1, fun p e R s m args below meth c H locs ls cells slots C St => ?_⟩
    exact lv_icmp_ne C.1 C.2.1 (am_in_dec hin) ht (fun _ => (kt hc).2.2 p e R s m args below meth c H locs ls cells slots C St) (fun q => absurd hc (by first | exact q | exact fun z => z q))
  · refine ⟨(kf (by first | exact hc | exact Decidable.not_not.mp hc)).1, (kf (by first | exact hc | exact Decidable.not_not.mp hc)).2.1, fun p e R s m args below meth c H locs ls cells slots C St => ?_⟩
    exact lv_icmp_ne C.1 C.2.1 (am_in_dec hin) ht (fun q => absurd q hc) (fun q => (kf q).2.2 p e R s m args below meth c H locs ls cells slots C St)
theorem sw_if_lt {x : Int32} {off : Int} (tgt : Nat) (hin : am_in i pc = some (.ifCond .lt off, 3)) (ht : (pc : Int) + off = (tgt : Int)) (kt : x < 0 → am_SW l D G B sp fz Lx xs Q shE i tgt L S sh M N) (kf : ¬ x < 0 → am_SW l D G B sp fz Lx xs Q shE i (pc + 3) L S sh M N) : am_SW l D G B sp fz Lx xs Q shE i pc L (.int x :: S) sh M N := by
  by_cases hc : x < 0
  · refine ⟨(kt hc).1, (kt hc).2.1, fun p e R s m args below meth c H locs ls cells slots C St => ?_⟩
    exact lv_if_lt C.1 C.2.1 (am_in_dec hin) ht (fun _ => (kt hc).2.2 p e R s m args below meth c H locs ls cells slots C St) (fun q => absurd hc (by first | exact q | exact fun z => z q))
  · refine ⟨(kf (by first | exact hc | exact Decidable.not_not.mp hc)).1, (kf (by first | exact hc | exact Decidable.not_not.mp hc)).2.1, fun p e R s m args below meth c H locs ls cells slots C St => ?_⟩
    exact lv_if_lt C.1 C.2.1 (am_in_dec hin) ht (fun q => absurd q hc) (fun q => (kf q).2.2 p e R s m args below meth c H locs ls cells slots C St)
theorem sw_icmp_lt {x y : Int32} {off : Int} (tgt : Nat) (hin : am_in i pc = some (.if_icmp .lt off, 3)) (ht : (pc : Int) + off = (tgt : Int)) (kt : x < y → am_SW l D G B sp fz Lx xs Q shE i tgt L S sh M N) (kf : ¬ x < y → am_SW l D G B sp fz Lx xs Q shE i (pc + 3) L S sh M N) : am_SW l D G B sp fz Lx xs Q shE i pc L (.int y :: .int x :: S) sh M N := by
  by_cases hc : x < y
  · refine ⟨(kt hc).1, (kt hc).2.1, fun p e R s m args below meth c H locs ls cells slots C St => ?_⟩
    exact lv_icmp_lt C.1 C.2.1 (am_in_dec hin) ht (fun _ => (kt hc).2.2 p e R s m args below meth c H locs ls cells slots C St) (fun q => absurd hc (by first | exact q | exact fun z => z q))
  · refine ⟨(kf (by first | exact hc | exact Decidable.not_not.mp hc)).1, (kf (by first | exact hc | exact Decidable.not_not.mp hc)).2.1, fun p e R s m args below meth c H locs ls cells slots C St => ?_⟩
    exact lv_icmp_lt C.1 C.2.1 (am_in_dec hin) ht (fun q => absurd q hc) (fun q => (kf q).2.2 p e R s m args below meth c H locs ls cells slots C St)
theorem sw_if_ge {x : Int32} {off : Int} (tgt : Nat) (hin : am_in i pc = some (.ifCond .ge off, 3)) (ht : (pc : Int) + off = (tgt : Int)) (kt : 0 ≤ x → am_SW l D G B sp fz Lx xs Q shE i tgt L S sh M N) (kf : ¬ 0 ≤ x → am_SW l D G B sp fz Lx xs Q shE i (pc + 3) L S sh M N) : am_SW l D G B sp fz Lx xs Q shE i pc L (.int x :: S) sh M N := by
  by_cases hc : 0 ≤ x
  · refine ⟨(kt hc).1, (kt hc).2.1, fun p e R s m args below meth c H locs ls cells slots C St => ?_⟩
    exact lv_if_ge C.1 C.2.1 (am_in_dec hin) ht (fun _ => (kt hc).2.2 p e R s m args below meth c H locs ls cells slots C St) (fun q => absurd hc (by first | exact q | exact fun z => z q))
  · refine ⟨(kf (by first | exact hc | exact Decidable.not_not.mp hc)).1, (kf (by first | exact hc | exact Decidable.not_not.mp hc)).2.1, fun p e R s m args below meth c H locs ls cells slots C St => ?_⟩
    exact lv_if_ge C.1 C.2.1 (am_in_dec hin) ht (fun q => absurd q hc) (fun q => (kf q).2.2 p e R s m args below meth c H locs ls cells slots C St)
theorem sw_icmp_ge {x y : Int32} {off : Int} (tgt : Nat) (hin : am_in i pc = some (.if_icmp .ge off, 3)) (ht : (pc : Int) + off = (tgt : Int)) (kt : y ≤ x → am_SW l D G B sp fz Lx xs Q shE i tgt L S sh M N) (kf : ¬ y ≤ x → am_SW l D G B sp fz Lx xs Q shE i (pc + 3) L S sh M N) : am_SW l D G B sp fz Lx xs Q shE i pc L (.int y :: .int x :: S) sh M N := by
  by_cases hc : y ≤ x
  · refine ⟨(kt hc).1, (kt hc).2.1, fun p e R s m args below meth c H locs ls cells slots C St => ?_⟩
    exact lv_icmp_ge C.1 C.2.1 (am_in_dec hin) ht (fun _ => (kt hc).2.2 p e R s m args below meth c H locs ls cells slots C St) (fun q => absurd hc (by first | exact q | exact fun z => z q))
  · refine ⟨(kf (by first | exact hc | exact Decidable.not_not.mp hc)).1, (kf (by first | exact hc | exact Decidable.not_not.mp hc)).2.1, fun p e R s m args below meth c H locs ls cells slots C St => ?_⟩
    exact lv_icmp_ge C.1 C.2.1 (am_in_dec hin) ht (fun q => absurd q hc) (fun q => (kf q).2.2 p e R s m args below meth c H locs ls cells slots C St)
theorem sw_if_gt {x : Int32} {off : Int} (tgt : Nat) (hin : am_in i pc = some (.ifCond .gt off, 3)) (ht : (pc : Int) + off = (tgt : Int)) (kt : 0 < x → am_SW l D G B sp fz Lx xs Q shE i tgt L S sh M N) (kf : ¬ 0 < x → am_SW l D G B sp fz Lx xs Q shE i (pc + 3) L S sh M N) : am_SW l D G B sp fz Lx xs Q shE i pc L (.int x :: S) sh M N := by
  by_cases hc : 0 < x
  · refine ⟨(kt hc).1, (kt hc).2.1, fun p e R s m args below meth c H locs ls cells slots C St => ?_⟩
    exact lv_if_gt C.1 C.2.1 (am_in_dec hin) ht (fun _ => (kt hc).2.2 p e R s m args below meth c H locs ls cells slots C St) (fun q => absurd hc (by first | exact q | exact fun z => z q))
  · refine ⟨(kf (by first | exact hc | exact Decidable.not_not.mp hc)).1, (kf (by first | exact hc | exact Decidable.not_not.mp hc)).2.1, fun p e R s m args below meth c H locs ls cells slots C St => ?_⟩
    exact lv_if_gt C.1 C.2.1 (am_in_dec hin) ht (fun q => absurd q hc) (fun q => (kf q).2.2 p e R s m args below meth c H locs ls cells slots C St)
theorem sw_icmp_gt {x y : Int32} {off : Int} (tgt : Nat) (hin : am_in i pc = some (.if_icmp .gt off, 3)) (ht : (pc : Int) + off = (tgt : Int)) (kt : y < x → am_SW l D G B sp fz Lx xs Q shE i tgt L S sh M N) (kf : ¬ y < x → am_SW l D G B sp fz Lx xs Q shE i (pc + 3) L S sh M N) : am_SW l D G B sp fz Lx xs Q shE i pc L (.int y :: .int x :: S) sh M N := by
  by_cases hc : y < x
  · refine ⟨(kt hc).1, (kt hc).2.1, fun p e R s m args below meth c H locs ls cells slots C St => ?_⟩
    exact lv_icmp_gt C.1 C.2.1 (am_in_dec hin) ht (fun _ => (kt hc).2.2 p e R s m args below meth c H locs ls cells slots C St) (fun q => absurd hc (by first | exact q | exact fun z => z q))
  · refine ⟨(kf (by first | exact hc | exact Decidable.not_not.mp hc)).1, (kf (by first | exact hc | exact Decidable.not_not.mp hc)).2.1, fun p e R s m args below meth c H locs ls cells slots C St => ?_⟩
    exact lv_icmp_gt C.1 C.2.1 (am_in_dec hin) ht (fun q => absurd q hc) (fun q => (kf q).2.2 p e R s m args below meth c H locs ls cells slots C St)
theorem sw_if_le {x : Int32} {off : Int} (tgt : Nat) (hin : am_in i pc = some (.ifCond .le off, 3)) (ht : (pc : Int) + off = (tgt : Int)) (kt : x ≤ 0 → am_SW l D G B sp fz Lx xs Q shE i tgt L S sh M N) (kf : ¬ x ≤ 0 → am_SW l D G B sp fz Lx xs Q shE i (pc + 3) L S sh M N) : am_SW l D G B sp fz Lx xs Q shE i pc L (.int x :: S) sh M N := by
  by_cases hc : x ≤ 0
  · refine ⟨(kt hc).1, (kt hc).2.1, fun p e R s m args below meth c H locs ls cells slots C St => ?_⟩
    exact lv_if_le C.1 C.2.1 (am_in_dec hin) ht (fun _ => (kt hc).2.2 p e R s m args below meth c H locs ls cells slots C St) (fun q => absurd hc (by first | exact q | exact fun z => z q))
  · refine ⟨(kf (by first | exact hc | exact Decidable.not_not.mp hc)).1, (kf (by first | exact hc | exact Decidable.not_not.mp hc)).2.1, fun p e R s m args below meth c H locs ls cells slots C St => ?_⟩
    exact lv_if_le C.1 C.2.1 (am_in_dec hin) ht (fun q => absurd q hc) (fun q => (kf q).2.2 p e R s m args below meth c H locs ls cells slots C St)
theorem sw_icmp_le {x y : Int32} {off : Int} (tgt : Nat) (hin : am_in i pc = some (.if_icmp .le off, 3)) (ht : (pc : Int) + off = (tgt : Int)) (kt : x ≤ y → am_SW l D G B sp fz Lx xs Q shE i tgt L S sh M N) (kf : ¬ x ≤ y → am_SW l D G B sp fz Lx xs Q shE i (pc + 3) L S sh M N) : am_SW l D G B sp fz Lx xs Q shE i pc L (.int y :: .int x :: S) sh M N := by
  by_cases hc : x ≤ y
  · refine ⟨(kt hc).1, (kt hc).2.1, fun p e R s m args below meth c H locs ls cells slots C St => ?_⟩
    exact lv_icmp_le C.1 C.2.1 (am_in_dec hin) ht (fun _ => (kt hc).2.2 p e R s m args below meth c H locs ls cells slots C St) (fun q => absurd hc (by first | exact q | exact fun z => z q))
  · refine ⟨(kf (by first | exact hc | exact Decidable.not_not.mp hc)).1, (kf (by first | exact hc | exact Decidable.not_not.mp hc)).2.1, fun p e R s m args below meth c H locs ls cells slots C St => ?_⟩
    exact lv_icmp_le C.1 C.2.1 (am_in_dec hin) ht (fun q => absurd q hc) (fun q => (kf q).2.2 p e R s m args below meth c H locs ls cells slots C St)
theorem sw_goto {off : Int} (tgt : Nat) (hin : am_in i pc = some (.goto off, 3)) (ht : (pc : Int) + off = (tgt : Int)) (k : am_SW l D G B sp fz Lx xs Q shE i tgt L S sh M N) : am_SW l D G B sp fz Lx xs Q shE i pc L S sh M N :=
  ⟨k.1, k.2.1, fun p e R s m args below meth c H locs ls cells slots C St => lv_goto C.1 C.2.1 (am_in_dec hin) ht (k.2.2 p e R s m args below meth c H locs ls cells slots C St)⟩
theorem sw_tsIn {dflt lo hi : Int} {offs : Array Int} {len : Nat} {x : Int32} {off : Int} (tgt : Nat) (hin : am_in i pc = some (.tableswitch dflt lo hi offs, len)) (h1 : ¬ x.toInt < lo) (h2 : ¬ hi < x.toInt) (ho : offs[(x.toInt - lo).toNat]? = some off) (ht : (pc : Int) + off = (tgt : Int)) (k : am_SW l D G B sp fz Lx xs Q shE i tgt L S sh M N) : am_SW l D G B sp fz Lx xs Q shE i pc L (.int x :: S) sh M N :=
  ⟨k.1, k.2.1, fun p e R s m args below meth c H locs ls cells slots C St => lv_tableIn C.1 C.2.1 (am_in_dec hin) h1 h2 ho ht (k.2.2 p e R s m args below meth c H locs ls cells slots C St)⟩
theorem sw_tsOut {dflt lo hi : Int} {offs : Array Int} {len : Nat} {x : Int32} (tgt : Nat) (hin : am_in i pc = some (.tableswitch dflt lo hi offs, len)) (h : x.toInt < lo ∨ hi < x.toInt) (ht : (pc : Int) + dflt = (tgt : Int)) (k : am_SW l D G B sp fz Lx xs Q shE i tgt L S sh M N) : am_SW l D G B sp fz Lx xs Q shE i pc L (.int x :: S) sh M N :=
  ⟨k.1, k.2.1, fun p e R s m args below meth c H locs ls cells slots C St => lv_tableOut C.1 C.2.1 (am_in_dec hin) h ht (k.2.2 p e R s m args below meth c H locs ls cells slots C St)⟩
theorem sw_ls {dflt : Int} {ps : Array (Int × Int)} {len : Nat} {x : Int32} {off : Int} (tgt : Nat) (hin : am_in i pc = some (.lookupswitch dflt ps, len)) (hp : (ps.toList.zip (ps.toList.drop 1)).all (fun (a, next) => a.1 < next.1) = true) (ho : Op.lookupswitch.offset ps.toList dflt x.toInt = off) (ht : (pc : Int) + off = (tgt : Int)) (k : am_SW l D G B sp fz Lx xs Q shE i tgt L S sh M N) : am_SW l D G B sp fz Lx xs Q shE i pc L (.int x :: S) sh M N :=
  ⟨k.1, k.2.1, fun p e R s m args below meth c H locs ls cells slots C St => lv_lookup C.1 C.2.1 (am_in_dec hin) hp ho ht (k.2.2 p e R s m args below meth c H locs ls cells slots C St)⟩
/-! answers -/
theorem sw_ret (hin : am_in i pc = some (.return_, 1)) (hr : am_rt i = none) (hq : Q none M N) : am_SW l D G B sp fz Lx xs Q sh i pc L [] sh M N := by
  refine ⟨Nat.le_refl _, Nat.le_refl _, fun p e R s m args below meth c H locs ls cells slots C St => ?_⟩
  obtain ⟨a1, a2, a3, a4, a5, a6, a7, a8⟩ := St
  refine W.widen (k := R.cells) (n := R.slots) (by omega) (by omega) ?_
  exact W.vret C.1 C.2.1 (C.2.2.2.2.2.1.trans hr) (fun t ht hW => ⟨⟨none, M, N, rfl, hq, by rw [ht]; exact a3, a4⟩, a5.F ht⟩) a5.2.2 (am_in_dec hin) C.2.2.2.2.2.2.1
theorem sw_iret {v : Int32} {ty : FieldType} (hin : am_in i pc = some (.ireturn, 1)) (hr : am_rt i = some ty) (hn : narrow ty (.int v) = .int v) (hq : Q (some (.int v)) M N) : am_SW l D G B sp fz Lx xs Q sh i pc L [.int v] sh M N := by
  refine ⟨Nat.le_refl _, Nat.le_refl _, fun p e R s m args below meth c H locs ls cells slots C St => ?_⟩
  obtain ⟨a1, a2, a3, a4, a5, a6, a7, a8⟩ := St
  refine W.widen (k := R.cells) (n := R.slots) (by omega) (by omega) ?_
  exact W.zret C.1 C.2.1 (C.2.2.2.2.2.1.trans hr) hn (fun t ht hW => ⟨⟨some (.int v), M, N, rfl, hq, by rw [ht]; exact a3, a4⟩, a5.F ht⟩) a5.2.2 (am_in_dec hin) C.2.2.2.2.2.2.1
theorem sw_lret {v : Int64} (hin : am_in i pc = some (.lreturn, 1)) (hr : am_rt i = some .long) (hq : Q (some (.long v)) M N) : am_SW l D G B sp fz Lx xs Q sh i pc L [.long v] sh M N := by
  refine ⟨Nat.le_refl _, Nat.le_refl _, fun p e R s m args below meth c H locs ls cells slots C St => ?_⟩
  obtain ⟨a1, a2, a3, a4, a5, a6, a7, a8⟩ := St
  refine W.widen (k := R.cells) (n := R.slots) (by omega) (by omega) ?_
  exact W.lret C.1 C.2.1 (C.2.2.2.2.2.1.trans hr) (fun t ht hW => ⟨⟨some (.long v), M, N, rfl, hq, by rw [ht]; exact a3, a4⟩, a5.F ht⟩) a5.2.2 (am_in_dec hin) C.2.2.2.2.2.2.1
end AMS
end
section
/-! ===== rules that read and write cells, and make them ===== -/
theorem am_vw : ∀ ci : Nat, ci < 12 → vwCl[ci]? = some (am_cn ci, am_Tf ci, am_nf ci)
  | 0, _ => rfl
  | 1, _ => rfl
  | 2, _ => rfl
  | 3, _ => rfl
  | 4, _ => rfl
  | 5, _ => rfl
  | 6, _ => rfl
  | 7, _ => rfl
  | 8, _ => rfl
  | 9, _ => rfl
  | 10, _ => rfl
  | 11, _ => rfl
  | n + 12, h => absurd h (by omega)
theorem am_lay_good {C : String} {T : u_T} {N : Nat} : ∀ w ∈ u_ws C T N, goodWord w = true := by
  intro w hw
  obtain ⟨k, -, rfl⟩ := List.mem_map.mp hw
  unfold u_lay
  split <;> rfl
theorem am_ly_of {C : String} {T : u_T} {N : Nat} {gs : List Nat} (h : u_ws C T N = am_pick gs lw_tbl) : ∀ w ∈ u_ws C T N, w ∈ am_tbl := fun w hw => am_tbl_in (am_pick_mem gs lw_tbl w (by rw [← h]; exact hw)) (am_lay_good w hw)
theorem am_ly : ∀ ci : Nat, ci < 12 → ∀ w ∈ u_ws (am_cn ci) (am_Tf ci) (am_nf ci), w ∈ am_tbl
  | 0, _ => am_ly_of am_ly0
  | 1, _ => am_ly_of am_ly1
  | 2, _ => am_ly_of am_ly2
  | 3, _ => am_ly_of am_ly3
  | 4, _ => am_ly_of am_ly4
  | 5, _ => am_ly_of am_ly5
  | 6, _ => am_ly_of am_ly6
  | 7, _ => am_ly_of am_ly7
  | 8, _ => am_ly_of am_ly8
  | 9, _ => am_ly_of am_ly9
  | 10, _ => am_ly_of am_ly10
  | 11, _ => am_ly_of am_ly11
  | n + 12, h => absurd h (by omega)
theorem am_tyok : ∀ ci : Nat, ci < 12 → ∀ k, k < am_nf ci → parseFieldDescriptor (am_Tf ci k).2.2.1 = some (am_tf ci k)
  | 0, _ => tyX0_ok
  | 1, _ => tyX1_ok
  | 2, _ => tyX2_ok
  | 3, _ => tyX3_ok
  | 4, _ => tyX4_ok
  | 5, _ => tyX5_ok
  | 6, _ => tyX6_ok
  | 7, _ => tyX7_ok
  | 8, _ => tyX8_ok
  | 9, _ => tyX9_ok
  | 10, _ => tyX10_ok
  | 11, _ => tyX11_ok
  | n + 12, h => absurd h (by omega)
theorem am_nmok : ∀ ci : Nat, ci < 12 → ∀ a, a < am_nf ci → ∀ b, b < am_nf ci → a ≠ b → (am_Tf ci a).2.1 ≠ (am_Tf ci b).2.1
  | 0, _ => nmX0
  | 1, _ => nmX1
  | 2, _ => nmX2
  | 3, _ => nmX3
  | 4, _ => nmX4
  | 5, _ => nmX5
  | 6, _ => nmX6
  | 7, _ => nmX7
  | 8, _ => nmX8
  | 9, _ => nmX9
  | 10, _ => nmX10
  | 11, _ => nmX11
  | n + 12, h => absurd h (by omega)
theorem am_fl_mem {i idx ci j : Nat} (h : am_fl i idx = some (ci, j)) : (idx, ci, j) ∈ am_fls.getD (am_ow i) [] := am_look h
theorem am_getD_mem {α : Type} {l : List (List α)} {o : Nat} {q : α} (h : q ∈ l.getD o []) : ∃ r ∈ l, q ∈ r := by
  by_cases hl : o < l.length
  · refine ⟨l[o], List.getElem_mem hl, ?_⟩
    simpa [List.getD, hl] using h
  · rw [List.getD, List.getElem?_eq_none (by omega)] at h
    cases h
theorem am_fl_b {i idx ci j : Nat} (h : am_fl i idx = some (ci, j)) : j < am_nf ci ∧ ci < 12 := by
  obtain ⟨r, hr, hq⟩ := am_getD_mem (am_fl_mem h)
  have h1 := List.all_eq_true.mp (List.all_eq_true.mp am_kfb r hr) _ hq
  simpa using h1
theorem am_fl_ok {i idx ci j : Nat} (h : am_fl i idx = some (ci, j)) : Cond.fieldLink (am_cn (am_ow i)) idx (am_Tf ci j).1 (am_Tf ci j).2.1 (am_Tf ci j).2.2.1 ∈ am_tbl := am_tbl_in (am_kfs (am_ow i) _ (am_fl_mem h)) rfl
def am_rd (M : am_M) (N : am_N) (k ci j : Nat) (rs : List (Option Nat)) : Option Value := match am_tf ci j with
  | .int => some (.int (M k j))
  | .long => some (.long (N k j))
  | _ => match rs.getD j none with
    | some t => some (.ref t)
    | none => none
theorem am_fs_get {B : Nat} {sp : Nat → Nat} {M : am_M} {N : am_N} {k ci j : Nat} {rs : List (Option Nat)} (h : j < am_nf ci) : (am_fs B sp M N k ci rs)[j]? = some (am_fv B sp M N k (am_tf ci j) j (rs.getD j none)) := by
  unfold am_fs
  rw [List.getElem?_map, List.getElem?_range h]
  rfl
theorem am_rd_fv {B : Nat} {sp : Nat → Nat} {fz : Value} {M : am_M} {N : am_N} {k ci j : Nat} {rs : List (Option Nat)} {v : Value} (h : am_rd M N k ci j rs = some v) : am_fv B sp M N k (am_tf ci j) j (rs.getD j none) = am_cv B sp fz v := by
  unfold am_rd at h
  unfold am_fv
  generalize am_tf ci j = ty at h ⊢
  cases ty
  case int => cases h; rfl
  case long => cases h; rfl
  all_goals
    dsimp only at h ⊢
    split at h
    · rename_i t ht
      cases h
      rw [ht]
      rfl
    · cases h
section AMH
variable {l : Launch} {D : va_G} {G : am_G} {B : Nat} {sp : Nat → Nat} {fz : Value} {Lx : Nat} {xs : Nat → Int32} {Q : am_Q} {shE : List am_E} {i pc : Nat} {L S : am_V} {sh : List am_E} {M : am_M} {N : am_N}
theorem sw_getf {k ci j idx : Nat} {rs : List (Option Nat)} {v : Value} (hin : am_in i pc = some (.getfield idx, 3)) (hf : am_fl i idx = some (ci, j)) (hk : sh[k]? = some (.inr (ci, rs))) (hv : am_rd M N k ci j rs = some v) (kk : am_SW l D G B sp fz Lx xs Q shE i (pc + 3) L (v :: S) sh M N) : am_SW l D G B sp fz Lx xs Q shE i pc L (.ref k :: S) sh M N := by
  refine ⟨kk.1, kk.2.1, fun p e R s m args below meth c H locs ls cells slots C St => ?_⟩
  have St' := St
  obtain ⟨a1, a2, a3, a4, a5, a6, a7, a8⟩ := St
  obtain ⟨hx, hb, hml, hown, hts, hr, hlk, hnm, hK, hX, hB, hfr, hlo⟩ := id C
  obtain ⟨hj, hci⟩ := am_fl_b hf
  exact va_get (D := D) (ci := ci) (v := am_cv B sp fz v) (C := am_cn ci) (T := am_Tf ci) (N := am_nf ci) (ref := (am_Tf ci j).1) hx hb hts (am_ly ci hci) hown hK a3 k (am_ws_get hk) (am_vw ci hci) j hj (hts _ (am_fl_ok hf)) (fun _ h => h) (by rw [am_fs_get hj, am_rd_fv (fz := fz) hv]) (am_in_dec hin) (kk.2.2 p e R s m args below meth c H locs ls cells slots C St')
theorem sw_puti {k ci j idx : Nat} {rs : List (Option Nat)} {x : Int32} (hin : am_in i pc = some (.putfield idx, 3)) (hf : am_fl i idx = some (ci, j)) (hk : sh[k]? = some (.inr (ci, rs))) (ht : am_tf ci j = .int) (hfin : (am_Tf ci j).2.2.2 = false) (kk : am_SW l D G B sp fz Lx xs Q shE i (pc + 3) L S sh (am_up M k j x) N) : am_SW l D G B sp fz Lx xs Q shE i pc L (.int x :: .ref k :: S) sh M N := by
  refine ⟨kk.1, kk.2.1, fun p e R s m args below meth c H locs ls cells slots C St => ?_⟩
  obtain ⟨a1, a2, a3, a4, a5, a6, a7, a8⟩ := St
  obtain ⟨hx, hb, hml, hown, hts, hr, hlk, hnm, hK, hX, hB, hfr, hlo⟩ := id C
  obtain ⟨hj, hci⟩ := am_fl_b hf
  have hfs : (am_fs B sp M N k ci rs).set j (.int x) = am_fs B sp (am_up M k j x) N k ci rs := by
    apply List.ext_getElem?
    intro q
    by_cases hq : q = j
    · subst hq
      rw [List.getElem?_set_self (by simp [am_fs, hj]), am_fs_get hj, ht]
      simp [am_fv, am_up]
    · rw [List.getElem?_set_ne (fun z => hq z.symm)]
      by_cases hl : q < am_nf ci
      · rw [am_fs_get hl, am_fs_get hl]
        simp only [am_fv, am_up, if_true, if_neg hq]
      · rw [List.getElem?_eq_none (by simp [am_fs]; omega), List.getElem?_eq_none (by simp [am_fs]; omega)]
  have he : (am_ws G B sp sh M N).set k (am_ad B sp k, .inr (ci, (am_fs B sp M N k ci rs).set j (.int x))) = am_ws G B sp sh (am_up M k j x) N := by
    rw [hfs]
    exact am_ws_set hk (fun a ha => by funext b; simp [am_up, ha]) (fun _ _ => rfl)
  refine va_put (D := D) (ci := ci) (v := .int x) (ty := .int) (C := am_cn ci) (T := am_Tf ci) (N := am_nf ci) (ref := (am_Tf ci j).1) hx hb hts (am_ly ci hci) (am_tf ci) (am_tyok ci hci) (am_nmok ci hci) hown hK a3 a4 a5 k (am_ws_get hk) (am_vw ci hci) j hj (hts _ (am_fl_ok hf)) (fun _ h => h) hfin (by rw [am_tyok ci hci j hj, ht]) rfl rfl (by simp [am_fs, hj]) (am_in_dec hin) (fun H1 locs1 hP hD hS => ?_)
  rw [he] at hP hD
  exact kk.2.2 p e R s m args below meth c H1 locs1 ls cells slots C ⟨a1, a2, hP, hD, hS, a6, a7, a8⟩
theorem sw_putl {k ci j idx : Nat} {rs : List (Option Nat)} {x : Int64} (hin : am_in i pc = some (.putfield idx, 3)) (hf : am_fl i idx = some (ci, j)) (hk : sh[k]? = some (.inr (ci, rs))) (ht : am_tf ci j = .long) (hfin : (am_Tf ci j).2.2.2 = false) (kk : am_SW l D G B sp fz Lx xs Q shE i (pc + 3) L S sh M (am_upL N k j x)) : am_SW l D G B sp fz Lx xs Q shE i pc L (.long x :: .ref k :: S) sh M N := by
  refine ⟨kk.1, kk.2.1, fun p e R s m args below meth c H locs ls cells slots C St => ?_⟩
  obtain ⟨a1, a2, a3, a4, a5, a6, a7, a8⟩ := St
  obtain ⟨hx, hb, hml, hown, hts, hr, hlk, hnm, hK, hX, hB, hfr, hlo⟩ := id C
  obtain ⟨hj, hci⟩ := am_fl_b hf
  have hfs : (am_fs B sp M N k ci rs).set j (.long x) = am_fs B sp M (am_upL N k j x) k ci rs := by
    apply List.ext_getElem?
    intro q
    by_cases hq : q = j
    · subst hq
      rw [List.getElem?_set_self (by simp [am_fs, hj]), am_fs_get hj, ht]
      simp [am_fv, am_upL]
    · rw [List.getElem?_set_ne (fun z => hq z.symm)]
      by_cases hl : q < am_nf ci
      · rw [am_fs_get hl, am_fs_get hl]
        simp only [am_fv, am_upL, if_true, if_neg hq]
      · rw [List.getElem?_eq_none (by simp [am_fs]; omega), List.getElem?_eq_none (by simp [am_fs]; omega)]
  have he : (am_ws G B sp sh M N).set k (am_ad B sp k, .inr (ci, (am_fs B sp M N k ci rs).set j (.long x))) = am_ws G B sp sh M (am_upL N k j x) := by
    rw [hfs]
    exact am_ws_set hk (fun _ _ => rfl) (fun a ha => by funext b; simp [am_upL, ha])
  refine va_put (D := D) (ci := ci) (v := .long x) (ty := .long) (C := am_cn ci) (T := am_Tf ci) (N := am_nf ci) (ref := (am_Tf ci j).1) hx hb hts (am_ly ci hci) (am_tf ci) (am_tyok ci hci) (am_nmok ci hci) hown hK a3 a4 a5 k (am_ws_get hk) (am_vw ci hci) j hj (hts _ (am_fl_ok hf)) (fun _ h => h) hfin (by rw [am_tyok ci hci j hj, ht]) rfl rfl (by simp [am_fs, hj]) (am_in_dec hin) (fun H1 locs1 hP hD hS => ?_)
  rw [he] at hP hD
  exact kk.2.2 p e R s m args below meth c H1 locs1 ls cells slots C ⟨a1, a2, hP, hD, hS, a6, a7, a8⟩
/-- a reference into a final field, in the constructor of its own class -/
theorem sw_putr {k ci j idx t : Nat} {rs : List (Option Nat)} (hin : am_in i pc = some (.putfield idx, 3)) (hf : am_fl i idx = some (ci, j)) (hk : sh[k]? = some (.inr (ci, rs))) (ht : refKind (am_tf ci j) = true) (hfin : (am_Tf ci j).2.2.2 = true) (hini : (am_y i).name = "<init>") (hdecl : (am_Tf ci j).1 = am_cn (am_ow i)) (hj2 : j < rs.length) (kk : am_SW l D G B sp fz Lx xs Q shE i (pc + 3) L S (sh.set k (.inr (ci, rs.set j (some t)))) M N) : am_SW l D G B sp fz Lx xs Q shE i pc L (.ref t :: .ref k :: S) sh M N := by
  have hz : am_sz (sh.set k (.inr (ci, rs.set j (some t)))) = am_sz sh := by
    unfold am_sz
    congr 1
    apply List.ext_getElem?
    intro q
    rw [List.getElem?_map, List.getElem?_map]
    by_cases hq : q = k
    · subst hq
      rw [List.getElem?_set_self (List.getElem?_eq_some_iff.mp hk).1, hk]
      rfl
    · rw [List.getElem?_set_ne (fun z => hq z.symm)]
  have hzl : (sh.set k (.inr (ci, rs.set j (some t)))).length = sh.length := List.length_set
  refine ⟨by rw [← hzl]; exact kk.1, by rw [← hz]; exact kk.2.1, fun p e R s m args below meth c H locs ls cells slots C St => ?_⟩
  obtain ⟨a1, a2, a3, a4, a5, a6, a7, a8⟩ := St
  obtain ⟨hx, hb, hml, hown, hts, hr, hlk, hnm, hK, hX, hB, hfr, hlo⟩ := id C
  obtain ⟨hj, hci⟩ := am_fl_b hf
  have hfs : (am_fs B sp M N k ci rs).set j (.ref (am_ad B sp t)) = am_fs B sp M N k ci (rs.set j (some t)) := by
    apply List.ext_getElem?
    intro q
    by_cases hq : q = j
    · subst hq
      have hg : (rs.set q (some t)).getD q none = some t := by simp [List.getD, hj2]
      rw [List.getElem?_set_self (by simp [am_fs, hj]), am_fs_get hj, hg]
      cases hty : am_tf ci q <;> rw [hty] at ht <;> first | rfl | cases ht
    · rw [List.getElem?_set_ne (fun z => hq z.symm)]
      by_cases hl : q < am_nf ci
      · have hg : (rs.set j (some t)).getD q none = rs.getD q none := by
          simp only [List.getD]
          rw [List.getElem?_set_ne (fun z => hq z.symm)]
        rw [am_fs_get hl, am_fs_get hl, hg]
      · rw [List.getElem?_eq_none (by simp [am_fs]; omega), List.getElem?_eq_none (by simp [am_fs]; omega)]
  have he : (am_ws G B sp sh M N).set k (am_ad B sp k, .inr (ci, (am_fs B sp M N k ci rs).set j (.ref (am_ad B sp t)))) = am_ws G B sp (sh.set k (.inr (ci, rs.set j (some t)))) M N := by
    rw [hfs]
    exact am_ws_put hk (fun _ _ => rfl) (fun _ _ => rfl) (.inr (ci, rs.set j (some t)))
  refine va_putF (D := D) (ci := ci) (v := .ref (am_ad B sp t)) (ty := am_tf ci j) (C := am_cn ci) (T := am_Tf ci) (N := am_nf ci) (ref := (am_Tf ci j).1) hx hb hts (am_ly ci hci) (am_tf ci) (am_tyok ci hci) (am_nmok ci hci) hown hK a3 a4 a5 k (am_ws_get hk) (am_vw ci hci) j hj (hts _ (am_fl_ok hf)) (fun _ h => h) hfin (hnm hini) hdecl (am_tyok ci hci j hj) (by cases hty : am_tf ci j <;> rw [hty] at ht <;> first | rfl | cases ht) (by cases hty : am_tf ci j <;> rw [hty] at ht <;> first | rfl | cases ht) (by simp [am_fs, hj]) (am_in_dec hin) (fun H1 locs1 hP hD hS => ?_)
  rw [he] at hP hD
  exact kk.2.2 p e R s m args below meth c H1 locs1 ls cells slots C ⟨by rw [hzl]; exact a1, by rw [hz]; exact a2, hP, hD, hS, by rw [hzl]; exact a6, a7, a8⟩
theorem am_up_row (M : am_M) (k j : Nat) (x : Int32) : am_up M k j x k = upd (M k) j x := by
  funext b
  simp [am_up, upd]
theorem sw_iald {k n : Nat} {x : Int32} (hin : am_in i pc = some (.iaload, 1)) (hk : sh[k]? = some (.inl (0, n))) (hi : vp_in x n) (kk : am_SW l D G B sp fz Lx xs Q shE i (pc + 1) L (.int (M k x.toNatClampNeg) :: S) sh M N) : am_SW l D G B sp fz Lx xs Q shE i pc L (.int x :: .ref k :: S) sh M N := by
  refine ⟨kk.1, kk.2.1, fun p e R s m args below meth c H locs ls cells slots C St => ?_⟩
  exact va_iald C.1 C.2.1 C.2.2.2.2.2.2.2.2.1 St.2.2.1 k 0 (am_ws_get hk) rfl hi (am_in_dec hin) (kk.2.2 p e R s m args below meth c H locs ls cells slots C St)
theorem sw_zald {k n : Nat} {x : Int32} (hin : am_in i pc = some (.baload, 1)) (hk : sh[k]? = some (.inl (1, n))) (hi : vp_in x n) (kk : am_SW l D G B sp fz Lx xs Q shE i (pc + 1) L (.int (M k x.toNatClampNeg) :: S) sh M N) : am_SW l D G B sp fz Lx xs Q shE i pc L (.int x :: .ref k :: S) sh M N := by
  refine ⟨kk.1, kk.2.1, fun p e R s m args below meth c H locs ls cells slots C St => ?_⟩
  exact va_zald C.1 C.2.1 C.2.2.2.2.2.2.2.2.1 St.2.2.1 k 1 (am_ws_get hk) rfl hi (am_in_dec hin) (kk.2.2 p e R s m args below meth c H locs ls cells slots C St)
theorem sw_iast {k n : Nat} {x y : Int32} (hin : am_in i pc = some (.iastore, 1)) (hk : sh[k]? = some (.inl (0, n))) (hi : vp_in x n) (kk : am_SW l D G B sp fz Lx xs Q shE i (pc + 1) L S sh (am_up M k x.toNatClampNeg y) N) : am_SW l D G B sp fz Lx xs Q shE i pc L (.int y :: .int x :: .ref k :: S) sh M N := by
  refine ⟨kk.1, kk.2.1, fun p e R s m args below meth c H locs ls cells slots C St => ?_⟩
  obtain ⟨a1, a2, a3, a4, a5, a6, a7, a8⟩ := St
  refine va_iast C.1 C.2.1 C.2.2.2.2.2.2.2.2.1 a3 a4 a5 k 0 (am_ws_get hk) rfl hi (am_in_dec hin) (fun H1 locs1 hP hD hS => ?_)
  have he : (am_ws G B sp sh M N).set k (am_ad B sp k, .inl (G.1, n, .inl (upd (M k) x.toNatClampNeg y))) = am_ws G B sp sh (am_up M k x.toNatClampNeg y) N := by
    rw [← am_up_row]
    exact am_ws_set hk (fun a ha => by funext b; simp [am_up, ha]) (fun _ _ => rfl)
  rw [he] at hP hD
  exact kk.2.2 p e R s m args below meth c H1 locs1 ls cells slots C ⟨a1, a2, hP, hD, hS, a6, a7, a8⟩
theorem sw_zast {k n : Nat} {x y : Int32} (hin : am_in i pc = some (.bastore, 1)) (hk : sh[k]? = some (.inl (1, n))) (hi : vp_in x n) (kk : am_SW l D G B sp fz Lx xs Q shE i (pc + 1) L S sh (am_up M k x.toNatClampNeg (vp_nar .boolean y)) N) : am_SW l D G B sp fz Lx xs Q shE i pc L (.int y :: .int x :: .ref k :: S) sh M N := by
  refine ⟨kk.1, kk.2.1, fun p e R s m args below meth c H locs ls cells slots C St => ?_⟩
  obtain ⟨a1, a2, a3, a4, a5, a6, a7, a8⟩ := St
  refine va_zast C.1 C.2.1 C.2.2.2.2.2.2.2.2.1 a3 a4 a5 k 1 (am_ws_get hk) rfl hi (am_in_dec hin) (fun H1 locs1 hP hD hS => ?_)
  have he : (am_ws G B sp sh M N).set k (am_ad B sp k, .inl (G.2.1, n, .inl (upd (M k) x.toNatClampNeg (vp_nar .boolean y)))) = am_ws G B sp sh (am_up M k x.toNatClampNeg (vp_nar .boolean y)) N := by
    rw [← am_up_row]
    exact am_ws_set hk (fun a ha => by funext b; simp [am_up, ha]) (fun _ _ => rfl)
  rw [he] at hP hD
  exact kk.2.2 p e R s m args below meth c H1 locs1 ls cells slots C ⟨a1, a2, hP, hD, hS, a6, a7, a8⟩
theorem sw_aald {k n : Nat} {x : Int32} (hin : am_in i pc = some (.aaload, 1)) (hk : sh[k]? = some (.inl (2, n))) (hi : vp_in x n) (kk : am_SW l D G B sp fz Lx xs Q shE i (pc + 1) L (.ref (k + 1 + x.toNatClampNeg) :: S) sh M N) : am_SW l D G B sp fz Lx xs Q shE i pc L (.int x :: .ref k :: S) sh M N := by
  refine ⟨kk.1, kk.2.1, fun p e R s m args below meth c H locs ls cells slots C St => ?_⟩
  have hlt : x.toNatClampNeg < n := Nat.not_le.mp fun q => hi (Or.inr q)
  have hc := St.2.2.1 k _ (am_ws_get hk)
  exact W.aald (v := .ref (am_ad B sp (k + 1 + x.toNatClampNeg))) (ty := .array .int) C.1 C.2.1 hc ((C.2.2.2.2.2.2.2.2.1.2 2 _ rfl).1 n (fun j => va_rf (some (am_ad B sp (k + 1 + j))))) rfl (fun q => by cases q) (by show ¬ (x < 0 ∨ (arrV _ _ _).slots.size ≤ _); rw [arrV_size]; exact hi) (by show (arrV _ _ _).slots[_]? = _; rw [arrV_read _ _ hlt]; rfl) rfl rfl (am_in_dec hin) (kk.2.2 p e R s m args below meth c H locs ls cells slots C St)
theorem sw_alen {k t n : Nat} (hin : am_in i pc = some (.arraylength, 1)) (hk : sh[k]? = some (.inl (t, n))) (kk : am_SW l D G B sp fz Lx xs Q shE i (pc + 1) L (.int (Int32.ofNat n) :: S) sh M N) : am_SW l D G B sp fz Lx xs Q shE i pc L (.ref k :: S) sh M N := by
  refine ⟨kk.1, kk.2.1, fun p e R s m args below meth c H locs ls cells slots C St => ?_⟩
  match t, hk with
  | 0, hk => exact va_alen C.1 C.2.1 C.2.2.2.2.2.2.2.2.1 St.2.2.1 k 0 (am_ws_get hk) rfl rfl (am_in_dec hin) (kk.2.2 p e R s m args below meth c H locs ls cells slots C St)
  | 1, hk => exact va_alen C.1 C.2.1 C.2.2.2.2.2.2.2.2.1 St.2.2.1 k 1 (am_ws_get hk) rfl rfl (am_in_dec hin) (kk.2.2 p e R s m args below meth c H locs ls cells slots C St)
  | t + 2, hk => exact va_alen C.1 C.2.1 C.2.2.2.2.2.2.2.2.1 St.2.2.1 k 2 (am_ws_get hk) rfl rfl (am_in_dec hin) (kk.2.2 p e R s m args below meth c H locs ls cells slots C St)
/-- numbers of the pool -/
theorem sw_ldc {idx : Nat} {v : Int32} (hin : am_in i pc = some (.ldc idx, 2)) (hk : am_ki i idx = some v) (kk : am_SW l D G B sp fz Lx xs Q shE i (pc + 2) L (.int v :: S) sh M N) : am_SW l D G B sp fz Lx xs Q shE i pc L S sh M N :=
  ⟨kk.1, kk.2.1, fun p e R s m args below meth c H locs ls cells slots C St => lv_ldc C.1 C.2.1 C.2.2.2.1 (C.2.2.2.2.1 _ (am_tbl_in (am_kcis (am_ow i) (idx, v) (am_look hk)) rfl)) (am_in_dec hin) (kk.2.2 p e R s m args below meth c H locs ls cells slots C St)⟩
theorem sw_ldcw {idx : Nat} {v : Int32} (hin : am_in i pc = some (.ldc_w idx, 3)) (hk : am_ki i idx = some v) (kk : am_SW l D G B sp fz Lx xs Q shE i (pc + 3) L (.int v :: S) sh M N) : am_SW l D G B sp fz Lx xs Q shE i pc L S sh M N :=
  ⟨kk.1, kk.2.1, fun p e R s m args below meth c H locs ls cells slots C St => lv_ldcw C.1 C.2.1 C.2.2.2.1 (C.2.2.2.2.1 _ (am_tbl_in (am_kcis (am_ow i) (idx, v) (am_look hk)) rfl)) (am_in_dec hin) (kk.2.2 p e R s m args below meth c H locs ls cells slots C St)⟩
theorem sw_ldc2 {idx : Nat} {v : Int64} (hin : am_in i pc = some (.ldc2_w idx, 3)) (hk : am_kl i idx = some v) (kk : am_SW l D G B sp fz Lx xs Q shE i (pc + 3) L (.long v :: S) sh M N) : am_SW l D G B sp fz Lx xs Q shE i pc L S sh M N :=
  ⟨kk.1, kk.2.1, fun p e R s m args below meth c H locs ls cells slots C St => lv_ldc2 C.1 C.2.1 C.2.2.2.1 (C.2.2.2.2.1 _ (am_tbl_in (am_kcls (am_ow i) (idx, v) (am_look hk)) rfl)) (am_in_dec hin) (kk.2.2 p e R s m args below meth c H locs ls cells slots C St)⟩
end AMH
end
section
/-! ===== calls ===== -/
def am_wl (j : Nat) : List Cond := Cond.code (am_y j) (am_c j) (am_mx j) (am_rt j) :: am_tbl
set_option maxRecDepth 100000 in
theorem am_ms_len : am_ms.length = 211 := by rfl
theorem am_m_get {j : Nat} (hj : j < 211) : am_ms[j]? = some (am_m j) := by
  have h : j < am_ms.length := by rw [am_ms_len]; exact hj
  unfold am_m
  simp [List.getD, h]
theorem am_code_in {j : Nat} (hj : j < 210) : Cond.code (am_y j) (am_c j) (am_mx j) (am_rt j) ∈ am_tbl := by
  refine am_tbl_in (am_pick_of am_kc (am_m j) (List.mem_of_getElem? (i := j) ?_)) rfl
  rw [List.getElem?_take_of_lt hj]
  exact am_m_get (by omega)
theorem am_own_at {j : Nat} (hj : j < 211) : (am_y j).cls = am_cn (am_ow j) := by
  have h := congrArg (fun l : List String => l[j]?) am_own
  simp only [List.getElem?_map, am_m_get hj, Option.map_some, Option.some.injEq] at h
  exact h
theorem am_par_at {j : Nat} (hj : j < 211) : (parseMethodDescriptor (am_y j).desc).map (fun d => d.parameters.length) = some (am_na j) := by
  have h := congrArg (fun l : List (Option Nat) => l[j]?) am_par
  simp only [List.getElem?_map, am_m_get hj, Option.map_some] at h
  unfold am_na
  cases hq : am_nas[j]? with
  | none => rw [hq] at h; cases h
  | some n =>
    rw [hq] at h
    simp only [Option.map_some, Option.some.injEq] at h
    rw [List.getD, hq]
    exact h
theorem am_pln_at {j : Nat} (hj : j < 211) : plainFor (am_y j) = true := List.all_eq_true.mp am_pln (am_m j) (List.mem_of_getElem? (am_m_get hj))
theorem am_ow_lt {j : Nat} (hj : j < 211) : am_ow j < 19 := by
  have h : (am_ms.all fun q => decide (q.2.2.2.2.1 < 19)) = true := by decide +kernel
  simpa [am_ow] using List.all_eq_true.mp h (am_m j) (List.mem_of_getElem? (am_m_get hj))
theorem am_mh_at {j : Nat} (hj : j < 211) : (am_y j).cls ≠ "java/lang/invoke/MethodHandle" ∧ (am_y j).cls ≠ "java/lang/invoke/VarHandle" := by
  rw [am_own_at hj]
  have h := List.all_eq_true.mp am_cnp (am_ow j) (List.mem_range.mpr (am_ow_lt hj))
  simp only [Bool.and_eq_true, decide_eq_true_eq] at h
  exact h
theorem am_good {j : Nat} (hj : j < 210) : GoodIn am_tbl (am_wl j) := by
  intro w hw
  rcases List.mem_cons.mp hw with rfl | hw
  · exact ⟨am_code_in hj, good_of_word rfl⟩
  · exact ⟨hw, good_of_word (List.mem_filter.mp hw).2⟩
theorem am_cl_lt {i idx j : Nat} {b : Bool} (h : am_cl i idx = some (j, b)) : j < 210 := by
  obtain ⟨r, hr, hq⟩ := am_getD_mem (am_look h)
  simpa using List.all_eq_true.mp (List.all_eq_true.mp am_kbb r hr) _ hq
theorem am_cl_ok {i idx j : Nat} (h : am_cl i idx = some (j, false)) : Cond.methodLink (am_cn (am_ow i)) idx (am_y j) ∈ am_tbl := am_tbl_in (am_kms (am_ow i) (idx, j, false) (List.mem_filter.mpr ⟨am_look h, rfl⟩)) rfl
theorem am_cl_nest {i idx j : Nat} (hi : am_ow i < 19) (h : am_cl i idx = some (j, true)) : (am_ow i, idx, j) ∈ am_nlk := by
  have h1 := List.all_eq_true.mp (List.all_eq_true.mp am_knb (am_ow i) (List.mem_range.mpr hi)) _ (am_look h)
  simpa using h1
theorem am_sta_ok {j : Nat} (h : am_sta.contains j = true) : Cond.static (am_y j) ∈ am_tbl := am_tbl_in (am_pick_of am_sta_k j (by simpa using h)) rfl
theorem am_ins_ok {j : Nat} (h : am_ins.contains j = true) : Cond.instanceMethod (am_y j) ∈ am_tbl := am_tbl_in (am_pick_of am_ins_k j (by simpa using h)) rfl
theorem am_sel_ok {j : Nat} (h : am_sel.contains j = true) : Cond.selects (am_y j).cls (am_y j) (am_y j) ∈ am_tbl := am_tbl_in (am_pick_of am_sel_k j (by simpa using h)) rfl
theorem am_ini_ok {o : Nat} (h : am_ini.contains o = true) : Cond.initialized (am_cn o) ∈ am_tbl := am_tbl_in (am_pick_of am_ini_k o (by simpa using h)) rfl
def am_Pre (D : va_G) (G : am_G) (B : Nat) (sp : Nat → Nat) (fz : Value) (Lx : Nat) (xs : Nat → Int32) (sh : List am_E) (M : am_M) (N : am_N) (U : State) : Prop :=
  va_P D vwCl (am_ws G B sp sh M N) U.heap ∧ va_D (am_A B) (am_ws G B sp sh M N) ∧ U.heap.size ≤ B + sh.length ∧ va_K D vwCl (am_tys G) U ∧ am_Xt B sp fz Lx xs U U.heap ∧ B ≤ U.heap.size
section AMC
variable {l : Launch} {D : va_G} {G : am_G} {B : Nat} {sp : Nat → Nat} {fz : Value} {Lx : Nat} {xs : Nat → Int32} {Q : am_Q} {shE : List am_E} {i pc : Nat} {L S : am_V} {sh : List am_E} {M : am_M} {N : am_N}
theorem am_Pre.blind {Av : List Value} : FrameBlind (va_Pc Av (am_Pre D G B sp fz Lx xs sh M N)) := by
  intro a U g mk hp
  obtain ⟨h0, h1, h2, h3, h4, h5, h6⟩ := hp
  exact ⟨h0, h1, h2, h3, va_K.moved (u := U) (U := U.calling g mk a) (Vm.Alike.refl U.vm) h4, am_Xt.blind (s := U) (U := U.calling g mk a) h5 rfl rfl, h6⟩
theorem am_met {j : Nat} {As : am_V} {Q1 : am_Q} {sh1 : List am_E} (hj : j < 210) (hen : (am_ent As).length ≤ am_mx j) (k : am_SW l D G B sp fz Lx xs Q1 sh1 j 0 (am_en j As) [] sh M N) :
    Met l (am_y j) (am_wl j) { frames := am_fr j, cells := sh1.length - sh.length, slots := am_sz sh1 - am_sz sh, locals := am_lo j } (va_Pc (As.map (am_cv B sp fz)) (am_Pre D G B sp fz Lx xs sh M N)) (am_Qc D G B sp fz Q1 sh1) (sh1.length - sh.length) (am_sz sh1 - am_sz sh) (am_A B) := by
  refine va_MetF (cc := am_c j) (maxL := am_mx j) (ret := am_rt j) (am_pln_at (by omega)) rfl ?_
  intro p e s m args below meth c s₁ Bd hml hv
  obtain ⟨rfl, hP, hD, hsz, hK, hX, hB⟩ := hv
  have hts := atoms_spec (ws := am_wl j) Bd.pre
  have hown : s.vm.findClass (am_cn (am_ow j)) = some m.cls := by
    rw [← am_own_at (j := j) (by omega)]
    exact findClass_of_methodNamed Bd.named
  rw [lg_entry_eq]
  obtain ⟨k1, k2, k3⟩ := k
  refine k3 p e _ s m _ below meth c s.heap [] _ 0 0 ⟨Bd.exec, Bd.bytes, hml, hown, fun w hw => hts w (List.mem_cons_of_mem _ hw), Bd.returns, Bd.notSynchronized, fun h9 => (name_of_methodNamed Bd.named Bd.method).1.trans h9, hK, hX, hB, Nat.le_refl _, Nat.le_refl _⟩ ⟨?_, ?_, hP, hD, va_S.rf, by omega, am_lv.entry (am_cv_cat hX.1) hen, am_en_len hen⟩
  · show 0 + sh1.length ≤ sh1.length - sh.length + sh.length
    omega
  · show 0 + am_sz sh1 ≤ am_sz sh1 - am_sz sh + am_sz sh
    omega
section AMW
variable {p : Program} {e : Env} {R : Room} {s : State} {m : MethodId} {args : Array Value} {below : List Frame} {meth : Method} {c : Code} {H : Heap} {locs : List Loc} {cells slots mc ms : Nat} {Qm : State → Prop} {ls : Array Slot} {st0 rest : List Value} {g : JFrame}
theorem am_size (k : H.size ≤ s.heap.size + cells → W p l e R s m args below meth c H locs cells slots Qm g) : W p l e R s m args below meth c H locs cells slots Qm g := fun T hT X => k (by rw [← hT]; exact X.same.2.2.1) T hT X
theorem am_callW {Qa : State → Outcome → State → Prop} {free : Addr → Prop} (hr : va_Run p l e R s m args below meth c H locs cells slots mc ms (F0 m pc ls st0) rest Qa free)
    (kk : ∀ (v : Option Value) (st₀ t : State) (L2 : List Loc), st₀.heap = H → Qa st₀ (.returned v) t → s.vm.Alike t.vm → (∀ q ∈ L2, free q.base) → W p l e R s m args below meth c t.heap (locs ++ L2) (cells + mc) (slots + ms) Qm (F0 m (pc + 3) ls (v.toList ++ rest))) : W p l e R s m args below meth c H locs cells slots Qm (F0 m pc ls st0) := by
  intro T hT X
  obtain ⟨v, st₀, t, T', L2, h0, X', hL, e1, e2, hq, st⟩ := hr T hT X
  obtain ⟨t2, a1, b1⟩ := kk v st₀ t L2 h0 hq (by rw [← e2]; exact X'.warmed.alike) hL T' e1 X'
  exact ⟨t2, st t2 a1, b1⟩
end AMW
theorem am_after {Q1 : am_Q} {sh1 : List am_E} {S0 : am_V} {Av : Array Value} (hle : sh.length ≤ sh1.length) (hlz : am_sz sh ≤ am_sz sh1) (k2 : ∀ (r : Option Value) (M1 : am_M) (N1 : am_N), Q1 r M1 N1 → am_SW l D G B sp fz Lx xs Q shE i (pc + 3) L (r.toList ++ S0) sh1 M1 N1)
    {p : Program} {e : Env} {R : Room} {s : State} {m : MethodId} {args : Array Value} {below : List Frame} {meth : Method} {c : Code} {H : Heap} {locs : List Loc} {ls : Array Slot} {cells slots : Nat} {st0 : List Value} (C : am_Cx D G B sp fz Lx xs i p R s m args meth c) (St : am_St D G B sp fz shE i R s H locs ls cells slots L sh M N)
    (hr : va_Run p l e R s m args below meth c H locs cells slots (sh1.length - sh.length) (am_sz sh1 - am_sz sh) (F0 m pc ls st0) (S0.map (am_cv B sp fz)) (am_Qc D G B sp fz Q1 sh1 Av) (am_A B)) :
    W p l e R s m args below meth c H locs cells slots (MQ below (am_Qc D G B sp fz Q shE) args s R.cells R.slots (am_A B)) (F0 m pc ls st0) := by
  obtain ⟨a1, a2, a3, a4, a5, a6, a7, a8⟩ := St
  refine am_callW hr (fun v st₀ t L2 h0 hq hvm hL => ?_)
  obtain ⟨⟨r, M1, N1, hrv, hq1, hP1, hD1⟩, hF⟩ := hq
  cases hrv
  have e9 : (r.map (am_cv B sp fz)).toList ++ S0.map (am_cv B sp fz) = (r.toList ++ S0).map (am_cv B sp fz) := by cases r <;> rfl
  rw [e9]
  have hS1 : va_S (am_A B) s.heap t.heap (locs ++ L2) := by
    refine ⟨Nat.le_trans a5.1 (by rw [← h0]; exact hF.1), fun q h1 h2 => ?_, fun q hq => ?_⟩
    · rw [hF.2 q (by rw [h0]; exact Nat.lt_of_lt_of_le h1 a5.1) h2, h0]
      exact a5.2.1 q h1 h2
    · rcases List.mem_append.mp hq with h | h
      · exact a5.2.2 q h
      · exact hL q h
  exact (k2 r M1 N1 hq1).2.2 p e R s m args below meth c t.heap (locs ++ L2) ls (cells + (sh1.length - sh.length)) (slots + (am_sz sh1 - am_sz sh)) C ⟨by omega, by omega, hP1, hD1, hS1, by omega, a7, a8⟩
theorem am_cat_map (hf : fz.category = 1) (S0 : am_V) : ((S0.map (am_cv B sp fz)).map fun v => v.category).sum = (S0.map fun v => v.category).sum := by
  rw [List.map_map]
  congr 1
  apply List.map_congr_left
  intro v _
  exact am_cv_cat hf v
theorem am_pre_of {p : Program} {R : Room} {s : State} {m : MethodId} {args : Array Value} {meth : Method} {c : Code} {H : Heap} {locs : List Loc} {ls : Array Slot} {cells slots : Nat} {Av : List Value} (C : am_Cx D G B sp fz Lx xs i p R s m args meth c) (St : am_St D G B sp fz shE i R s H locs ls cells slots L sh M N) (hsz : H.size ≤ s.heap.size + cells) : ∀ U : State, U.heap = H → s.WarmedH U.vm → va_Pc Av (am_Pre D G B sp fz Lx xs sh M N) Av.toArray U := by
  intro U hU hW
  obtain ⟨a1, a2, a3, a4, a5, a6, a7, a8⟩ := St
  obtain ⟨hx, hb, hml, hown, hts, hr, hlk, hnm, hK, hX, hB, hfr, hlo⟩ := C
  exact ⟨rfl, by rw [hU]; exact a3, a4, by rw [hU]; omega, va_K.moved hW.alike hK, am_Xt.pass hX hB a5 hU hW, by rw [hU]; exact Nat.le_trans hB a5.1⟩
/-- what the words and the room must be for a call of method j, with arguments As above S0 -/
def am_cok (i j : Nat) (As S0 : am_V) : Prop := As.length = am_na j + (if am_sta.contains j then 0 else 1) ∧ (am_ent As).length ≤ am_mx j ∧ am_fr j + 1 ≤ am_fr i ∧ 8 + (am_mx j + 11) + am_lo j ≤ am_lo i ∧ (S0.map fun v => v.category).sum ≤ 8 ∧ am_ini.contains (am_ow j) = true
theorem sw_callS {j idx : Nat} {As S0 : am_V} {Q1 : am_Q} {sh1 : List am_E} (hin : am_in i pc = some (.invokestatic idx, 3)) (hc : am_cl i idx = some (j, false)) (hst : am_sta.contains j = true) (hS : S = As.reverse ++ S0) (hok : am_cok i j As S0) (hE : sh1.length ≤ shE.length ∧ am_sz sh1 ≤ am_sz shE) (k1 : am_SW l D G B sp fz Lx xs Q1 sh1 j 0 (am_en j As) [] sh M N) (k2 : ∀ (r : Option Value) (M1 : am_M) (N1 : am_N), Q1 r M1 N1 → am_SW l D G B sp fz Lx xs Q shE i (pc + 3) L (r.toList ++ S0) sh1 M1 N1) : am_SW l D G B sp fz Lx xs Q shE i pc L S sh M N := by
  refine ⟨Nat.le_trans k1.1 hE.1, Nat.le_trans k1.2.1 hE.2, fun p e R s m args below meth c H locs ls cells slots C St => am_size fun hsz => ?_⟩
  have hj : j < 210 := am_cl_lt hc
  obtain ⟨o1, o2, o3, o4, o5, o6⟩ := hok
  rw [if_pos hst] at o1
  have hpre := am_pre_of (Av := As.map (am_cv B sp fz)) C St hsz
  have hC := id C
  obtain ⟨hx, hb, hml, hown, hts, hr, hlk, hnm, hK, hX, hB, hfr, hlo⟩ := C
  have a7 := St.2.2.2.2.2.2.1
  have a8 := St.2.2.2.2.2.2.2
  have a1 := St.1
  have a2 := St.2.1
  have hls : c.maxLocals = ls.size := by rw [hml, a7.2.1, a8]
  have hini : (Cond.initialized (am_y j).cls).before args s = true := by rw [am_own_at (j := j) (by omega)]; exact hts _ (am_ini_ok o6)
  refine am_after k1.1 k1.2.1 k2 hC St (va_runS (y := am_y j) (n := am_na j) (As := As.map (am_cv B sp fz)) ⟨hx, hb, hls, hown, hts⟩ (am_met hj o2 k1) ⟨callB_of (am_na j) hts (am_good hj) rfl rfl rfl hini (hts _ (am_cl_ok hc)) ⟨(am_mh_at (by omega)).1, (am_mh_at (by omega)).2, am_par_at (by omega)⟩ ⟨Nat.le_trans o3 hfr, Nat.le_trans o4 hlo⟩, hts _ (am_sta_ok hst)⟩ ⟨am_Pre.blind, hpre⟩ rfl ?_ rfl ?_ (lv_room ?_) (am_in_dec hin) ⟨?_, ?_⟩)
  · rw [List.length_map]; omega
  · show S.map _ = _
    rw [hS, List.map_append, List.map_reverse]
  · rw [am_cat_map hX.1]; exact o5
  · have := k1.1; omega
  · have := k1.2.1; omega
theorem sw_callSN {j idx : Nat} {As S0 : am_V} {Q1 : am_Q} {sh1 : List am_E} (hi : am_ow i < 19) (hin : am_in i pc = some (.invokestatic idx, 3)) (hc : am_cl i idx = some (j, true)) (hst : am_sta.contains j = true) (hS : S = As.reverse ++ S0) (hok : am_cok i j As S0) (hE : sh1.length ≤ shE.length ∧ am_sz sh1 ≤ am_sz shE) (k1 : am_SW l D G B sp fz Lx xs Q1 sh1 j 0 (am_en j As) [] sh M N) (k2 : ∀ (r : Option Value) (M1 : am_M) (N1 : am_N), Q1 r M1 N1 → am_SW l D G B sp fz Lx xs Q shE i (pc + 3) L (r.toList ++ S0) sh1 M1 N1) : am_SW l D G B sp fz Lx xs Q shE i pc L S sh M N := by
  refine ⟨Nat.le_trans k1.1 hE.1, Nat.le_trans k1.2.1 hE.2, fun p e R s m args below meth c H locs ls cells slots C St => am_size fun hsz => ?_⟩
  have hj : j < 210 := am_cl_lt hc
  obtain ⟨o1, o2, o3, o4, o5, o6⟩ := hok
  rw [if_pos hst] at o1
  have hpre := am_pre_of (Av := As.map (am_cv B sp fz)) C St hsz
  have hC := id C
  obtain ⟨hx, hb, hml, hown, hts, hr, hlk, hnm, hK, hX, hB, hfr, hlo⟩ := C
  have a7 := St.2.2.2.2.2.2.1
  have a8 := St.2.2.2.2.2.2.2
  have a1 := St.1
  have a2 := St.2.1
  have hls : c.maxLocals = ls.size := by rw [hml, a7.2.1, a8]
  have hini : (Cond.initialized (am_y j).cls).before args s = true := by rw [am_own_at (j := j) (by omega)]; exact hts _ (am_ini_ok o6)
  have hnl := hX.2.2.2.2.2.2.2.2 _ (am_cl_nest hi hc)
  refine am_after k1.1 k1.2.1 k2 hC St (va_runSN (y := am_y j) (n := am_na j) (host := "DriftCards") (As := As.map (am_cv B sp fz)) ⟨hx, hb, hls, hown, hts⟩ (am_met hj o2 k1) ⟨va_cnB (am_na j) hts (am_good hj) rfl rfl rfl hnl hini ⟨(am_mh_at (by omega)).1, (am_mh_at (by omega)).2, am_par_at (by omega)⟩ ⟨Nat.le_trans o3 hfr, Nat.le_trans o4 hlo⟩, hts _ (am_sta_ok hst), trivial⟩ ⟨am_Pre.blind, hpre⟩ rfl ?_ rfl ?_ (lv_room ?_) (am_in_dec hin) ⟨?_, ?_⟩)
  · rw [List.length_map]; omega
  · show S.map _ = _
    rw [hS, List.map_append, List.map_reverse]
  · rw [am_cat_map hX.1]; exact o5
  · have := k1.1; omega
  · have := k1.2.1; omega
/-- a call on an object of the world -/
theorem sw_callV {j idx b : Nat} {As S0 : am_V} {rs : List (Option Nat)} {Q1 : am_Q} {sh1 : List am_E} (hin : am_in i pc = some (.invokevirtual idx, 3)) (hc : am_cl i idx = some (j, false)) (hst : am_sta.contains j = false) (hin2 : am_ins.contains j = true) (hsel : am_sel.contains j = true) (hS : S = As.reverse ++ .ref b :: S0) (hb0 : sh[b]? = some (.inr (am_ow j, rs))) (how : am_ow j < 12) (hok : am_cok i j (.ref b :: As) S0) (hE : sh1.length ≤ shE.length ∧ am_sz sh1 ≤ am_sz shE) (k1 : am_SW l D G B sp fz Lx xs Q1 sh1 j 0 (am_en j (.ref b :: As)) [] sh M N) (k2 : ∀ (r : Option Value) (M1 : am_M) (N1 : am_N), Q1 r M1 N1 → am_SW l D G B sp fz Lx xs Q shE i (pc + 3) L (r.toList ++ S0) sh1 M1 N1) : am_SW l D G B sp fz Lx xs Q shE i pc L S sh M N := by
  refine ⟨Nat.le_trans k1.1 hE.1, Nat.le_trans k1.2.1 hE.2, fun p e R s m args below meth c H locs ls cells slots C St => am_size fun hsz => ?_⟩
  have hj : j < 210 := am_cl_lt hc
  obtain ⟨o1, o2, o3, o4, o5, o6⟩ := hok
  rw [hst] at o1
  have hpre := am_pre_of (Av := (.ref b :: As : am_V).map (am_cv B sp fz)) C St hsz
  have hC := id C
  obtain ⟨hx, hb, hml, hown, hts, hr, hlk, hnm, hK, hX, hB, hfr, hlo⟩ := C
  have a3 := St.2.2.1
  have a7 := St.2.2.2.2.2.2.1
  have a8 := St.2.2.2.2.2.2.2
  have a1 := St.1
  have a2 := St.2.1
  have hls : c.maxLocals = ls.size := by rw [hml, a7.2.1, a8]
  have hini : (Cond.initialized (am_y j).cls).before args s = true := by rw [am_own_at (j := j) (by omega)]; exact hts _ (am_ini_ok o6)
  have hrec := va_recv hK a3 (am_vw _ how) (am_ws_get (G := G) (B := B) (sp := sp) (M := M) (N := N) hb0)
  refine am_after k1.1 k1.2.1 k2 hC St (va_runV (y := am_y j) (C := (am_y j).cls) (n := am_na j) (b := am_ad B sp b) (As := As.map (am_cv B sp fz)) ⟨hx, hb, hls, hown, hts⟩ (am_met hj o2 k1) ⟨callB_of (am_na j) hts (am_good hj) rfl rfl rfl hini (hts _ (am_cl_ok hc)) ⟨(am_mh_at (by omega)).1, (am_mh_at (by omega)).2, am_par_at (by omega)⟩ ⟨Nat.le_trans o3 hfr, Nat.le_trans o4 hlo⟩, hts _ (am_ins_ok hin2), hts _ (am_sel_ok hsel)⟩ ⟨am_Pre.blind, by rw [am_own_at (j := j) (by omega)]; exact hrec, hpre⟩ rfl ?_ rfl ?_ (lv_room ?_) (am_in_dec hin) ⟨?_, ?_⟩)
  · rw [List.length_map]
    simp only [List.length_cons, Bool.false_eq_true, if_false] at o1
    omega
  · show S.map _ = _
    rw [hS, List.map_append, List.map_reverse]
    rfl
  · rw [am_cat_map hX.1]; exact o5
  · have := k1.1; omega
  · have := k1.2.1; omega
/-- constructors -/
theorem sw_callI {j idx b : Nat} {As S0 : am_V} {Q1 : am_Q} {sh1 : List am_E} (hin : am_in i pc = some (.invokespecial idx, 3)) (hc : am_cl i idx = some (j, false)) (hst : am_sta.contains j = false) (hin2 : am_ins.contains j = true) (hnm0 : (am_y j).name = "<init>") (hrt : am_rt j = none) (hS : S = As.reverse ++ .ref b :: S0) (hok : am_cok i j (.ref b :: As) S0) (hE : sh1.length ≤ shE.length ∧ am_sz sh1 ≤ am_sz shE) (k1 : am_SW l D G B sp fz Lx xs Q1 sh1 j 0 (am_en j (.ref b :: As)) [] sh M N) (k2 : ∀ (r : Option Value) (M1 : am_M) (N1 : am_N), Q1 r M1 N1 → am_SW l D G B sp fz Lx xs Q shE i (pc + 3) L (r.toList ++ S0) sh1 M1 N1) : am_SW l D G B sp fz Lx xs Q shE i pc L S sh M N := by
  refine ⟨Nat.le_trans k1.1 hE.1, Nat.le_trans k1.2.1 hE.2, fun p e R s m args below meth c H locs ls cells slots C St => am_size fun hsz => ?_⟩
  have hj : j < 210 := am_cl_lt hc
  obtain ⟨o1, o2, o3, o4, o5, o6⟩ := hok
  rw [hst] at o1
  have hpre := am_pre_of (Av := (.ref b :: As : am_V).map (am_cv B sp fz)) C St hsz
  have hC := id C
  obtain ⟨hx, hb, hml, hown, hts, hr, hlk, hnm, hK, hX, hB, hfr, hlo⟩ := C
  have a7 := St.2.2.2.2.2.2.1
  have a8 := St.2.2.2.2.2.2.2
  have a1 := St.1
  have a2 := St.2.1
  have hls : c.maxLocals = ls.size := by rw [hml, a7.2.1, a8]
  have hini : (Cond.initialized (am_y j).cls).before args s = true := by rw [am_own_at (j := j) (by omega)]; exact hts _ (am_ini_ok o6)
  have hw : am_wl j = Cond.code (am_y j) (am_c j) (am_mx j) none :: am_tbl := by unfold am_wl; rw [hrt]
  refine am_after k1.1 k1.2.1 k2 hC St (va_runI (y := am_y j) (n := am_na j) (b := am_ad B sp b) (As := As.map (am_cv B sp fz)) ⟨hx, hb, hls, hown, hts⟩ (am_met hj o2 k1) ⟨callB_of (am_na j) hts (am_good hj) hw rfl rfl hini (hts _ (am_cl_ok hc)) ⟨(am_mh_at (by omega)).1, (am_mh_at (by omega)).2, am_par_at (by omega)⟩ ⟨Nat.le_trans o3 hfr, Nat.le_trans o4 hlo⟩, hnm0, hts _ (am_ins_ok hin2)⟩ ⟨am_Pre.blind, hpre⟩ rfl ?_ rfl ?_ (lv_room ?_) (am_in_dec hin) ⟨?_, ?_⟩)
  · rw [List.length_map]
    simp only [List.length_cons, Bool.false_eq_true, if_false] at o1
    omega
  · show S.map _ = _
    rw [hS, List.map_append, List.map_reverse]
    rfl
  · rw [am_cat_map hX.1]; exact o5
  · have := k1.1; omega
  · have := k1.2.1; omega
theorem sw_callIN {j idx b : Nat} {As S0 : am_V} {Q1 : am_Q} {sh1 : List am_E} (hi : am_ow i < 19) (hin : am_in i pc = some (.invokespecial idx, 3)) (hc : am_cl i idx = some (j, true)) (hst : am_sta.contains j = false) (hin2 : am_ins.contains j = true) (hnm0 : (am_y j).name = "<init>") (hrt : am_rt j = none) (hS : S = As.reverse ++ .ref b :: S0) (hok : am_cok i j (.ref b :: As) S0) (hE : sh1.length ≤ shE.length ∧ am_sz sh1 ≤ am_sz shE) (k1 : am_SW l D G B sp fz Lx xs Q1 sh1 j 0 (am_en j (.ref b :: As)) [] sh M N) (k2 : ∀ (r : Option Value) (M1 : am_M) (N1 : am_N), Q1 r M1 N1 → am_SW l D G B sp fz Lx xs Q shE i (pc + 3) L (r.toList ++ S0) sh1 M1 N1) : am_SW l D G B sp fz Lx xs Q shE i pc L S sh M N := by
  refine ⟨Nat.le_trans k1.1 hE.1, Nat.le_trans k1.2.1 hE.2, fun p e R s m args below meth c H locs ls cells slots C St => am_size fun hsz => ?_⟩
  have hj : j < 210 := am_cl_lt hc
  obtain ⟨o1, o2, o3, o4, o5, o6⟩ := hok
  rw [hst] at o1
  have hpre := am_pre_of (Av := (.ref b :: As : am_V).map (am_cv B sp fz)) C St hsz
  have hC := id C
  obtain ⟨hx, hb, hml, hown, hts, hr, hlk, hnm, hK, hX, hB, hfr, hlo⟩ := C
  have a7 := St.2.2.2.2.2.2.1
  have a8 := St.2.2.2.2.2.2.2
  have a1 := St.1
  have a2 := St.2.1
  have hls : c.maxLocals = ls.size := by rw [hml, a7.2.1, a8]
  have hini : (Cond.initialized (am_y j).cls).before args s = true := by rw [am_own_at (j := j) (by omega)]; exact hts _ (am_ini_ok o6)
  have hw : am_wl j = Cond.code (am_y j) (am_c j) (am_mx j) none :: am_tbl := by unfold am_wl; rw [hrt]
  have hnl := hX.2.2.2.2.2.2.2.2 _ (am_cl_nest hi hc)
  refine am_after k1.1 k1.2.1 k2 hC St (va_runIN (y := am_y j) (n := am_na j) (host := "DriftCards") (b := am_ad B sp b) (As := As.map (am_cv B sp fz)) ⟨hx, hb, hls, hown, hts⟩ (am_met hj o2 k1) ⟨va_cnB (am_na j) hts (am_good hj) hw rfl rfl hnl hini ⟨(am_mh_at (by omega)).1, (am_mh_at (by omega)).2, am_par_at (by omega)⟩ ⟨Nat.le_trans o3 hfr, Nat.le_trans o4 hlo⟩, hnm0, hts _ (am_ins_ok hin2)⟩ ⟨am_Pre.blind, hpre⟩ rfl ?_ rfl ?_ (lv_room ?_) (am_in_dec hin) ⟨?_, ?_⟩)
  · rw [List.length_map]
    simp only [List.length_cons, Bool.false_eq_true, if_false] at o1
    omega
  · show S.map _ = _
    rw [hS, List.map_append, List.map_reverse]
    rfl
  · rw [am_cat_map hX.1]; exact o5
  · have := k1.1; omega
  · have := k1.2.1; omega
/-- Object() -/
theorem sw_oi {b idx : Nat} (hin : am_in i pc = some (.invokespecial idx, 3)) (hc : am_oi i idx = true) (hfr1 : 1 ≤ am_fr i) (hlo1 : (S.map fun v => v.category).sum + 12 ≤ am_lo i) (kk : am_SW l D G B sp fz Lx xs Q shE i (pc + 3) L S sh M N) : am_SW l D G B sp fz Lx xs Q shE i pc L (.ref b :: S) sh M N := by
  refine ⟨kk.1, kk.2.1, fun p e R s m args below meth c H locs ls cells slots C St => ?_⟩
  have hC := id C
  obtain ⟨hx, hb, hml, hown, hts, hr, hlk, hnm, hK, hX, hB, hfr, hlo⟩ := C
  have a7 := St.2.2.2.2.2.2.1
  have a8 := St.2.2.2.2.2.2.2
  exact W.objInit hx hb hown (hts _ (am_tbl_in (am_kos (am_ow i) idx (by simpa [am_oi] using hc)) rfl)) (hts _ (am_tbl_in am_s1 rfl)) (hts _ (am_tbl_in am_s2 rfl)) rfl (by show ls.size = _; rw [hml, a7.2.1, a8]) rfl (am_in_dec hin) (Nat.le_trans hfr1 hfr) (by show 2 * 0 + _ + 12 ≤ _; rw [am_cat_map hX.1]; omega) (kk.2.2 p e R s m args below meth c H locs ls cells slots hC St)
end AMC
end
section
/-! ===== what lies outside the world; new cells; copies ===== -/
set_option maxRecDepth 100000 in
set_option maxHeartbeats 4000000 in
theorem am_x1 : Cond.fieldLink (am_cn 10) 101 "DriftCards" "MOST_OF_MARK" "[I" ∈ am_tbl := am_tbl_in (am_pick_1 (gs := [495]) (by rfl)) rfl
set_option maxRecDepth 100000 in
set_option maxHeartbeats 4000000 in
theorem am_x2 : Cond.fieldLink (am_cn 14) 38 "java/lang/String" "COMPACT_STRINGS" "Z" ∈ am_tbl := am_tbl_in (am_pick_1 (gs := [903]) (by rfl)) rfl
set_option maxRecDepth 100000 in
set_option maxHeartbeats 4000000 in
theorem am_x3 : Cond.fieldLink (am_cn 14) 1053 "jdk/internal/util/Preconditions" "SIOOBE_FORMATTER" "Ljava/util/function/BiFunction;" ∈ am_tbl := am_tbl_in (am_pick_1 (gs := [919]) (by rfl)) rfl
set_option maxRecDepth 100000 in
set_option maxHeartbeats 4000000 in
theorem am_x4 : Cond.fieldLink (am_cn 14) 9 "java/lang/String" "value" "[B" ∈ am_tbl := am_tbl_in (am_pick_1 (gs := [1516]) (by rfl)) rfl
set_option maxRecDepth 100000 in
set_option maxHeartbeats 4000000 in
theorem am_x5 : Cond.fieldLink (am_cn 14) 15 "java/lang/String" "coder" "B" ∈ am_tbl := am_tbl_in (am_pick_1 (gs := [1517]) (by rfl)) rfl
theorem am_tfk : ((List.range 12).all fun ci => (List.range (am_nf ci)).all fun j => decide (am_tf ci j = .int) || (decide (am_tf ci j = .long) || refKind (am_tf ci j))) = true := by decide +kernel
theorem am_tfk_at {ci j : Nat} (hci : ci < 12) (hj : j < am_nf ci) : am_tf ci j = .int ∨ am_tf ci j = .long ∨ refKind (am_tf ci j) = true := by
  have h := List.all_eq_true.mp (List.all_eq_true.mp am_tfk ci (List.mem_range.mpr hci)) j (List.mem_range.mpr hj)
  simpa using h
theorem am_ad_sp {B : Nat} {sp : Nat → Nat} {k : Nat} (h : 1000000 ≤ k) : am_ad B sp k = sp k := if_neg (by omega)
theorem am_ad_lo {B : Nat} {sp : Nat → Nat} {k : Nat} (h : k < 1000000) : am_ad B sp k = B + k := if_pos h
section AMX
variable {l : Launch} {D : va_G} {G : am_G} {B : Nat} {sp : Nat → Nat} {fz : Value} {Lx : Nat} {xs : Nat → Int32} {Q : am_Q} {shE : List am_E} {i pc : Nat} {L S : am_V} {sh : List am_E} {M : am_M} {N : am_N}
/-- the script -/
theorem sw_sld {x : Int32} (hin : am_in i pc = some (.iaload, 1)) (hi : vp_in x Lx) (kk : am_SW l D G B sp fz Lx xs Q shE i (pc + 1) L (.int (xs x.toNatClampNeg) :: S) sh M N) : am_SW l D G B sp fz Lx xs Q shE i pc L (.int x :: .ref 1000000 :: S) sh M N := by
  refine ⟨kk.1, kk.2.1, fun p e R s m args below meth c H locs ls cells slots C St => ?_⟩
  have hX := C.2.2.2.2.2.2.2.2.2.1.2.1
  have hB := C.2.2.2.2.2.2.2.2.2.2.1
  have hlt : sp 1000000 < s.heap.size := Nat.lt_of_lt_of_le hX.2 hB
  have hnA : ¬ am_A B (sp 1000000) := Nat.not_le.mpr hX.2
  exact va_sld (A := am_A B) C.1 C.2.1 hX.1 hlt hnA St.2.2.2.2.1 hi (am_in_dec hin) (kk.2.2 p e R s m args below meth c H locs ls cells slots C St)
theorem sw_slen0 (hin : am_in i pc = some (.arraylength, 1)) (kk : am_SW l D G B sp fz Lx xs Q shE i (pc + 1) L (.int (Int32.ofNat Lx) :: S) sh M N) : am_SW l D G B sp fz Lx xs Q shE i pc L (.ref 1000000 :: S) sh M N := by
  refine ⟨kk.1, kk.2.1, fun p e R s m args below meth c H locs ls cells slots C St => ?_⟩
  have hX := C.2.2.2.2.2.2.2.2.2.1.2.1
  have hB := C.2.2.2.2.2.2.2.2.2.2.1
  have hlt : sp 1000000 < s.heap.size := Nat.lt_of_lt_of_le hX.2 hB
  have hnA : ¬ am_A B (sp 1000000) := Nat.not_le.mpr hX.2
  exact va_slen (A := am_A B) C.1 C.2.1 hX.1 hlt hnA St.2.2.2.2.1 (am_in_dec hin) (kk.2.2 p e R s m args below meth c H locs ls cells slots C St)
/-- a static row -/
theorem sw_gsM (ho : am_ow i = 10) (hin : am_in i pc = some (.getstatic 101, 3)) (kk : am_SW l D G B sp fz Lx xs Q shE i (pc + 3) L (.ref 1000001 :: S) sh M N) : am_SW l D G B sp fz Lx xs Q shE i pc L S sh M N := by
  refine ⟨kk.1, kk.2.1, fun p e R s m args below meth c H locs ls cells slots C St => ?_⟩
  have hX := C.2.2.2.2.2.2.2.2.2.1
  have hown := C.2.2.2.1
  rw [ho] at hown
  exact va_gets (A := am_A B) C.1 C.2.1 hX.2.2.1.1 St.2.2.2.2.1 hown (C.2.2.2.2.1 _ am_x1) (fun _ h => h) (am_in_dec hin) (kk.2.2 p e R s m args below meth c H locs ls cells slots C St)
theorem sw_tM {x : Int32} (hin : am_in i pc = some (.iaload, 1)) (hi : vp_in x 5) (kk : am_SW l D G B sp fz Lx xs Q shE i (pc + 1) L (.int (am_mom.getD x.toNatClampNeg 0) :: S) sh M N) : am_SW l D G B sp fz Lx xs Q shE i pc L (.int x :: .ref 1000001 :: S) sh M N := by
  refine ⟨kk.1, kk.2.1, fun p e R s m args below meth c H locs ls cells slots C St => ?_⟩
  have hX := C.2.2.2.2.2.2.2.2.2.1
  exact va_ti (A := am_A B) C.1 C.2.1 hX.2.2.1.2 St.2.2.2.2.1 hi rfl (am_in_dec hin) (kk.2.2 p e R s m args below meth c H locs ls cells slots C St)
/-- texts -/
theorem sw_gsC (ho : am_ow i = 14) (hin : am_in i pc = some (.getstatic 38, 3)) (kk : am_SW l D G B sp fz Lx xs Q shE i (pc + 3) L (.int 1 :: S) sh M N) : am_SW l D G B sp fz Lx xs Q shE i pc L S sh M N := by
  refine ⟨kk.1, kk.2.1, fun p e R s m args below meth c H locs ls cells slots C St => ?_⟩
  have hX := C.2.2.2.2.2.2.2.2.2.1
  have hown := C.2.2.2.1
  rw [ho] at hown
  exact va_gets (A := am_A B) C.1 C.2.1 hX.2.2.2.1 St.2.2.2.2.1 hown (C.2.2.2.2.1 _ am_x2) (fun _ h => h) (am_in_dec hin) (kk.2.2 p e R s m args below meth c H locs ls cells slots C St)
theorem sw_gsF (ho : am_ow i = 14) (hin : am_in i pc = some (.getstatic 1053, 3)) (kk : am_SW l D G B sp fz Lx xs Q shE i (pc + 3) L (.retAddr 7 :: S) sh M N) : am_SW l D G B sp fz Lx xs Q shE i pc L S sh M N := by
  refine ⟨kk.1, kk.2.1, fun p e R s m args below meth c H locs ls cells slots C St => ?_⟩
  have hX := C.2.2.2.2.2.2.2.2.2.1
  have hown := C.2.2.2.1
  rw [ho] at hown
  exact va_gets (A := am_A B) C.1 C.2.1 hX.2.2.2.2.1 St.2.2.2.2.1 hown (C.2.2.2.2.1 _ am_x3) (fun _ h => h) (am_in_dec hin) (kk.2.2 p e R s m args below meth c H locs ls cells slots C St)
theorem sw_ldS {n idx : Nat} (ho : am_ow i = 6) (hn : n < 7) (hx0 : am_sks.getD n 0 = idx) (hin : am_in i pc = some (.ldc idx, 2)) (kk : am_SW l D G B sp fz Lx xs Q shE i (pc + 2) L (.ref (1000010 + n) :: S) sh M N) : am_SW l D G B sp fz Lx xs Q shE i pc L S sh M N := by
  refine ⟨kk.1, kk.2.1, fun p e R s m args below meth c H locs ls cells slots C St => ?_⟩
  have hX := C.2.2.2.2.2.2.2.2.2.1
  have hown := C.2.2.2.1
  rw [ho] at hown
  have hk := kk.2.2 p e R s m args below meth c H locs ls cells slots C St
  rw [List.map_cons, show am_cv B sp fz (.ref (1000010 + n)) = .ref (sp (1000010 + n)) by show Value.ref (am_ad B sp _) = _; rw [am_ad_sp (by omega)]] at hk
  subst hx0
  exact va_ldcS C.1 C.2.1 hown (hX.2.2.2.2.2.2.1 n hn) (am_in_dec hin) hk
theorem sw_sval {n : Nat} (ho : am_ow i = 14) (hn : n < 7) (hin : am_in i pc = some (.getfield 9, 3)) (kk : am_SW l D G B sp fz Lx xs Q shE i (pc + 3) L (.ref (1000100 + n) :: S) sh M N) : am_SW l D G B sp fz Lx xs Q shE i pc L (.ref (1000010 + n) :: S) sh M N := by
  refine ⟨kk.1, kk.2.1, fun p e R s m args below meth c H locs ls cells slots C St => ?_⟩
  have hX := C.2.2.2.2.2.2.2.2.2.1
  have hown := C.2.2.2.1
  rw [ho] at hown
  have hk := kk.2.2 p e R s m args below meth c H locs ls cells slots C St
  rw [List.map_cons, show am_cv B sp fz (.ref (1000100 + n)) = .ref (sp (1000100 + n)) by show Value.ref (am_ad B sp _) = _; rw [am_ad_sp (by omega)]] at hk
  rw [List.map_cons, show am_cv B sp fz (.ref (1000010 + n)) = .ref (sp (1000010 + n)) by show Value.ref (am_ad B sp _) = _; rw [am_ad_sp (by omega)]]
  exact vk_getf C.1 C.2.1 (hX.2.2.2.2.2.1.1 n hn).2.2.1 St.2.2.2.2.1 hown (C.2.2.2.2.1 _ am_x4) (fun _ h => h) (am_in_dec hin) hk
theorem sw_scod {n : Nat} (ho : am_ow i = 14) (hn : n < 7) (hin : am_in i pc = some (.getfield 15, 3)) (kk : am_SW l D G B sp fz Lx xs Q shE i (pc + 3) L (.int 0 :: S) sh M N) : am_SW l D G B sp fz Lx xs Q shE i pc L (.ref (1000010 + n) :: S) sh M N := by
  refine ⟨kk.1, kk.2.1, fun p e R s m args below meth c H locs ls cells slots C St => ?_⟩
  have hX := C.2.2.2.2.2.2.2.2.2.1
  have hown := C.2.2.2.1
  rw [ho] at hown
  have hk := kk.2.2 p e R s m args below meth c H locs ls cells slots C St
  rw [List.map_cons, show am_cv B sp fz (.ref (1000010 + n)) = .ref (sp (1000010 + n)) by show Value.ref (am_ad B sp _) = _; rw [am_ad_sp (by omega)]]
  exact vk_getf C.1 C.2.1 (hX.2.2.2.2.2.1.1 n hn).2.1 St.2.2.2.2.1 hown (C.2.2.2.2.1 _ am_x5) (fun _ h => h) (am_in_dec hin) hk
theorem sw_slen {n : Nat} (hn : n < 7) (hin : am_in i pc = some (.arraylength, 1)) (kk : am_SW l D G B sp fz Lx xs Q shE i (pc + 1) L (.int (Int32.ofNat (am_slen.getD n 0)) :: S) sh M N) : am_SW l D G B sp fz Lx xs Q shE i pc L (.ref (1000100 + n) :: S) sh M N := by
  refine ⟨kk.1, kk.2.1, fun p e R s m args below meth c H locs ls cells slots C St => ?_⟩
  have hX := C.2.2.2.2.2.2.2.2.2.1
  have hk := kk.2.2 p e R s m args below meth c H locs ls cells slots C St
  rw [List.map_cons, show am_cv B sp fz (.ref (1000100 + n)) = .ref (sp (1000100 + n)) by show Value.ref (am_ad B sp _) = _; rw [am_ad_sp (by omega)]]
  exact va_tlen C.1 C.2.1 (hX.2.2.2.2.2.1.1 n hn).2.2.2 St.2.2.2.2.1 rfl (am_in_dec hin) hk
theorem sw_sbld {n : Nat} {x : Int32} (hn : n < 7) (hi : vp_in x (am_slen.getD n 0)) (hin : am_in i pc = some (.baload, 1)) (kk : am_SW l D G B sp fz Lx xs Q shE i (pc + 1) L (.int ((am_sbyt.getD n []).getD x.toNatClampNeg 0) :: S) sh M N) : am_SW l D G B sp fz Lx xs Q shE i pc L (.int x :: .ref (1000100 + n) :: S) sh M N := by
  refine ⟨kk.1, kk.2.1, fun p e R s m args below meth c H locs ls cells slots C St => ?_⟩
  have hX := C.2.2.2.2.2.2.2.2.2.1
  have hk := kk.2.2 p e R s m args below meth c H locs ls cells slots C St
  rw [List.map_cons, List.map_cons, show am_cv B sp fz (.ref (1000100 + n)) = .ref (sp (1000100 + n)) by show Value.ref (am_ad B sp _) = _; rw [am_ad_sp (by omega)]]
  exact va_tb C.1 C.2.1 (hX.2.2.2.2.2.1.1 n hn).2.2.2 St.2.2.2.2.1 hi rfl (am_in_dec hin) hk
/-- a call on a text -/
theorem sw_callT {j idx n : Nat} {As S0 : am_V} {Q1 : am_Q} {sh1 : List am_E} (hin : am_in i pc = some (.invokevirtual idx, 3)) (hc : am_cl i idx = some (j, false)) (hst : am_sta.contains j = false) (hin2 : am_ins.contains j = true) (hsel : am_sel.contains j = true) (hn : n < 7) (hS : S = As.reverse ++ .ref (1000010 + n) :: S0) (how : am_ow j = 14) (hok : am_cok i j (.ref (1000010 + n) :: As) S0) (hE : sh1.length ≤ shE.length ∧ am_sz sh1 ≤ am_sz shE) (k1 : am_SW l D G B sp fz Lx xs Q1 sh1 j 0 (am_en j (.ref (1000010 + n) :: As)) [] sh M N) (k2 : ∀ (r : Option Value) (M1 : am_M) (N1 : am_N), Q1 r M1 N1 → am_SW l D G B sp fz Lx xs Q shE i (pc + 3) L (r.toList ++ S0) sh1 M1 N1) : am_SW l D G B sp fz Lx xs Q shE i pc L S sh M N := by
  refine ⟨Nat.le_trans k1.1 hE.1, Nat.le_trans k1.2.1 hE.2, fun p e R s m args below meth c H locs ls cells slots C St => am_size fun hsz => ?_⟩
  have hj : j < 210 := am_cl_lt hc
  obtain ⟨o1, o2, o3, o4, o5, o6⟩ := hok
  rw [hst] at o1
  have hpre := am_pre_of (Av := (.ref (1000010 + n) :: As : am_V).map (am_cv B sp fz)) C St hsz
  have hC := id C
  obtain ⟨hx, hb, hml, hown, hts, hr, hlk, hnm, hK, hX, hB, hfr, hlo⟩ := C
  have a7 := St.2.2.2.2.2.2.1
  have a8 := St.2.2.2.2.2.2.2
  have a1 := St.1
  have a2 := St.2.1
  have hls : c.maxLocals = ls.size := by rw [hml, a7.2.1, a8]
  have hini : (Cond.initialized (am_y j).cls).before args s = true := by rw [am_own_at (j := j) (by omega)]; exact hts _ (am_ini_ok o6)
  have hrec := vk_recv hX.2.2.2.2.2.1 hn St.2.2.2.2.1
  have hcv : am_cv B sp fz (.ref (1000010 + n)) = .ref (sp (1000010 + n)) := by show Value.ref (am_ad B sp _) = _; rw [am_ad_sp (by omega)]
  rw [List.map_cons, hcv] at hpre
  have hm := am_met hj o2 k1
  rw [List.map_cons, hcv] at hm
  refine am_after k1.1 k1.2.1 k2 hC St (va_runV (y := am_y j) (C := (am_y j).cls) (n := am_na j) (b := sp (1000010 + n)) (As := As.map (am_cv B sp fz)) ⟨hx, hb, hls, hown, hts⟩ hm ⟨callB_of (am_na j) hts (am_good hj) rfl rfl rfl hini (hts _ (am_cl_ok hc)) ⟨(am_mh_at (by omega)).1, (am_mh_at (by omega)).2, am_par_at (by omega)⟩ ⟨Nat.le_trans o3 hfr, Nat.le_trans o4 hlo⟩, hts _ (am_ins_ok hin2), hts _ (am_sel_ok hsel)⟩ ⟨am_Pre.blind, by rw [am_own_at (j := j) (by omega), how]; exact hrec, hpre⟩ rfl ?_ rfl ?_ (lv_room ?_) (am_in_dec hin) ⟨?_, ?_⟩)
  · rw [List.length_map]
    simp only [List.length_cons, Bool.false_eq_true, if_false] at o1
    omega
  · show S.map _ = _
    rw [hS, List.map_append, List.map_reverse, List.map_cons, hcv]
  · rw [am_cat_map hX.1]; exact o5
  · have := k1.1; omega
  · have := k1.2.1; omega
/-- System.arraycopy between rows of ints -/
theorem sw_copy {k0 k1 n0 n1 idx : Nat} {sx dx nx : Int32} (hin : am_in i pc = some (.invokestatic idx, 3)) (hc : am_ac i idx = true) (hk0 : sh[k0]? = some (.inl (0, n0))) (hk1 : sh[k1]? = some (.inl (0, n1))) (h1 : ¬ sx < 0) (h2 : ¬ dx < 0) (h3 : ¬ nx < 0) (h4 : sx.toNatClampNeg + nx.toNatClampNeg ≤ n0) (h5 : dx.toNatClampNeg + nx.toNatClampNeg ≤ n1) (hfr1 : 1 ≤ am_fr i) (hlo1 : (S.map fun v => v.category).sum + 18 ≤ am_lo i) (kk : am_SW l D G B sp fz Lx xs Q shE i (pc + 3) L S sh (am_upR M k1 (va_cpy (M k0) (M k1) sx.toNatClampNeg dx.toNatClampNeg nx.toNatClampNeg)) N) : am_SW l D G B sp fz Lx xs Q shE i pc L (.int nx :: .int dx :: .ref k1 :: .int sx :: .ref k0 :: S) sh M N := by
  refine ⟨kk.1, kk.2.1, fun p e R s m args below meth c H locs ls cells slots C St => ?_⟩
  have hC := id C
  obtain ⟨hx, hb, hml, hown, hts, hr, hlk, hnm, hK, hX, hB, hfr, hlo⟩ := C
  obtain ⟨a1, a2, a3, a4, a5, a6, a7, a8⟩ := St
  refine va_copyi hx hb (by rw [hml, a7.2.1, a8]) hown (hts _ (am_tbl_in (am_kas (am_ow i) idx (by simpa [am_ac] using hc)) rfl)) (hts _ (am_tbl_in am_s3 rfl)) (hts _ (am_tbl_in am_s4 rfl)) (hts _ (am_tbl_in am_s5 rfl)) hK a3 a4 a5 k0 k1 0 0 (am_ws_get hk0) (am_ws_get hk1) rfl rfl rfl h1 h2 h3 h4 h5 (fun _ _ => rfl) (Nat.le_trans hfr1 hfr) (by rw [am_cat_map hX.1]; show _ + (7 + 11) ≤ _; omega) (am_in_dec hin) (fun H1 locs1 hP hD hS => ?_)
  have he : (am_ws G B sp sh M N).set k1 (am_ad B sp k1, .inl (G.1, n1, .inl (va_cpy (M k0) (M k1) sx.toNatClampNeg dx.toNatClampNeg nx.toNatClampNeg))) = am_ws G B sp sh (am_upR M k1 (va_cpy (M k0) (M k1) sx.toNatClampNeg dx.toNatClampNeg nx.toNatClampNeg)) N := by
    have h9 := am_ws_set (G := G) (B := B) (sp := sp) (M := M) (N := N) (N' := N) (M' := am_upR M k1 (va_cpy (M k0) (M k1) sx.toNatClampNeg dx.toNatClampNeg nx.toNatClampNeg)) hk1 (fun a ha => by simp [am_upR, ha]) (fun _ _ => rfl)
    rw [← h9]
    simp only [am_ce, am_upR, if_true]
  rw [he] at hP hD
  exact kk.2.2 p e R s m args below meth c H1 locs1 ls cells slots hC ⟨a1, a2, hP, hD, hS, a6, a7, a8⟩
/-! new cells -/
theorem am_hsz {H : Heap} (hP : va_P D vwCl (am_ws G B sp sh M N) H) (hl : sh.length < 1000000) (hB : B ≤ H.size) : B + sh.length ≤ H.size := by
  by_cases h0 : sh.length = 0
  · omega
  · have hk : sh.length - 1 < sh.length := by omega
    have h1 := (hP (sh.length - 1) _ (am_ws_get (List.getElem?_eq_getElem hk))).lt
    have h2 : am_ad B sp (sh.length - 1) = B + (sh.length - 1) := am_ad_lo (by omega)
    have h3 : am_ad B sp (sh.length - 1) < H.size := h1
    omega
theorem am_sz_push (sh : List am_E) (e : am_E) : am_sz (sh ++ [e]) = am_sz sh + am_sz [e] := by
  simp [am_sz]
theorem am_pushed {H H1 : Heap} {e9 : am_E} {M' : am_M} {N' : am_N} (hM : ∀ a, a ≠ sh.length → M' a = M a) (hN : ∀ a, a ≠ sh.length → N' a = N a) (hP : va_P D vwCl (am_ws G B sp sh M N) H) (hD : va_D (am_A B) (am_ws G B sp sh M N)) (hl : sh.length < 1000000) (hz : H.size = B + sh.length) (ho : ∀ q, q < H.size → H1[q]? = H[q]?) (hat : va_at D vwCl (am_ad B sp sh.length, am_ce G B sp M' N' sh.length e9) H1) : va_P D vwCl (am_ws G B sp (sh ++ [e9]) M' N') H1 ∧ va_D (am_A B) (am_ws G B sp (sh ++ [e9]) M' N') := by
  have had : am_ad B sp sh.length = H.size := by rw [am_ad_lo hl, hz]
  rw [am_ws_push hM hN]
  refine ⟨(hP.kept (fun k x hx => ho x.1 ((hP k x hx).lt))).app (fun k x hx => ?_), ?_⟩
  · have h0 : k < 1 := (List.getElem?_eq_some_iff.mp hx).1
    rw [show k = 0 by omega] at hx
    cases hx
    exact hat
  · exact hD.push hP had (by show B ≤ _; omega)
theorem sw_newa {t n : Nat} {at9 : ArrayType} {x : Int32} (hin : am_in i pc = some (.newarray at9, 2)) (hat : (at9 = .int ∧ t = 0) ∨ (at9 = .boolean ∧ t = 1)) (hx0 : ¬ x < 0) (hxn : x.toNatClampNeg = n) (hn : n ≤ 100000) (hl : sh.length < 1000000) (kk : am_SW l D G B sp fz Lx xs Q shE i (pc + 2) L (.ref sh.length :: S) (sh ++ [.inl (t, n)]) (am_upR M sh.length (fun _ => 0)) N) : am_SW l D G B sp fz Lx xs Q shE i pc L (.int x :: S) sh M N := by
  have k1 := kk.1
  have k2 := kk.2.1
  rw [am_sz_push] at k2
  have hs1 : am_sz [.inl (t, n)] = n := by simp [am_sz]
  rw [hs1] at k2
  rw [List.length_append, List.length_singleton] at k1
  refine ⟨by omega, by omega, fun p e R s m args below meth c H locs ls cells slots C St => am_size fun hsz => ?_⟩
  have hC := id C
  obtain ⟨hx, hb, hml, hown, hts, hr, hlk, hnm, hK, hX, hB, hfr, hlo⟩ := C
  obtain ⟨a1, a2, a3, a4, a5, a6, a7, a8⟩ := St
  have hBH : B ≤ H.size := Nat.le_trans hB a5.1
  have hge := am_hsz a3 hl hBH
  have hHs : H.size = B + sh.length := by omega
  have had : am_ad B sp sh.length = H.size := by rw [am_ad_lo hl, hHs]
  have goal : ∀ (H1 : Heap) (cA : ClassId), H1[H.size]? = some (arrV cA n (fun _ => .int 0)) → H1.size = H.size + 1 → (∀ q, q < H.size → H1[q]? = H[q]?) → (cA = if t = 0 then G.1 else G.2.1) → W p l e R s m args below meth c H1 locs (cells + 1) (slots + n) (MQ below (am_Qc D G B sp fz Q shE) args s R.cells R.slots (am_A B)) (F0 m (pc + 2) ls (.ref H.size :: S.map (am_cv B sp fz))) := by
    intro H1 cA e1 z1 o1 hcA
    have hat1 : va_at D vwCl (am_ad B sp sh.length, am_ce G B sp (am_upR M sh.length (fun _ => 0)) N sh.length (.inl (t, n))) H1 := by
      rcases hat with ⟨-, rfl⟩ | ⟨-, rfl⟩
      · show H1[am_ad B sp sh.length]? = some (vp_cell G.1 (n, .inl (am_upR M sh.length (fun _ => 0) sh.length)))
        rw [had, e1, hcA, vp_cell_i]
        simp [am_upR]
      · show H1[am_ad B sp sh.length]? = some (vp_cell G.2.1 (n, .inl (am_upR M sh.length (fun _ => 0) sh.length)))
        rw [had, e1, hcA, vp_cell_i]
        simp [am_upR]
    obtain ⟨hP1, hD1⟩ := am_pushed (N' := N) (fun a ha => by simp [am_upR, ha]) (fun _ _ => rfl) a3 a4 hl hHs o1 hat1
    have hS1 : va_S (am_A B) s.heap H1 locs := ⟨Nat.le_trans a5.1 (by omega), fun q h1 h2 => (o1 q (Nat.lt_of_lt_of_le h1 a5.1)).trans (a5.2.1 q h1 h2), a5.2.2⟩
    have hk := kk.2.2 p e R s m args below meth c H1 locs ls (cells + 1) (slots + n) hC ⟨by rw [List.length_append, List.length_singleton]; omega, by rw [am_sz_push, hs1]; omega, hP1, hD1, hS1, by rw [List.length_append, List.length_singleton]; omega, a7, a8⟩
    rw [List.map_cons, show am_cv B sp fz (.ref sh.length) = .ref H.size by show Value.ref (am_ad B sp _) = _; rw [had]] at hk
    exact hk
  rcases hat with ⟨rfl, rfl⟩ | ⟨rfl, rfl⟩
  · refine va_newaK (atype := .int) hx hb (hts _ (am_tbl_in am_s6 rfl)) rfl (am_in_dec hin) rfl hx0 hxn (by show n * 4 ≤ _; omega) (by omega) (by omega) rfl fun H1 cA e1 z1 o1 hAr hNm => ?_
    have hc9 : cA = G.1 := Option.some.inj (hNm.symm.trans (hK.2 0 _ rfl).2)
    exact goal H1 cA e1 z1 o1 hc9
  · refine va_newaK (atype := .boolean) hx hb (hts _ (am_tbl_in am_s7 rfl)) rfl (am_in_dec hin) rfl hx0 hxn (by show n * 1 ≤ _; omega) (by omega) (by omega) rfl fun H1 cA e1 z1 o1 hAr hNm => ?_
    have hc9 : cA = G.2.1 := Option.some.inj (hNm.symm.trans (hK.2 1 _ rfl).2)
    exact goal H1 cA e1 z1 o1 hc9
/-- a new object: its numbers are 0, its references null -/
theorem sw_new {idx ci : Nat} (hin : am_in i pc = some (.new idx, 3)) (hc : am_nw i idx = some ci) (hci : ci < 12) (hq1 : am_inq.contains ci = true) (hq2 : am_ini.contains ci = true) (hl : sh.length < 1000000) (kk : am_SW l D G B sp fz Lx xs Q shE i (pc + 3) L (.ref sh.length :: S) (sh ++ [.inr (ci, List.replicate (am_nf ci) none)]) (am_upR M sh.length (fun _ => 0)) (fun a => if a = sh.length then fun _ => 0 else N a)) : am_SW l D G B sp fz Lx xs Q shE i pc L S sh M N := by
  have k1 := kk.1
  have k2 := kk.2.1
  rw [am_sz_push] at k2
  have hs1 : am_sz [.inr (ci, List.replicate (am_nf ci) none)] = am_nf ci := by simp [am_sz]
  rw [hs1] at k2
  rw [List.length_append, List.length_singleton] at k1
  refine ⟨by omega, by omega, fun p e R s m args below meth c H locs ls cells slots C St => am_size fun hsz => ?_⟩
  have hC := id C
  obtain ⟨hx, hb, hml, hown, hts, hr, hlk, hnm, hK, hX, hB, hfr, hlo⟩ := C
  obtain ⟨a1, a2, a3, a4, a5, a6, a7, a8⟩ := St
  have hBH : B ≤ H.size := Nat.le_trans hB a5.1
  have hge := am_hsz a3 hl hBH
  have hHs : H.size = B + sh.length := by omega
  have had : am_ad B sp sh.length = H.size := by rw [am_ad_lo hl, hHs]
  have hKn := hK.1 ci _ (am_vw ci hci)
  refine W.newcK hx hb hown (hts _ (am_tbl_in (am_kws (am_ow i) (idx, ci) (am_look hc)) rfl)) (hts _ (am_tbl_in (am_pick_of am_inq_k ci (by simpa using hq1)) rfl)) (hts _ (am_ini_ok hq2)) rfl (am_in_dec hin) (by omega) (by omega) hKn.2.1 rfl fun H1 kC hkC e1 z1 o1 => ?_
  have hat1 : va_at D vwCl (am_ad B sp sh.length, am_ce G B sp (am_upR M sh.length (fun _ => 0)) (fun a => if a = sh.length then fun _ => 0 else N a) sh.length (.inr (ci, List.replicate (am_nf ci) none))) H1 := by
    refine ⟨_, am_vw ci hci, ?_⟩
    rw [had]
    refine (u_born (am_tf ci) hts (am_ly ci hci) hKn hkC e1 (am_tyok ci hci)).to (fun j hj => ?_)
    show _ = vp_V (am_fs _ _ _ _ _ _ _) j
    have hj : j < am_nf ci := hj
    unfold vp_V
    rw [List.getD, am_fs_get hj]
    have hg : (List.replicate (am_nf ci) (none : Option Nat)).getD j none = none := by simp [List.getD, List.getElem?_replicate, hj]
    rw [hg]
    simp only [Option.getD_some, am_fv, am_upR, if_true]
    have hty := am_tfk_at hci hj
    generalize am_tf ci j = ty at hty
    cases ty <;> first | rfl | (rcases hty with h | h | h <;> cases h)
  obtain ⟨hP1, hD1⟩ := am_pushed (fun a ha => by simp [am_upR, ha]) (fun a ha => by simp [ha]) a3 a4 hl hHs o1 hat1
  have hS1 : va_S (am_A B) s.heap H1 locs := ⟨Nat.le_trans a5.1 (by omega), fun q h1 h2 => (o1 q (Nat.lt_of_lt_of_le h1 a5.1)).trans (a5.2.1 q h1 h2), a5.2.2⟩
  have hk := kk.2.2 p e R s m args below meth c H1 locs ls (cells + 1) (slots + am_nf ci) hC ⟨by rw [List.length_append, List.length_singleton]; omega, by rw [am_sz_push, hs1]; omega, hP1, hD1, hS1, by rw [List.length_append, List.length_singleton]; omega, a7, a8⟩
  rw [List.map_cons, show am_cv B sp fz (.ref sh.length) = .ref H.size by show Value.ref (am_ad B sp _) = _; rw [had]] at hk
  exact hk
end AMX
end
section
/-! ===== new int[n][k]: the outer row and n inner ones, one behind another ===== -/
def mg_out (cA : ClassId) (n h i : Nat) : Cell := arrV cA n (fun j => if j < i then .ref (h + 1 + j) else .null)
def mg_row (cI : ClassId) (k : Nat) : Cell := arrV cI k (fun _ => .int 0)
theorem mg_next (cA : ClassId) (n h i : Nat) : (mg_out cA n h i).setSlot i (.ref (h + 1 + i)) = mg_out cA n h (i + 1) := by
  unfold mg_out
  rw [arrV_store]
  refine congrArg (arrV cA n) (funext fun j => ?_)
  by_cases e : j = i
  · subst e
    simp [updV]
  · by_cases hj : j < i
    · simp [updV, e, hj, Nat.lt_succ_of_lt hj]
    · simp [updV, e, hj, show ¬ j < i + 1 by omega]
/-- the state behind i inner rows -/
def mg_st (T : State) (cA cI : ClassId) (n k : Nat) : Nat → State
  | 0 => T.pushCell (mg_out cA n T.heap.size 0)
  | i + 1 => ((mg_st T cA cI n k i).pushCell (mg_row cI k)).setCell T.heap.size (mg_out cA n T.heap.size (i + 1))
theorem mg_out_size (cA : ClassId) (n h i : Nat) : (mg_out cA n h i).slots.size = n := arrV_size _ _ _
theorem mg_row_size (cI : ClassId) (k : Nat) : (mg_row cI k).slots.size = k := arrV_size _ _ _
theorem mg_facts (T : State) (cA cI : ClassId) (n k : Nat) : ∀ i, (mg_st T cA cI n k i).heap.size = T.heap.size + 1 + i ∧ (mg_st T cA cI n k i).heap[T.heap.size]? = some (mg_out cA n T.heap.size i) ∧ (mg_st T cA cI n k i).vm = T.vm ∧ (mg_st T cA cI n k i).slotsUsed = T.slotsUsed + n + i * k
  | 0 => ⟨by simp [mg_st], by simp [mg_st], rfl, by simp [mg_st, mg_out_size]⟩
  | i + 1 => by
    obtain ⟨a, b, d, u⟩ := mg_facts T cA cI n k i
    have hlt : T.heap.size < (mg_st T cA cI n k i).heap.size := by omega
    have hb' : ((mg_st T cA cI n k i).pushCell (mg_row cI k)).heap[T.heap.size]? = some (mg_out cA n T.heap.size i) := by rw [State.heap_pushCell_of_lt (h := hlt)]; exact b
    refine ⟨?_, State.heap_setCell_self hb', by simp [mg_st, d], ?_⟩
    · simp [mg_st, State.setCell, a]; omega
    · simp [mg_st, u, mg_row_size, Nat.succ_mul]; omega
theorem mg_top (T : State) (f : JFrame) (cA cI : ClassId) (n k : Nat) : ∀ i, mg_st (T.setTop f) cA cI n k i = (mg_st T cA cI n k i).setTop f
  | 0 => rfl
  | i + 1 => by simp only [mg_st, mg_top T f cA cI n k i, State.heap_setTop, State.pushCell_setTop, State.setCell_setTop]
theorem mg_old (T : State) (cA cI : ClassId) (n k : Nat) {a : Addr} (ha : a < T.heap.size) : ∀ i, (mg_st T cA cI n k i).heap[a]? = T.heap[a]?
  | 0 => State.heap_pushCell_of_lt _ _ ha
  | i + 1 => by
    have f1 := (mg_facts T cA cI n k i).1
    have hlt : a < (mg_st T cA cI n k i).heap.size := Nat.lt_of_lt_of_le ha (by rw [f1]; omega)
    show (((mg_st T cA cI n k i).pushCell (mg_row cI k)).setCell T.heap.size _).heap[a]? = _
    rw [State.heap_setCell_other (Nat.ne_of_gt ha), State.heap_pushCell_of_lt (h := hlt)]
    exact mg_old T cA cI n k ha i
theorem mg_rows (T : State) (cA cI : ClassId) (n k : Nat) : ∀ i j, j < i → (mg_st T cA cI n k i).heap[T.heap.size + 1 + j]? = some (mg_row cI k)
  | 0, _, h => absurd h (Nat.not_lt_zero _)
  | i + 1, j, h => by
    have f1 := (mg_facts T cA cI n k i).1
    show (((mg_st T cA cI n k i).pushCell (mg_row cI k)).setCell T.heap.size _).heap[T.heap.size + 1 + j]? = _
    rw [State.heap_setCell_other (show T.heap.size ≠ T.heap.size + 1 + j by omega)]
    rcases Nat.lt_or_ge j i with hj | hj
    · have hlt : T.heap.size + 1 + j < (mg_st T cA cI n k i).heap.size := by rw [f1]; omega
      rw [State.heap_pushCell_of_lt (h := hlt)]
      exact mg_rows T cA cI n k i j hj
    · have e : T.heap.size + 1 + j = (mg_st T cA cI n k i).heap.size := by rw [f1]; omega
      rw [e]
      simp
section MGW
variable {E : CtlPost} {e : Env} {d : Bool} {acts : List Action} {s : State}
theorem mg_new {c comp : ClassId} {kc : Class} {type : FieldType} {len : Nat} {init : Value} (hk : s.vm.classes[c]? = some kc) (hkind : kc.kind = .array comp type)
    (hlimit : ¬ len > e.platform.arrayLengthLimit) (hheap : ¬ len * componentBytes type > e.platform.maxHeapBytes) (hfit : fits type init = true) (hdef : init.isDefault = true) {Q : Addr → Pre}
    (h1 : s.heap.size < e.platform.maxCells) (h2 : s.slotsUsed + len ≤ e.platform.maxSlots) (hq : Q s.heap.size d acts (s.pushCell (arrV c len (fun _ => init)))) : wp (Jvm.newArray c len init) Q E e d acts s := by
  have hfits : ∀ i v, (Array.replicate len init)[i]? = some v → s.fitsSlot c .none i v = true := by
    intro i v hv
    rw [Array.getElem?_replicate] at hv
    split at hv
    · cases hv
      simp [State.fitsSlot, State.slotType?, hk, hkind, hfit]
    · cases hv
  have hda : allocActs (Array.replicate len init) s.heap.size acts = acts := by
    unfold allocActs
    rw [if_pos]
    rw [Array.all_replicate]
    split <;> simp [hdef]
  rw [← arrV_new] at hq
  simp only [Jvm.newArray, Jvm.arrayFits, wp_bind', W.ask, W.ite, hlimit, if_false, wp_pure', W.theClass, hk, hkind, hheap, W.alloc, W.stop, Option.some.injEq, exists_eq_left', Array.size_replicate, hda]
  rw [if_neg (by omega)]
  exact ⟨h1, h2, hfits, hq⟩
theorem mg_make1 {cI cc : ClassId} {kI : Class} {k : Int32} (hkI : s.vm.classes[cI]? = some kI) (hkindI : kI.kind = .array cc .int) (hk0 : ¬ k < 0) (hl : ¬ k.toNatClampNeg > e.platform.arrayLengthLimit) (hh : ¬ k.toNatClampNeg * 4 > e.platform.maxHeapBytes)
    (h1 : s.heap.size < e.platform.maxCells) (h2 : s.slotsUsed + k.toNatClampNeg ≤ e.platform.maxSlots) {Q : Addr → Pre} (hq : Q s.heap.size d acts (s.pushCell (mg_row cI k.toNatClampNeg))) : wp (multianewarray.make cI [k]) Q E e d acts s := by
  rw [multianewarray.make]
  simp only [wp_bind', W.ite, hk0, if_false, wp_pure', W.theClass, hkI, hkindI, Option.some.injEq, exists_eq_left']
  exact mg_new hkI hkindI hl hh rfl rfl h1 h2 hq
theorem mg_make2 {cA cI cc : ClassId} {kA kI : Class} {n k : Int32} (hkA : s.vm.classes[cA]? = some kA) (hkindA : kA.kind = .array cI (.array .int)) (hkI : s.vm.classes[cI]? = some kI) (hkindI : kI.kind = .array cc .int) (hn : ¬ n < 0) (hk0 : ¬ k < 0)
    (hl1 : ¬ n.toNatClampNeg > e.platform.arrayLengthLimit) (hh1 : ¬ n.toNatClampNeg * 4 > e.platform.maxHeapBytes) (hl2 : ¬ k.toNatClampNeg > e.platform.arrayLengthLimit) (hh2 : ¬ k.toNatClampNeg * 4 > e.platform.maxHeapBytes)
    (hc : s.heap.size + 1 + n.toNatClampNeg ≤ e.platform.maxCells) (hs : s.slotsUsed + n.toNatClampNeg + n.toNatClampNeg * k.toNatClampNeg ≤ e.platform.maxSlots)
    {Q : Addr → Pre} (hq : ∀ d' acts', Q s.heap.size d' acts' (mg_st s cA cI n.toNatClampNeg k.toNatClampNeg n.toNatClampNeg)) : wp (multianewarray.make cA [n, k]) Q E e d acts s := by
  have hfind : ([k].find? (· < 0)) = none := by simp [hk0]
  rw [multianewarray.make]
  simp only [wp_bind', W.ite, hn, if_false, wp_pure', W.theClass, hkA, hkindA, Option.some.injEq, exists_eq_left']
  refine mg_new hkA hkindA hl1 hh1 rfl rfl (by omega) (by have := Nat.zero_le (n.toNatClampNeg * k.toNatClampNeg); omega) ?_
  simp only [hfind]
  rw [ite_self, wp_bind', Std.Legacy.Range.forIn_eq_forIn_range']
  have hsz : ([:n.toNatClampNeg] : Std.Legacy.Range).size = n.toNatClampNeg := by simp [Std.Legacy.Range.size]
  rw [hsz]
  have h0 : s.pushCell (arrV cA n.toNatClampNeg (fun _ => .null)) = mg_st s cA cI n.toNatClampNeg k.toNatClampNeg 0 := by
    show s.pushCell _ = s.pushCell (mg_out _ _ _ 0)
    simp [mg_out]
  show wp (forIn (List.range' 0 n.toNatClampNeg 1) PUnit.unit _) _ E e d acts _
  refine wp_forIn_inv (fun rest s' => ∃ i, i ≤ n.toNatClampNeg ∧ rest = List.range' i (n.toNatClampNeg - i) ∧ s' = mg_st s cA cI n.toNatClampNeg k.toNatClampNeg i) _ _ ⟨0, Nat.zero_le _, rfl, h0⟩ ?_ ?_
  · rintro x rest s' d' acts' Q' ⟨i, hi, hl, rfl⟩ hnext
    have hlt : i < n.toNatClampNeg := by
      rcases Nat.lt_or_ge i n.toNatClampNeg with h | h
      · exact h
      · rw [show n.toNatClampNeg - i = 0 from by omega] at hl
        simp at hl
    rw [show n.toNatClampNeg - i = (n.toNatClampNeg - (i + 1)) + 1 from by omega, List.range'_succ] at hl
    obtain ⟨rfl, hrest⟩ := List.cons.inj hl
    obtain ⟨f1, f2, f3, f4⟩ := mg_facts s cA cI n.toNatClampNeg k.toNatClampNeg x
    have hmul : x * k.toNatClampNeg + k.toNatClampNeg ≤ n.toNatClampNeg * k.toNatClampNeg := by
      have := Nat.mul_le_mul_right k.toNatClampNeg (show x + 1 ≤ n.toNatClampNeg from hlt)
      rw [Nat.succ_mul] at this
      exact this
    simp only [wp_bind']
    refine mg_make1 (by rw [f3]; exact hkI) hkindI hk0 hl2 hh2 (by rw [f1]; omega) (by rw [f4]; omega) ?_
    have hlt0 : s.heap.size < (mg_st s cA cI n.toNatClampNeg k.toNatClampNeg x).heap.size := by rw [f1]; omega
    simp only [wp_bind', W.writeLoc, wp_pure']
    refine ⟨mg_out cA n.toNatClampNeg s.heap.size x, by rw [State.heap_pushCell_of_lt (h := hlt0)]; exact f2, by simp [mg_out, arrV], by rw [mg_out_size]; exact hlt, ?_, hnext _ _ _ ⟨x + 1, hlt, hrest, ?_⟩⟩
    · simp [mg_out, arrV, State.fitsSlot, State.slotType?, f3, hkA, hkindA, fits]
    · rw [f1, mg_next]
      rfl
  · rintro s' d' acts' ⟨i, hi, hl, rfl⟩
    have hiN : i = n.toNatClampNeg := by
      rcases Nat.lt_or_ge i n.toNatClampNeg with h | h
      · rw [show n.toNatClampNeg - i = (n.toNatClampNeg - (i + 1)) + 1 from by omega, List.range'_succ] at hl
        cases hl
      · omega
    subst hiN
    simp only [wp_pure']
    exact hq _ _
end MGW
section MGS
variable {p : Program} {l : Launch} {e : Env} {R : Room} {s : State} {m : MethodId} {args : Array Value} {below : List Frame} {meth : Method} {c : Code} {T : State} {locs : List Loc} {cells slots : Nat}
theorem mg_stand (X : Stand p l e R s m args below meth c T locs cells slots) (cA cI : ClassId) (n k : Nat) : ∀ i, Stand p l e R s m args below meth c (mg_st T cA cI n k i) (locs ++ (List.range i).map fun j => ⟨T.heap.size, j⟩) (cells + 1 + i) (slots + n + i * k)
  | 0 => by
    have h := X.pushed (mg_out cA n T.heap.size 0)
    rw [mg_out_size] at h
    simpa [mg_st] using h
  | i + 1 => by
    have Xi := mg_stand X cA cI n k i
    obtain ⟨f1, f2, f3, f4⟩ := mg_facts T cA cI n k i
    have hlt0 : T.heap.size < (mg_st T cA cI n k i).heap.size := by rw [f1]; omega
    have hcell : ((mg_st T cA cI n k i).pushCell (mg_row cI k)).heap[T.heap.size]? = some (mg_out cA n T.heap.size i) := by rw [State.heap_pushCell_of_lt (h := hlt0)]; exact f2
    have h := (Xi.pushed (mg_row cI k)).stored hcell i (.ref (T.heap.size + 1 + i))
    rw [mg_row_size, mg_next] at h
    have e2 : (locs ++ (List.range (i + 1)).map fun j => (⟨T.heap.size, j⟩ : Loc)) = (locs ++ (List.range i).map fun j => (⟨T.heap.size, j⟩ : Loc)) ++ [⟨T.heap.size, i⟩] := by simp [List.range_succ, List.append_assoc]
    have e3 : slots + n + (i + 1) * k = slots + n + i * k + k := by rw [Nat.succ_mul]; omega
    rw [e2, e3]
    exact h
theorem mg_step (X : Stand p l e R s m args below meth c T locs cells slots) (hexec : p.tables.exec = Jvm.exec) {own : String} {index : Nat} (hown : s.vm.findClass own = some m.cls) (hclink : (Cond.classLink own index "[[I").before args s = true)
    {cA cI cc : ClassId} {kA kI : Class} (hfA : s.vm.findClass "[[I" = some cA) (hkA : s.vm.classes[cA]? = some kA) (hkindA : kA.kind = .array cI (.array .int)) (hkI : s.vm.classes[cI]? = some kI) (hkindI : kI.kind = .array cc .int)
    {g : JFrame} (hg : g.method = m) (hdg : decode c.code g.pc = .ok (.multianewarray index 2, 4)) {n k : Int32} {rest : List Value} (hstack : g.stack = .int k :: .int n :: rest)
    (hn : ¬ n < 0) (hk : ¬ k < 0) (hb1 : n.toNatClampNeg * 4 ≤ 536870912) (hb2 : k.toNatClampNeg * 4 ≤ 536870912) (hcells : cells + (1 + n.toNatClampNeg) ≤ R.cells) (hslots : slots + (n.toNatClampNeg + n.toNatClampNeg * k.toNatClampNeg) ≤ R.slots) :
    ∃ vm₁ : Vm, s.WarmedH vm₁ ∧ Stand p l e R s m args below meth c (mg_st (T.setVm vm₁) cA cI n.toNatClampNeg k.toNatClampNeg n.toNatClampNeg) (locs ++ (List.range n.toNatClampNeg).map fun j => ⟨T.heap.size, j⟩) (cells + 1 + n.toNatClampNeg) (slots + n.toNatClampNeg + n.toNatClampNeg * k.toNatClampNeg) ∧
      ∀ target, Steps p.tables e below ((mg_st (T.setVm vm₁) cA cI n.toNatClampNeg k.toNatClampNeg n.toNatClampNeg).setTop { g with pc := g.pc + 4, stack := .ref T.heap.size :: rest }) target → Steps p.tables e below (T.setTop g) target := by
  subst hg
  have hpl : e.platform.magicAccessors = ({} : Platform).magicAccessors := by rw [X.admits.platform]
  obtain ⟨c0, hfc0, hcl⟩ := Cond.classLink_spec hown hclink e.platform hpl
  cases hfA.symm.trans hfc0
  obtain ⟨hg₁, hwarm₁, hready₁⟩ := State.classEntry (e := e) X.warmed hcl
  generalize T.vm.noted g.method.cls index (.cls cA) = vm₁ at hg₁ hwarm₁ hready₁
  have hal : s.vm.Alike vm₁ := hwarm₁.alike
  obtain ⟨kA₁, hkA₁, heA⟩ := hal.2.2 _ _ hkA
  obtain ⟨kI₁, hkI₁, heI⟩ := hal.2.2 _ _ hkI
  have hkindA₁ : kA₁.kind = .array cI (.array .int) := by rw [heA]; exact hkindA
  have hkindI₁ : kI₁.kind = .array cc .int := by rw [heI]; exact hkindI
  have X₁ := X.noted hwarm₁
  obtain ⟨hr1, hr2⟩ := X.roomAbove hcells hslots
  refine ⟨vm₁, hwarm₁, mg_stand X₁ cA cI _ _ _, fun target hrest => ?_⟩
  have hl1 : ¬ n.toNatClampNeg > e.platform.arrayLengthLimit := by rw [Launch.admits_arrayLengthLimit X.admits]; omega
  have hh1 : ¬ n.toNatClampNeg * 4 > e.platform.maxHeapBytes := by rw [Launch.admits_maxHeapBytes X.admits]; omega
  have hl2 : ¬ k.toNatClampNeg > e.platform.arrayLengthLimit := by rw [Launch.admits_arrayLengthLimit X.admits]; omega
  have hh2 : ¬ k.toNatClampNeg * 4 > e.platform.maxHeapBytes := by rw [Launch.admits_maxHeapBytes X.admits]; omega
  jvm_step X.here [hexec, hdg]
  simp only [multianewarray.sem, wp_bind', W.resolveClassAt_links (State.method?_setTop g X.here.top) hg₁]
  rw [W.popN, if_neg (by decide)]
  refine ⟨g, State.topJava?_setTop' (s := T.setVm vm₁) g X.here.top, [.int n, .int k], rest, rfl, hstack, ?_⟩
  simp only [List.mapM_cons, List.mapM_nil, wp_bind', wp_pure']
  refine mg_make2 hkA₁ hkindA₁ hkI₁ hkindI₁ hn hk hl1 hh1 hl2 hh2 (by show T.heap.size + 1 + _ ≤ _; omega) (by show T.slotsUsed + _ + _ ≤ _; omega) (fun d' acts' => ?_)
  have XF := mg_stand X₁ cA cI n.toNatClampNeg k.toNatClampNeg n.toNatClampNeg
  have eS : ((T.setTop g).setVm vm₁).setTop { g with stack := rest } = (T.setVm vm₁).setTop { g with stack := rest } := by
    show ((T.setVm vm₁).setTop g).setTop _ = _
    rw [State.setTop_setTop]
  rw [eS, mg_top]
  simp only [wp_bind', W.mark, W.pushRef, State.topJava?_setTop' _ XF.here.top, Option.some.injEq, exists_eq_left', State.setTop_setTop, State.heap_setTop]
  intro acts
  simp [jvm, XF.here.top]
  exact hrest
end MGS
end
section
/-! ===== the rule for new int[n][k] ===== -/
theorem am_nm1 : "[" ++ (FieldType.array .int).toString = "[[I" := by decide +kernel
theorem am_nm2 : "[" ++ FieldType.int.toString = (FieldType.array .int).toString := by decide +kernel
section AMG
variable {l : Launch} {D : va_G} {G : am_G} {B : Nat} {sp : Nat → Nat} {fz : Value} {Lx : Nat} {xs : Nat → Int32} {Q : am_Q} {shE : List am_E} {i pc : Nat} {L S : am_V} {sh : List am_E} {M : am_M} {N : am_N}
theorem am_D (h : sh.length ≤ 1000000) : va_D (am_A B) (am_ws G B sp sh M N) := by
  have key : ∀ (k : Nat) (q : Nat × va_E), (am_ws G B sp sh M N)[k]? = some q → k < sh.length ∧ q.1 = B + k := by
    intro k q hq
    have hk : k < sh.length := by
      have := (List.getElem?_eq_some_iff.mp hq).1
      simpa [am_ws] using this
    rw [am_ws_get (List.getElem?_eq_getElem hk)] at hq
    cases hq
    exact ⟨hk, am_ad_lo (by omega)⟩
  refine ⟨fun a b p q ha hb hab => ?_, fun k q hq => ?_⟩
  · have h1 := key a p ha
    have h2 := key b q hb
    omega
  · have h1 := key k q hq
    show B ≤ q.1
    omega
theorem am_sz_app (a b : List am_E) : am_sz (a ++ b) = am_sz a + am_sz b := by
  simp [am_sz]
theorem am_sz_rep (n k : Nat) : am_sz (List.replicate n (.inl (0, k))) = n * k := by
  simp [am_sz]
theorem sw_grid {idx n k : Nat} {x y : Int32} (hin : am_in i pc = some (.multianewarray idx 2, 4)) (hc : am_gg i idx = true) (hx0 : ¬ x < 0) (hy0 : ¬ y < 0) (hxn : x.toNatClampNeg = n) (hyn : y.toNatClampNeg = k) (hn : n ≤ 1000) (hk : k ≤ 1000) (hl : sh.length < 900000)
    (kk : am_SW l D G B sp fz Lx xs Q shE i (pc + 4) L (.ref sh.length :: S) (sh ++ (.inl (2, n) :: List.replicate n (.inl (0, k)))) (fun a => if sh.length ≤ a then fun _ => 0 else M a) N) : am_SW l D G B sp fz Lx xs Q shE i pc L (.int y :: .int x :: S) sh M N := by
  have k1 := kk.1
  have k2 := kk.2.1
  have hlen : (sh ++ (.inl (2, n) :: List.replicate n (.inl (0, k))) : List am_E).length = sh.length + 1 + n := by simp; omega
  have hsz0 : am_sz (sh ++ (.inl (2, n) :: List.replicate n (.inl (0, k)))) = am_sz sh + n + n * k := by
    rw [am_sz_app]
    have : am_sz (.inl (2, n) :: List.replicate n (.inl (0, k))) = n + n * k := by
      rw [← am_sz_rep]
      simp [am_sz]
    rw [this]
    omega
  rw [hlen] at k1
  rw [hsz0] at k2
  refine ⟨by omega, by omega, fun p e R s m args below meth c H locs ls cells slots C St => am_size fun hsz => ?_⟩
  have hC := id C
  obtain ⟨hx, hb, hml, hown, hts, hr, hlk, hnm, hK, hX, hB, hfr, hlo⟩ := C
  obtain ⟨a1, a2, a3, a4, a5, a6, a7, a8⟩ := St
  have hBH : B ≤ H.size := Nat.le_trans hB a5.1
  have hge := am_hsz a3 (by omega) hBH
  have hHs : H.size = B + sh.length := by omega
  obtain ⟨comp, cA, kA, g1, g2, g3, g4⟩ := hX.2.2.2.2.2.2.2.1
  have hG2 : cA = G.2.2 := Option.some.inj (g4.symm.trans (hK.2 2 _ rfl).2)
  have hG1 : comp = G.1 := by
    have h9 : s.vm.findClass ("[" ++ FieldType.int.toString) = some G.1 := (hK.2 0 _ rfl).2
    rw [am_nm2] at h9
    exact Option.some.inj (g1.symm.trans h9)
  subst hG2
  subst hG1
  rw [am_nm1] at g4
  obtain ⟨-, kI, hkI, cc, hkindI⟩ := (hK.2 0 _ rfl).1 0 (fun _ => .int 0)
  subst hxn
  subst hyn
  intro T hT X
  obtain ⟨vm₁, hw, X', st⟩ := mg_step X hx hown (hts _ (am_tbl_in (am_kgs (am_ow i) idx (by simpa [am_gg] using hc)) rfl)) g4 g2 g3 hkI hkindI (g := F0 m pc ls ((.int y :: .int x :: S).map (am_cv B sp fz))) rfl (by rw [hb]; exact am_in_dec hin) rfl hx0 hy0 (by omega) (by omega) (by omega) (by omega)
  have hTh : (T.setVm vm₁).heap = H := hT
  have hTs : T.heap.size = B + sh.length := by rw [hT, hHs]
  obtain ⟨f1, f2, -, -⟩ := mg_facts (T.setVm vm₁) G.2.2 G.1 x.toNatClampNeg y.toNatClampNeg x.toNatClampNeg
  have f3 : ∀ a, a < H.size → _ := fun a ha => mg_old (T.setVm vm₁) G.2.2 G.1 x.toNatClampNeg y.toNatClampNeg (a := a) (by rw [hTh]; exact ha) x.toNatClampNeg
  have f4 := mg_rows (T.setVm vm₁) G.2.2 G.1 x.toNatClampNeg y.toNatClampNeg x.toNatClampNeg
  rw [hTh] at f1 f2 f4
  generalize mg_st (T.setVm vm₁) G.2.2 G.1 x.toNatClampNeg y.toNatClampNeg x.toNatClampNeg = F at X' st f1 f2 f3 f4
  have hP1 : va_P D vwCl (am_ws G B sp (sh ++ (.inl (2, x.toNatClampNeg) :: List.replicate x.toNatClampNeg (.inl (0, y.toNatClampNeg)))) (fun a => if sh.length ≤ a then fun _ => 0 else M a) N) F.heap := by
    intro q w hq
    have hql : q < sh.length + 1 + x.toNatClampNeg := by
      have := (List.getElem?_eq_some_iff.mp hq).1
      rw [← hlen]
      simpa [am_ws] using this
    by_cases c1 : q < sh.length
    · have he : (sh ++ (.inl (2, x.toNatClampNeg) :: List.replicate x.toNatClampNeg (.inl (0, y.toNatClampNeg))) : List am_E)[q]? = some sh[q] := by rw [List.getElem?_append_left c1]; exact List.getElem?_eq_getElem c1
      rw [am_ws_get he] at hq
      cases hq
      have hold := a3 q _ (am_ws_get (List.getElem?_eq_getElem c1))
      rw [am_ce_eq (M := M) (N := N) (by simp [show ¬ sh.length ≤ q by omega]) rfl]
      exact hold.kept (by rw [f3 _ hold.lt, hTh])
    · by_cases c2 : q = sh.length
      · subst c2
        have he : (sh ++ (.inl (2, x.toNatClampNeg) :: List.replicate x.toNatClampNeg (.inl (0, y.toNatClampNeg))) : List am_E)[sh.length]? = some (.inl (2, x.toNatClampNeg)) := by simp
        rw [am_ws_get he] at hq
        cases hq
        show F.heap[am_ad B sp sh.length]? = some (vp_cell G.2.2 (x.toNatClampNeg, .inr (.inr (.inr (.inr (fun j => some (am_ad B sp (sh.length + 1 + j))))))))
        rw [am_ad_lo (by omega), ← hHs, f2, vp_cell_q]
        unfold mg_out arrV
        congr 1
        congr 1
        apply Array.ext
        · simp
        · intro j h1 h2
          have h3 : j < x.toNatClampNeg := by simpa using h1
          have h4 : am_ad B sp (sh.length + 1 + j) = H.size + 1 + j := by rw [am_ad_lo (by omega)]; omega
          simp only [Array.getElem_ofFn, h3, if_true, va_rf, h4]
      · obtain ⟨j, rfl⟩ : ∃ j, q = sh.length + 1 + j := ⟨q - sh.length - 1, by omega⟩
        have hj : j < x.toNatClampNeg := by omega
        have he : (sh ++ (.inl (2, x.toNatClampNeg) :: List.replicate x.toNatClampNeg (.inl (0, y.toNatClampNeg))) : List am_E)[sh.length + 1 + j]? = some (.inl (0, y.toNatClampNeg)) := by
          rw [List.getElem?_append_right (by omega), show sh.length + 1 + j - sh.length = j + 1 by omega, List.getElem?_cons_succ, List.getElem?_replicate, if_pos hj]
        rw [am_ws_get he] at hq
        cases hq
        show F.heap[am_ad B sp (sh.length + 1 + j)]? = some (vp_cell G.1 (y.toNatClampNeg, .inl (if sh.length ≤ sh.length + 1 + j then fun _ => 0 else M (sh.length + 1 + j))))
        rw [am_ad_lo (by omega), show B + (sh.length + 1 + j) = H.size + 1 + j by omega, f4 j hj, vp_cell_i, if_pos (by omega)]
        rfl
  have hS1 : va_S (am_A B) s.heap F.heap (locs ++ (List.range x.toNatClampNeg).map fun j => (⟨T.heap.size, j⟩ : Loc)) := by
    refine ⟨Nat.le_trans a5.1 (by omega), fun q h1 h2 => ?_, fun q hq => ?_⟩
    · rw [f3 q (Nat.lt_of_lt_of_le h1 a5.1), hTh]
      exact a5.2.1 q h1 h2
    · rcases List.mem_append.mp hq with h | h
      · exact a5.2.2 q h
      · obtain ⟨j, -, rfl⟩ := List.mem_map.mp h
        show B ≤ T.heap.size
        omega
  have hk := kk.2.2 p e R s m args below meth c F.heap _ ls (cells + 1 + x.toNatClampNeg) (slots + x.toNatClampNeg + x.toNatClampNeg * y.toNatClampNeg) hC ⟨by rw [hlen]; omega, by rw [hsz0]; omega, hP1, am_D (by rw [hlen]; omega), hS1, by rw [hlen]; omega, a7, a8⟩ F rfl X'
  obtain ⟨t, b1, b2⟩ := hk
  refine ⟨t, st t ?_, b2⟩
  rw [List.map_cons, show am_cv B sp fz (.ref sh.length) = .ref T.heap.size by show Value.ref (am_ad B sp _) = _; rw [am_ad_lo (by omega), hTs]] at b1
  exact b1
end AMG
end
section
/-! ===== the cells once both objects are made; the judgement over them ===== -/
def am_SH : List am_E := [.inr (10, [some 1, some 18, some 26, some 32, some 40, some 46, some 52, some 59, some 77, some 110, some 112, none]), .inr (8, [some 2, some 8, some 9, some 10, some 11, some 12, some 13, some 14, some 15, some 16, some 17, none]), .inl (2, 5), .inl (0, 60), .inl (0, 60), .inl (0, 60), .inl (0, 60), .inl (0, 60), .inl (0, 36), .inl (0, 36), .inl (0, 36), .inl (0, 36), .inl (0, 12), .inl (0, 12), .inl (1, 48), .inl (0, 48), .inl (0, 48), .inl (0, 3), .inr (0, [some 19, some 20, some 21, some 22, some 23, some 24, some 25, none]), .inl (0, 5), .inl (0, 5), .inl (0, 5), .inl (0, 5), .inl (0, 5), .inl (0, 5), .inl (0, 5), .inr (5, [some 27, some 28, some 29, some 30, some 31, none]), .inl (0, 6), .inl (0, 6), .inl (0, 6), .inl (0, 6), .inl (0, 6), .inr (2, [some 33, some 34, some 35, some 36, some 37, some 38, some 39, none]), .inl (0, 16), .inl (0, 16), .inl (0, 16), .inl (0, 16), .inl (0, 16), .inl (0, 16), .inl (1, 16), .inr (1, [some 1, some 41, some 42, some 43, some 44, some 45, none, none, none, none, none, none, none, none, none]), .inl (0, 60), .inl (0, 60), .inl (0, 60), .inl (0, 720), .inl (0, 3), .inr (1, [some 1, some 47, some 48, some 49, some 50, some 51, none, none, none, none, none, none, none, none, none]), .inl (0, 60), .inl (0, 60), .inl (0, 60), .inl (0, 720), .inl (0, 3), .inr (4, [some 1, some 18, some 40, some 53, none]), .inl (2, 5), .inl (0, 720), .inl (0, 720), .inl (0, 720), .inl (0, 720), .inl (0, 720), .inr (7, [some 18, some 26, some 32, some 52, some 60]), .inl (2, 16), .inl (0, 5), .inl (0, 5), .inl (0, 5), .inl (0, 5), .inl (0, 5), .inl (0, 5), .inl (0, 5), .inl (0, 5), .inl (0, 5), .inl (0, 5), .inl (0, 5), .inl (0, 5), .inl (0, 5), .inl (0, 5), .inl (0, 5), .inl (0, 5), .inr (3, [some 1, some 18, some 26, some 32, some 52, some 59, some 40, some 78, some 79, some 107, some 108, some 109]), .inl (0, 3), .inl (2, 27), .inl (0, 30), .inl (0, 30), .inl (0, 30), .inl (0, 30), .inl (0, 30), .inl (0, 30), .inl (0, 30), .inl (0, 30), .inl (0, 30), .inl (0, 30), .inl (0, 30), .inl (0, 30), .inl (0, 30), .inl (0, 30), .inl (0, 30), .inl (0, 30), .inl (0, 30), .inl (0, 30), .inl (0, 30), .inl (0, 30), .inl (0, 30), .inl (0, 30), .inl (0, 30), .inl (0, 30), .inl (0, 30), .inl (0, 30), .inl (0, 30), .inl (0, 27), .inl (0, 30), .inl (0, 60), .inr (9, [some 111, none, none]), .inl (0, 120), .inr (6, [some 113, some 114, some 115, some 116, some 117, some 118, some 119, none]), .inl (0, 8), .inl (0, 8), .inl (1, 24), .inl (0, 24), .inl (0, 24), .inl (0, 24), .inl (0, 5), .inr (11, [some 121, some 122, some 123, some 124, some 125, some 126, some 127, some 128, some 129, some 130, some 131, some 132, some 133, some 134, some 135, some 136, some 137, some 138, some 139, some 140, some 141, some 142, none, some 143, some 144, some 145, some 146, none, none, none, some 147, some 148, some 149, some 150, some 151, some 152, some 153, some 154, some 155, some 156, some 157, some 158, some 159, none, none, none, some 160, some 161, some 162, none, some 163, some 164, some 165, some 166, some 167, none, none, none, none]), .inl (0, 60), .inl (0, 60), .inl (0, 60), .inl (0, 60), .inl (0, 60), .inl (0, 36), .inl (0, 36), .inl (0, 36), .inl (0, 36), .inl (0, 3), .inl (0, 12), .inl (0, 12), .inl (0, 48), .inl (0, 48), .inl (1, 48), .inl (0, 5), .inl (0, 5), .inl (0, 5), .inl (0, 5), .inl (0, 5), .inl (0, 5), .inl (0, 5), .inl (0, 60), .inl (0, 60), .inl (0, 60), .inl (0, 720), .inl (1, 60), .inl (0, 6), .inl (0, 6), .inl (0, 6), .inl (0, 6), .inl (0, 6), .inl (0, 16), .inl (0, 16), .inl (0, 16), .inl (0, 16), .inl (0, 16), .inl (0, 16), .inl (1, 16), .inl (0, 16), .inl (0, 3), .inl (0, 3), .inl (0, 60), .inl (0, 120), .inl (0, 8), .inl (0, 8), .inl (0, 96)]
abbrev am_X : Type := Launch × va_G × am_G × Nat × (Nat → Nat) × Value × Nat × (Nat → Int32)
def am_J (X : am_X) (Q : am_Q) (i pc : Nat) (L S : am_V) (M : am_M) (N : am_N) : Prop := am_SW X.1 X.2.1 X.2.2.1 X.2.2.2.1 X.2.2.2.2.1 X.2.2.2.2.2.1 X.2.2.2.2.2.2.1 X.2.2.2.2.2.2.2 Q am_SH i pc L S am_SH M N
def am_eq (v : Option Value) (M : am_M) (N : am_N) : am_Q := fun r M1 N1 => r = v ∧ M1 = M ∧ N1 = N
def am_gf (i idx k : Nat) (M : am_M) (N : am_N) : Option Value := match am_fl i idx with
  | some (ci, j) => match am_SH[k]? with
    | some (.inr (ci2, rs)) => if ci2 = ci then am_rd M N k ci j rs else none
    | _ => none
  | none => none
/-- one instruction that neither writes a cell, nor calls, nor parts the ways -/
def am_one (t : List (Nat × Instr × Nat)) (i pc : Nat) (L S : am_V) (M : am_M) (N : am_N) : Option (Nat × am_V × am_V) := match t.lookup pc with
  | none => none
  | some (ins, n) => match ins with
    | .goto off => if n = 3 then (if (0 : Int) ≤ (pc : Int) + off then some (((pc : Int) + off).toNat, L, S) else none) else none
    | .getfield idx => if n = 3 then (match S with
      | .ref k :: T => (match am_gf i idx k M N with
        | some v => some (pc + 3, L, v :: T)
        | none => none)
      | _ => none) else none
    | .ldc idx => if n = 2 then (match am_ki i idx with
      | some v => some (pc + 2, L, .int v :: S)
      | none => none) else none
    | .ldc_w idx => if n = 3 then (match am_ki i idx with
      | some v => some (pc + 3, L, .int v :: S)
      | none => none) else none
    | .ldc2_w idx => if n = 3 then (match am_kl i idx with
      | some v => some (pc + 3, L, .long v :: S)
      | none => none) else none
    | ins => if n = am_ln ins then (match am_q ins L S with
      | some (L2, S2) => some (pc + n, L2, S2)
      | none => none) else none
def am_b : Nat → List (Nat × Instr × Nat) → Nat → Nat → am_V → am_V → am_M → am_N → Option (Nat × am_V × am_V)
  | 0, _, _, pc, L, S, _, _ => some (pc, L, S)
  | n + 1, t, i, pc, L, S, M, N => match am_one t i pc L S M N with
    | some (pc2, L2, S2) => am_b n t i pc2 L2 S2 M N
    | none => none
section AMJ
variable {X : am_X} {Q Q1 : am_Q} {i pc : Nat} {L S : am_V} {M : am_M} {N : am_N}
theorem J_gf {idx k : Nat} {v : Value} (d : am_in i pc = some (.getfield idx, 3)) (h : am_gf i idx k M N = some v) (kk : am_J X Q i (pc + 3) L (v :: S) M N) : am_J X Q i pc L (.ref k :: S) M N := by
  unfold am_gf at h
  split at h
  · rename_i ci j hf
    split at h
    · rename_i ci2 rs hk
      split at h
      · rename_i e
        subst e
        exact sw_getf d hf hk h kk
      · cases h
    · cases h
  · cases h
theorem J_s1 {t : List (Nat × Instr × Nat)} (ht : ∀ {pc : Nat} {x : Instr × Nat}, t.lookup pc = some x → am_in i pc = some x) {pc2 : Nat} {L2 S2 : am_V} (h : am_one t i pc L S M N = some (pc2, L2, S2)) (kk : am_J X Q i pc2 L2 S2 M N) : am_J X Q i pc L S M N := by
  unfold am_one at h
  split at h
  · cases h
  · rename_i ins n hl
    have d := ht hl
    split at h
    · split at h
      · rename_i off hn
        subst hn
        split at h
        · rename_i h0
          cases h
          exact sw_goto _ d (by omega) kk
        · cases h
      · cases h
    · split at h
      · rename_i idx hn
        subst hn
        split at h
        · split at h
          · rename_i v hv
            cases h
            exact J_gf d hv kk
          · cases h
        · cases h
      · cases h
    · split at h
      · rename_i idx hn
        subst hn
        split at h
        · rename_i v hv
          cases h
          exact sw_ldc d hv kk
        · cases h
      · cases h
    · split at h
      · rename_i idx hn
        subst hn
        split at h
        · rename_i v hv
          cases h
          exact sw_ldcw d hv kk
        · cases h
      · cases h
    · split at h
      · rename_i idx hn
        subst hn
        split at h
        · rename_i v hv
          cases h
          exact sw_ldc2 d hv kk
        · cases h
      · cases h
    · split at h
      · rename_i hn
        subst hn
        split at h
        · rename_i hq
          cases h
          exact sw_q d hq kk
        · cases h
      · cases h
theorem J_b {t : List (Nat × Instr × Nat)} (n : Nat) (ht : ∀ {pc : Nat} {x : Instr × Nat}, t.lookup pc = some x → am_in i pc = some x) {pc2 : Nat} {L2 S2 : am_V} (h : am_b n t i pc L S M N = some (pc2, L2, S2)) (kk : am_J X Q i pc2 L2 S2 M N) : am_J X Q i pc L S M N := by
  induction n generalizing pc L S with
  | zero =>
    cases h
    exact kk
  | succ n ih =>
    unfold am_b at h
    split at h
    · rename_i h1
      exact J_s1 ht h1 (ih h)
    · cases h
theorem J_fg (j : Nat) (k : am_J X Q i pc (L.set j (.retAddr 0)) S M N) : am_J X Q i pc L S M N := sw_fg j k
theorem J_if_eq {x : Int32} {off : Int} (tgt : Nat) (d : am_in i pc = some (.ifCond .eq off, 3)) (ht : (pc : Int) + off = (tgt : Int)) (kt : x = 0 → am_J X Q i tgt L S M N) (kf : ¬ x = 0 → am_J X Q i (pc + 3) L S M N) : am_J X Q i pc L (.int x :: S) M N := sw_if_eq tgt d ht kt kf
theorem J_icmp_eq {x y : Int32} {off : Int} (tgt : Nat) (d : am_in i pc = some (.if_icmp .eq off, 3)) (ht : (pc : Int) + off = (tgt : Int)) (kt : x = y → am_J X Q i tgt L S M N) (kf : ¬ x = y → am_J X Q i (pc + 3) L S M N) : am_J X Q i pc L (.int y :: .int x :: S) M N := sw_icmp_eq tgt d ht kt kf
theorem J_if_ne {x : Int32} {off : Int} (tgt : Nat) (d : am_in i pc = some (.ifCond .ne off, 3)) (ht : (pc : Int) + off = (tgt : Int)) (kt : ¬ x = 0 → am_J X Q i tgt L S M N) (kf : x = 0 → am_J X Q i (pc + 3) L S M N) : am_J X Q i pc L (.int x :: S) M N := sw_if_ne tgt d ht kt kf
theorem J_icmp_ne {x y : Int32} {off : Int} (tgt : Nat) (d : am_in i pc = some (.if_icmp .ne off, 3)) (ht : (pc : Int) + off = (tgt : Int)) (kt : ¬ x = y → am_J X Q i tgt L S M N) (kf : x = y → am_J X Q i (pc + 3) L S M N) : am_J X Q i pc L (.int y :: .int x :: S) M N := sw_icmp_ne tgt d ht kt kf
theorem J_if_lt {x : Int32} {off : Int} (tgt : Nat) (d : am_in i pc = some (.ifCond .lt off, 3)) (ht : (pc : Int) + off = (tgt : Int)) (kt : x < 0 → am_J X Q i tgt L S M N) (kf : ¬ x < 0 → am_J X Q i (pc + 3) L S M N) : am_J X Q i pc L (.int x :: S) M N := sw_if_lt tgt d ht kt kf
theorem J_icmp_lt {x y : Int32} {off : Int} (tgt : Nat) (d : am_in i pc = some (.if_icmp .lt off, 3)) (ht : (pc : Int) + off = (tgt : Int)) (kt : x < y → am_J X Q i tgt L S M N) (kf : ¬ x < y → am_J X Q i (pc + 3) L S M N) : am_J X Q i pc L (.int y :: .int x :: S) M N := sw_icmp_lt tgt d ht kt kf
theorem J_if_ge {x : Int32} {off : Int} (tgt : Nat) (d : am_in i pc = some (.ifCond .ge off, 3)) (ht : (pc : Int) + off = (tgt : Int)) (kt : 0 ≤ x → am_J X Q i tgt L S M N) (kf : ¬ 0 ≤ x → am_J X Q i (pc + 3) L S M N) : am_J X Q i pc L (.int x :: S) M N := sw_if_ge tgt d ht kt kf
theorem J_icmp_ge {x y : Int32} {off : Int} (tgt : Nat) (d : am_in i pc = some (.if_icmp .ge off, 3)) (ht : (pc : Int) + off = (tgt : Int)) (kt : y ≤ x → am_J X Q i tgt L S M N) (kf : ¬ y ≤ x → am_J X Q i (pc + 3) L S M N) : am_J X Q i pc L (.int y :: .int x :: S) M N := sw_icmp_ge tgt d ht kt kf
theorem J_if_gt {x : Int32} {off : Int} (tgt : Nat) (d : am_in i pc = some (.ifCond .gt off, 3)) (ht : (pc : Int) + off = (tgt : Int)) (kt : 0 < x → am_J X Q i tgt L S M N) (kf : ¬ 0 < x → am_J X Q i (pc + 3) L S M N) : am_J X Q i pc L (.int x :: S) M N := sw_if_gt tgt d ht kt kf
theorem J_icmp_gt {x y : Int32} {off : Int} (tgt : Nat) (d : am_in i pc = some (.if_icmp .gt off, 3)) (ht : (pc : Int) + off = (tgt : Int)) (kt : y < x → am_J X Q i tgt L S M N) (kf : ¬ y < x → am_J X Q i (pc + 3) L S M N) : am_J X Q i pc L (.int y :: .int x :: S) M N := sw_icmp_gt tgt d ht kt kf
theorem J_if_le {x : Int32} {off : Int} (tgt : Nat) (d : am_in i pc = some (.ifCond .le off, 3)) (ht : (pc : Int) + off = (tgt : Int)) (kt : x ≤ 0 → am_J X Q i tgt L S M N) (kf : ¬ x ≤ 0 → am_J X Q i (pc + 3) L S M N) : am_J X Q i pc L (.int x :: S) M N := sw_if_le tgt d ht kt kf
theorem J_icmp_le {x y : Int32} {off : Int} (tgt : Nat) (d : am_in i pc = some (.if_icmp .le off, 3)) (ht : (pc : Int) + off = (tgt : Int)) (kt : x ≤ y → am_J X Q i tgt L S M N) (kf : ¬ x ≤ y → am_J X Q i (pc + 3) L S M N) : am_J X Q i pc L (.int y :: .int x :: S) M N := sw_icmp_le tgt d ht kt kf
theorem J_tsIn {dflt lo hi : Int} {offs : Array Int} {len : Nat} {x : Int32} {off : Int} (tgt : Nat) (d : am_in i pc = some (.tableswitch dflt lo hi offs, len)) (h1 : ¬ x.toInt < lo) (h2 : ¬ hi < x.toInt) (ho : offs[(x.toInt - lo).toNat]? = some off) (ht : (pc : Int) + off = (tgt : Int)) (k : am_J X Q i tgt L S M N) : am_J X Q i pc L (.int x :: S) M N := sw_tsIn tgt d h1 h2 ho ht k
theorem J_tsOut {dflt lo hi : Int} {offs : Array Int} {len : Nat} {x : Int32} (tgt : Nat) (d : am_in i pc = some (.tableswitch dflt lo hi offs, len)) (h : x.toInt < lo ∨ hi < x.toInt) (ht : (pc : Int) + dflt = (tgt : Int)) (k : am_J X Q i tgt L S M N) : am_J X Q i pc L (.int x :: S) M N := sw_tsOut tgt d h ht k
theorem J_ls {dflt : Int} {ps : Array (Int × Int)} {len : Nat} {x : Int32} {off : Int} (tgt : Nat) (d : am_in i pc = some (.lookupswitch dflt ps, len)) (hp : (ps.toList.zip (ps.toList.drop 1)).all (fun (a, next) => a.1 < next.1) = true) (ho : Op.lookupswitch.offset ps.toList dflt x.toInt = off) (ht : (pc : Int) + off = (tgt : Int)) (k : am_J X Q i tgt L S M N) : am_J X Q i pc L (.int x :: S) M N := sw_ls tgt d hp ho ht k
theorem J_ret (d : am_in i pc = some (.return_, 1)) (hr : am_rt i = none) (hq : Q none M N) : am_J X Q i pc L [] M N := sw_ret d hr hq
theorem J_iret {v : Int32} {ty : FieldType} (d : am_in i pc = some (.ireturn, 1)) (hr : am_rt i = some ty) (hn : narrow ty (.int v) = .int v) (hq : Q (some (.int v)) M N) : am_J X Q i pc L [.int v] M N := sw_iret d hr hn hq
theorem J_lret {v : Int64} (d : am_in i pc = some (.lreturn, 1)) (hr : am_rt i = some .long) (hq : Q (some (.long v)) M N) : am_J X Q i pc L [.long v] M N := sw_lret d hr hq
theorem J_iald {k n : Nat} {x : Int32} (d : am_in i pc = some (.iaload, 1)) (hk : am_SH[k]? = some (.inl (0, n))) (hi : vp_in x n) (kk : am_J X Q i (pc + 1) L (.int (M k x.toNatClampNeg) :: S) M N) : am_J X Q i pc L (.int x :: .ref k :: S) M N := sw_iald d hk hi kk
theorem J_zald {k n : Nat} {x : Int32} (d : am_in i pc = some (.baload, 1)) (hk : am_SH[k]? = some (.inl (1, n))) (hi : vp_in x n) (kk : am_J X Q i (pc + 1) L (.int (M k x.toNatClampNeg) :: S) M N) : am_J X Q i pc L (.int x :: .ref k :: S) M N := sw_zald d hk hi kk
theorem J_iast {k n : Nat} {x y : Int32} (d : am_in i pc = some (.iastore, 1)) (hk : am_SH[k]? = some (.inl (0, n))) (hi : vp_in x n) (kk : am_J X Q i (pc + 1) L S (am_up M k x.toNatClampNeg y) N) : am_J X Q i pc L (.int y :: .int x :: .ref k :: S) M N := sw_iast d hk hi kk
theorem J_zast {k n : Nat} {x y : Int32} (d : am_in i pc = some (.bastore, 1)) (hk : am_SH[k]? = some (.inl (1, n))) (hi : vp_in x n) (kk : am_J X Q i (pc + 1) L S (am_up M k x.toNatClampNeg (vp_nar .boolean y)) N) : am_J X Q i pc L (.int y :: .int x :: .ref k :: S) M N := sw_zast d hk hi kk
theorem J_aald {k n : Nat} {x : Int32} (d : am_in i pc = some (.aaload, 1)) (hk : am_SH[k]? = some (.inl (2, n))) (hi : vp_in x n) (kk : am_J X Q i (pc + 1) L (.ref (k + 1 + x.toNatClampNeg) :: S) M N) : am_J X Q i pc L (.int x :: .ref k :: S) M N := sw_aald d hk hi kk
theorem J_alen {k t n : Nat} (d : am_in i pc = some (.arraylength, 1)) (hk : am_SH[k]? = some (.inl (t, n))) (kk : am_J X Q i (pc + 1) L (.int (Int32.ofNat n) :: S) M N) : am_J X Q i pc L (.ref k :: S) M N := sw_alen d hk kk
def am_pf (i idx k : Nat) : Option (Nat × Bool) := match am_fl i idx with
  | some (ci, j) => match am_SH[k]? with
    | some (.inr (ci2, _)) => if ci2 = ci then (if (am_Tf ci j).2.2.2 then none else (match am_tf ci j with
      | .int => some (j, true)
      | .long => some (j, false)
      | _ => none)) else none
    | _ => none
  | none => none
theorem J_puti {idx k j : Nat} {x : Int32} (d : am_in i pc = some (.putfield idx, 3)) (h : am_pf i idx k = some (j, true)) (kk : am_J X Q i (pc + 3) L S (am_up M k j x) N) : am_J X Q i pc L (.int x :: .ref k :: S) M N := by
  unfold am_pf at h
  split at h
  · rename_i ci j2 hf
    split at h
    · rename_i ci2 rs hk
      split at h
      · rename_i e
        subst e
        split at h
        · cases h
        · rename_i hfin
          split at h
          · rename_i ht
            cases h
            exact sw_puti d hf hk ht (by simpa using hfin) kk
          · cases h
          · cases h
      · cases h
    · cases h
  · cases h
theorem J_putl {idx k j : Nat} {x : Int64} (d : am_in i pc = some (.putfield idx, 3)) (h : am_pf i idx k = some (j, false)) (kk : am_J X Q i (pc + 3) L S M (am_upL N k j x)) : am_J X Q i pc L (.long x :: .ref k :: S) M N := by
  unfold am_pf at h
  split at h
  · rename_i ci j2 hf
    split at h
    · rename_i ci2 rs hk
      split at h
      · rename_i e
        subst e
        split at h
        · cases h
        · rename_i hfin
          split at h
          · cases h
          · rename_i ht
            cases h
            exact sw_putl d hf hk ht (by simpa using hfin) kk
          · cases h
      · cases h
    · cases h
  · cases h
/-! calls: what a program decides of them -/
def am_ckr (i j : Nat) (As S0 : am_V) : Bool := decide (As.length = am_na j + (if am_sta.contains j then 0 else 1)) && (decide ((am_ent As).length ≤ am_mx j) && (decide (am_fr j + 1 ≤ am_fr i) && (decide (8 + (am_mx j + 11) + am_lo j ≤ am_lo i) && (decide ((S0.map fun v => v.category).sum ≤ 8) && am_ini.contains (am_ow j)))))
theorem am_ckr_ok {i j : Nat} {As S0 : am_V} (h : am_ckr i j As S0 = true) : am_cok i j As S0 := by
  unfold am_ckr at h
  simp only [Bool.and_eq_true, decide_eq_true_eq] at h
  exact h
def am_ckS (i idx j : Nat) (S : am_V) : Bool := (match am_cl i idx with
  | some (j2, _) => j2 == j
  | none => false) && (am_sta.contains j && (am_ckr i j (S.take (am_na j)).reverse (S.drop (am_na j)) && decide (am_ow i < 19)))
theorem am_split (S : am_V) (n : Nat) : S = ((S.take n).reverse).reverse ++ S.drop n := by rw [List.reverse_reverse, List.take_append_drop]
theorem J_S {idx : Nat} (j : Nat) (d : am_in i pc = some (.invokestatic idx, 3)) (hc : am_ckS i idx j S = true) (k1 : am_J X Q1 j 0 (am_en j (S.take (am_na j)).reverse) [] M N) (k2 : ∀ (r : Option Value) (M1 : am_M) (N1 : am_N), Q1 r M1 N1 → am_J X Q i (pc + 3) L (r.toList ++ S.drop (am_na j)) M1 N1) : am_J X Q i pc L S M N := by
  unfold am_ckS at hc
  simp only [Bool.and_eq_true, decide_eq_true_eq] at hc
  obtain ⟨h1, h2, h3, h4⟩ := hc
  split at h1
  · rename_i j2 b hl
    have e : j2 = j := by simpa using h1
    subst e
    cases b with
    | false => exact sw_callS d hl h2 (am_split S _) (am_ckr_ok h3) ⟨Nat.le_refl _, Nat.le_refl _⟩ k1 k2
    | true => exact sw_callSN h4 d hl h2 (am_split S _) (am_ckr_ok h3) ⟨Nat.le_refl _, Nat.le_refl _⟩ k1 k2
  · cases h1
def am_ckV (i idx j : Nat) (S : am_V) : Bool := (match am_cl i idx with
  | some (j2, false) => j2 == j
  | _ => false) && ((am_sta.contains j == false) && (am_ins.contains j && (am_sel.contains j && (am_ckr i j (S.take (am_na j + 1)).reverse (S.drop (am_na j + 1)) && ((match (S.take (am_na j + 1)).reverse with
    | .ref b :: _ => (match am_SH[b]? with
      | some (.inr (ci, _)) => (ci == am_ow j) && decide (am_ow j < 12)
      | _ => false)
    | _ => false))))))
theorem J_V {idx : Nat} (j : Nat) (d : am_in i pc = some (.invokevirtual idx, 3)) (hc : am_ckV i idx j S = true) (k1 : am_J X Q1 j 0 (am_en j (S.take (am_na j + 1)).reverse) [] M N) (k2 : ∀ (r : Option Value) (M1 : am_M) (N1 : am_N), Q1 r M1 N1 → am_J X Q i (pc + 3) L (r.toList ++ S.drop (am_na j + 1)) M1 N1) : am_J X Q i pc L S M N := by
  unfold am_ckV at hc
  simp only [Bool.and_eq_true, decide_eq_true_eq] at hc
  obtain ⟨h1, h2, h3, h4, h5, h6⟩ := hc
  have h2' : am_sta.contains j = false := by simpa using h2
  split at h1
  · rename_i j2 hl
    have e : j2 = j := by simpa using h1
    subst e
    have hS := am_split S (am_na j2 + 1)
    generalize (S.take (am_na j2 + 1)).reverse = As at hS h5 h6 k1
    split at h6
    · rename_i b As2
      split at h6
      · rename_i ci rs hk
        simp only [Bool.and_eq_true, decide_eq_true_eq, beq_iff_eq] at h6
        obtain ⟨rfl, h7⟩ := h6
        rw [List.reverse_cons, List.append_assoc] at hS
        exact sw_callV d hl h2' h3 h4 hS hk h7 (am_ckr_ok h5) ⟨Nat.le_refl _, Nat.le_refl _⟩ k1 k2
      · cases h6
    · cases h6
  · cases h1
/-- a call whose answer and whose cells behind it are known -/
theorem J_Sf {idx : Nat} {v : Option Value} {M1 : am_M} {N1 : am_N} (j : Nat) (d : am_in i pc = some (.invokestatic idx, 3)) (hc : am_ckS i idx j S = true) (k1 : am_J X (am_eq v M1 N1) j 0 (am_en j (S.take (am_na j)).reverse) [] M N) (k2 : am_J X Q i (pc + 3) L (v.toList ++ S.drop (am_na j)) M1 N1) : am_J X Q i pc L S M N := J_S j d hc k1 (fun r M2 N2 h => by obtain ⟨rfl, rfl, rfl⟩ := h; exact k2)
theorem J_Vf {idx : Nat} {v : Option Value} {M1 : am_M} {N1 : am_N} (j : Nat) (d : am_in i pc = some (.invokevirtual idx, 3)) (hc : am_ckV i idx j S = true) (k1 : am_J X (am_eq v M1 N1) j 0 (am_en j (S.take (am_na j + 1)).reverse) [] M N) (k2 : am_J X Q i (pc + 3) L (v.toList ++ S.drop (am_na j + 1)) M1 N1) : am_J X Q i pc L S M N := J_V j d hc k1 (fun r M2 N2 h => by obtain ⟨rfl, rfl, rfl⟩ := h; exact k2)
theorem J_copy {k0 k1 n0 n1 idx : Nat} {sx dx nx : Int32} (d : am_in i pc = some (.invokestatic idx, 3)) (hc : (am_ac i idx && (decide (1 ≤ am_fr i) && decide ((S.map fun v => v.category).sum + 18 ≤ am_lo i))) = true) (hk0 : am_SH[k0]? = some (.inl (0, n0))) (hk1 : am_SH[k1]? = some (.inl (0, n1))) (h1 : ¬ sx < 0) (h2 : ¬ dx < 0) (h3 : ¬ nx < 0) (h4 : sx.toNatClampNeg + nx.toNatClampNeg ≤ n0) (h5 : dx.toNatClampNeg + nx.toNatClampNeg ≤ n1) (kk : am_J X Q i (pc + 3) L S (am_upR M k1 (va_cpy (M k0) (M k1) sx.toNatClampNeg dx.toNatClampNeg nx.toNatClampNeg)) N) : am_J X Q i pc L (.int nx :: .int dx :: .ref k1 :: .int sx :: .ref k0 :: S) M N := by
  simp only [Bool.and_eq_true, decide_eq_true_eq] at hc
  exact sw_copy d hc.1 hk0 hk1 h1 h2 h3 h4 h5 hc.2.1 hc.2.2 kk
end AMJ
end
section
def am_cdl : List ByteArray := [cX10_init, cX8_init, cX0_init, cX5_init, cX2_init, cX1_init, cX4_init, cX7_init, cX3_init, cX9_init, cX6_init, cX10_paint, cX10_isCell, cX10_isIndex, cX10_isWithin, cX8_putMarks, cX10_placeOf, cX10_cell, cX10_current, cX10_isSpan, cX8_putCurrent, cX10_wind, cX10_isStrength, cX8_putWind, cX10_storm, cX8_putRow, cX10_calm, cX10_cast, cX10_areNumbers, cX10_isMore, cX8_isWater, cX0_hasNumbers, cX0_add, cX7_matchCast, cX7_countCards, cX7_agrees, cX10_digitOf, cX10_about, cX10_parts, cX1_startCast, cX1_start, cJ7_fill_53178, cX1_goOn, cX1_sinkAll, cX1_sumOf, cX1_goInWater, cX8_eastWindIn, cX1_asItFloats, cX8_northWindIn, cX8_isIcy, cX1_goFrom, cX1_send, cJ9_abs_0f7a4, cJ6_signum_0f7a4, cX1_beWalked, cX1_allParts, cX10_partsAt, cX1_partsIn, cX1_foundIn, cX10_apart, cX1_meets, cX10_name, cX5_add, cX10_find, cX10_isRow, cX2_add, cX7_matchFind, cX10_clock, cX10_drop, cX10_weight, cX4_refresh, cX7_weightOf, cX5_foundWithin, cJ9_max_7cf53, cX10_judge, cX7_verdictOf, cX10_best, cX7_bestOf, cX10_cards, cX7_cardsOf, cX10_twin, cX2_twinOf, cX2_isAllRead, cX10_got, cX10_isTime, cX7_castGot, cX10_move, cX10_fit, cX3_refreshAll, cX3_countGot, cX3_slotOf, cX3_refreshOne, cX10_shiftIn, cX3_leastMissed, cX3_missedWith, cX10_misfit, cX10_misses, cX3_shiftsTold, cX10_doubt, cX3_turnsOf, cX10_tells, cX3_tryDrift, cX3_keepFound, cX3_offFromKept, cX10_feed, cX9_append, cX10_prize, cX6_readFrom, cX9_takeWord, cJ0_length_8abf5, cJ0_coder_7d493, cJ0_charAt_5068e, cJ0_isLatin1_aae02, cJ1_charAt_3b067, cJ0_checkIndex_df160, cJ3_checkIndex_8e157, cX9_take, cX9_isAt, cX9_takeNumber, cX9_isAtEnd, cX6_readTest, cX6_readField, cX6_readSign, cX9_empty, cX6_keepRead, cX10_pays, cX10_payOf, cX5_stepsFrom, cX5_stepsInto, cX6_worthOfFacts, cX6_holds, cX6_isTrue, cX10_purse, cX10_letters, cX10_count, cX0_allCards, cX2_allOut, cX11_init, cX11_paint, cX11_isCell, cX11_isIn, cX11_greatest, cX11_told, cX11_tells, cX11_cell, cX11_current, cX11_isSpan, cX11_wind, cX11_storm, cX11_calm, cX11_cast, cX11_about, cX11_isCast, cX11_parts, cX11_driftOf, cX11_drift, cX11_drifts, cX11_floats, cX11_goes, cX11_sumOf, cX11_partsAt, cX11_apart, cX11_name, cX11_find, cX11_isName, cX11_isRow, cX11_clock, cX11_drop, cX11_isFind, cX11_weight, cX11_weightOf, cX11_cardsOf, cX11_foundIn, cX11_judge, cX11_judged, cX11_best, cX11_bestOf, cX11_cards, cX11_twin, cX11_twinOf, cX11_isKnown, cX11_got, cX11_findSure, cX11_gotBy, cX11_move, cX11_fit, cX11_fits, cX11_missed, cX11_misfit, cX11_misses, cX11_doubt, cX11_tells_, cX11_foundAll, cX11_feed, cX11_prize, cX11_parses, cX11_word, cX11_signOf, cX11_sign, cX11_takes, cX11_number, cX11_isDigit, cX11_test, cX11_pays, cX11_paid, cX11_field, cX11_beyond, cX11_purse, cX11_letters, cX11_count, cL_law]
set_option maxRecDepth 100000 in
theorem am_cds : am_ms.map (fun q => q.2.1) = am_cdl := by rfl
theorem am_c_at {i : Nat} (hi : i < 211) {b : ByteArray} (h : am_cdl[i]? = some b) : am_c i = b := by
  have h1 := congrArg (fun l : List ByteArray => l[i]?) am_cds
  simp only [List.getElem?_map, am_m_get hi, Option.map_some] at h1
  rw [h] at h1
  exact Option.some.inj h1
theorem am_in_of {i : Nat} {b : ByteArray} {t : List (Nat × Instr × Nat)} (e : am_c i = b) (k : ∀ q ∈ t, decode b q.1 = .ok q.2) {pc : Nat} {x : Instr × Nat} (h : t.lookup pc = some x) : am_in i pc = some x := by
  unfold am_in
  rw [e, k _ (am_look h)]
theorem am_d0 {pc : Nat} {x : Instr × Nat} (h : am_t0.lookup pc = some x) : am_in 0 pc = some x := am_in_of (am_c_at (i := 0) (by decide) rfl) am_kt0 h
theorem am_d1 {pc : Nat} {x : Instr × Nat} (h : am_t1.lookup pc = some x) : am_in 1 pc = some x := am_in_of (am_c_at (i := 1) (by decide) rfl) am_kt1 h
theorem am_d2 {pc : Nat} {x : Instr × Nat} (h : am_t2.lookup pc = some x) : am_in 2 pc = some x := am_in_of (am_c_at (i := 2) (by decide) rfl) am_kt2 h
theorem am_d3 {pc : Nat} {x : Instr × Nat} (h : am_t3.lookup pc = some x) : am_in 3 pc = some x := am_in_of (am_c_at (i := 3) (by decide) rfl) am_kt3 h
theorem am_d4 {pc : Nat} {x : Instr × Nat} (h : am_t4.lookup pc = some x) : am_in 4 pc = some x := am_in_of (am_c_at (i := 4) (by decide) rfl) am_kt4 h
theorem am_d5 {pc : Nat} {x : Instr × Nat} (h : am_t5.lookup pc = some x) : am_in 5 pc = some x := am_in_of (am_c_at (i := 5) (by decide) rfl) am_kt5 h
theorem am_d6 {pc : Nat} {x : Instr × Nat} (h : am_t6.lookup pc = some x) : am_in 6 pc = some x := am_in_of (am_c_at (i := 6) (by decide) rfl) am_kt6 h
theorem am_d7 {pc : Nat} {x : Instr × Nat} (h : am_t7.lookup pc = some x) : am_in 7 pc = some x := am_in_of (am_c_at (i := 7) (by decide) rfl) am_kt7 h
theorem am_d8 {pc : Nat} {x : Instr × Nat} (h : am_t8.lookup pc = some x) : am_in 8 pc = some x := am_in_of (am_c_at (i := 8) (by decide) rfl) am_kt8 h
theorem am_d9 {pc : Nat} {x : Instr × Nat} (h : am_t9.lookup pc = some x) : am_in 9 pc = some x := am_in_of (am_c_at (i := 9) (by decide) rfl) am_kt9 h
theorem am_d10 {pc : Nat} {x : Instr × Nat} (h : am_t10.lookup pc = some x) : am_in 10 pc = some x := am_in_of (am_c_at (i := 10) (by decide) rfl) am_kt10 h
theorem am_d11 {pc : Nat} {x : Instr × Nat} (h : am_t11.lookup pc = some x) : am_in 11 pc = some x := am_in_of (am_c_at (i := 11) (by decide) rfl) am_kt11 h
theorem am_d12 {pc : Nat} {x : Instr × Nat} (h : am_t12.lookup pc = some x) : am_in 12 pc = some x := am_in_of (am_c_at (i := 12) (by decide) rfl) am_kt12 h
theorem am_d13 {pc : Nat} {x : Instr × Nat} (h : am_t13.lookup pc = some x) : am_in 13 pc = some x := am_in_of (am_c_at (i := 13) (by decide) rfl) am_kt13 h
theorem am_d14 {pc : Nat} {x : Instr × Nat} (h : am_t14.lookup pc = some x) : am_in 14 pc = some x := am_in_of (am_c_at (i := 14) (by decide) rfl) am_kt14 h
theorem am_d15 {pc : Nat} {x : Instr × Nat} (h : am_t15.lookup pc = some x) : am_in 15 pc = some x := am_in_of (am_c_at (i := 15) (by decide) rfl) am_kt15 h
theorem am_d16 {pc : Nat} {x : Instr × Nat} (h : am_t16.lookup pc = some x) : am_in 16 pc = some x := am_in_of (am_c_at (i := 16) (by decide) rfl) am_kt16 h
theorem am_d17 {pc : Nat} {x : Instr × Nat} (h : am_t17.lookup pc = some x) : am_in 17 pc = some x := am_in_of (am_c_at (i := 17) (by decide) rfl) am_kt17 h
theorem am_d18 {pc : Nat} {x : Instr × Nat} (h : am_t18.lookup pc = some x) : am_in 18 pc = some x := am_in_of (am_c_at (i := 18) (by decide) rfl) am_kt18 h
theorem am_d19 {pc : Nat} {x : Instr × Nat} (h : am_t19.lookup pc = some x) : am_in 19 pc = some x := am_in_of (am_c_at (i := 19) (by decide) rfl) am_kt19 h
theorem am_d20 {pc : Nat} {x : Instr × Nat} (h : am_t20.lookup pc = some x) : am_in 20 pc = some x := am_in_of (am_c_at (i := 20) (by decide) rfl) am_kt20 h
theorem am_d21 {pc : Nat} {x : Instr × Nat} (h : am_t21.lookup pc = some x) : am_in 21 pc = some x := am_in_of (am_c_at (i := 21) (by decide) rfl) am_kt21 h
theorem am_d22 {pc : Nat} {x : Instr × Nat} (h : am_t22.lookup pc = some x) : am_in 22 pc = some x := am_in_of (am_c_at (i := 22) (by decide) rfl) am_kt22 h
theorem am_d23 {pc : Nat} {x : Instr × Nat} (h : am_t23.lookup pc = some x) : am_in 23 pc = some x := am_in_of (am_c_at (i := 23) (by decide) rfl) am_kt23 h
theorem am_d24 {pc : Nat} {x : Instr × Nat} (h : am_t24.lookup pc = some x) : am_in 24 pc = some x := am_in_of (am_c_at (i := 24) (by decide) rfl) am_kt24 h
theorem am_d25 {pc : Nat} {x : Instr × Nat} (h : am_t25.lookup pc = some x) : am_in 25 pc = some x := am_in_of (am_c_at (i := 25) (by decide) rfl) am_kt25 h
theorem am_d26 {pc : Nat} {x : Instr × Nat} (h : am_t26.lookup pc = some x) : am_in 26 pc = some x := am_in_of (am_c_at (i := 26) (by decide) rfl) am_kt26 h
theorem am_d27 {pc : Nat} {x : Instr × Nat} (h : am_t27.lookup pc = some x) : am_in 27 pc = some x := am_in_of (am_c_at (i := 27) (by decide) rfl) am_kt27 h
theorem am_d28 {pc : Nat} {x : Instr × Nat} (h : am_t28.lookup pc = some x) : am_in 28 pc = some x := am_in_of (am_c_at (i := 28) (by decide) rfl) am_kt28 h
theorem am_d29 {pc : Nat} {x : Instr × Nat} (h : am_t29.lookup pc = some x) : am_in 29 pc = some x := am_in_of (am_c_at (i := 29) (by decide) rfl) am_kt29 h
theorem am_d30 {pc : Nat} {x : Instr × Nat} (h : am_t30.lookup pc = some x) : am_in 30 pc = some x := am_in_of (am_c_at (i := 30) (by decide) rfl) am_kt30 h
theorem am_d31 {pc : Nat} {x : Instr × Nat} (h : am_t31.lookup pc = some x) : am_in 31 pc = some x := am_in_of (am_c_at (i := 31) (by decide) rfl) am_kt31 h
theorem am_d32 {pc : Nat} {x : Instr × Nat} (h : am_t32.lookup pc = some x) : am_in 32 pc = some x := am_in_of (am_c_at (i := 32) (by decide) rfl) am_kt32 h
theorem am_d33 {pc : Nat} {x : Instr × Nat} (h : am_t33.lookup pc = some x) : am_in 33 pc = some x := am_in_of (am_c_at (i := 33) (by decide) rfl) am_kt33 h
theorem am_d34 {pc : Nat} {x : Instr × Nat} (h : am_t34.lookup pc = some x) : am_in 34 pc = some x := am_in_of (am_c_at (i := 34) (by decide) rfl) am_kt34 h
theorem am_d35 {pc : Nat} {x : Instr × Nat} (h : am_t35.lookup pc = some x) : am_in 35 pc = some x := am_in_of (am_c_at (i := 35) (by decide) rfl) am_kt35 h
theorem am_d36 {pc : Nat} {x : Instr × Nat} (h : am_t36.lookup pc = some x) : am_in 36 pc = some x := am_in_of (am_c_at (i := 36) (by decide) rfl) am_kt36 h
theorem am_d37 {pc : Nat} {x : Instr × Nat} (h : am_t37.lookup pc = some x) : am_in 37 pc = some x := am_in_of (am_c_at (i := 37) (by decide) rfl) am_kt37 h
theorem am_d38 {pc : Nat} {x : Instr × Nat} (h : am_t38.lookup pc = some x) : am_in 38 pc = some x := am_in_of (am_c_at (i := 38) (by decide) rfl) am_kt38 h
theorem am_d39 {pc : Nat} {x : Instr × Nat} (h : am_t39.lookup pc = some x) : am_in 39 pc = some x := am_in_of (am_c_at (i := 39) (by decide) rfl) am_kt39 h
theorem am_d40 {pc : Nat} {x : Instr × Nat} (h : am_t40.lookup pc = some x) : am_in 40 pc = some x := am_in_of (am_c_at (i := 40) (by decide) rfl) am_kt40 h
theorem am_d41 {pc : Nat} {x : Instr × Nat} (h : am_t41.lookup pc = some x) : am_in 41 pc = some x := am_in_of (am_c_at (i := 41) (by decide) rfl) am_kt41 h
theorem am_d42 {pc : Nat} {x : Instr × Nat} (h : am_t42.lookup pc = some x) : am_in 42 pc = some x := am_in_of (am_c_at (i := 42) (by decide) rfl) am_kt42 h
theorem am_d43 {pc : Nat} {x : Instr × Nat} (h : am_t43.lookup pc = some x) : am_in 43 pc = some x := am_in_of (am_c_at (i := 43) (by decide) rfl) am_kt43 h
theorem am_d44 {pc : Nat} {x : Instr × Nat} (h : am_t44.lookup pc = some x) : am_in 44 pc = some x := am_in_of (am_c_at (i := 44) (by decide) rfl) am_kt44 h
theorem am_d45 {pc : Nat} {x : Instr × Nat} (h : am_t45.lookup pc = some x) : am_in 45 pc = some x := am_in_of (am_c_at (i := 45) (by decide) rfl) am_kt45 h
theorem am_d46 {pc : Nat} {x : Instr × Nat} (h : am_t46.lookup pc = some x) : am_in 46 pc = some x := am_in_of (am_c_at (i := 46) (by decide) rfl) am_kt46 h
theorem am_d47 {pc : Nat} {x : Instr × Nat} (h : am_t47.lookup pc = some x) : am_in 47 pc = some x := am_in_of (am_c_at (i := 47) (by decide) rfl) am_kt47 h
theorem am_d48 {pc : Nat} {x : Instr × Nat} (h : am_t48.lookup pc = some x) : am_in 48 pc = some x := am_in_of (am_c_at (i := 48) (by decide) rfl) am_kt48 h
theorem am_d49 {pc : Nat} {x : Instr × Nat} (h : am_t49.lookup pc = some x) : am_in 49 pc = some x := am_in_of (am_c_at (i := 49) (by decide) rfl) am_kt49 h
theorem am_d50 {pc : Nat} {x : Instr × Nat} (h : am_t50.lookup pc = some x) : am_in 50 pc = some x := am_in_of (am_c_at (i := 50) (by decide) rfl) am_kt50 h
theorem am_d51 {pc : Nat} {x : Instr × Nat} (h : am_t51.lookup pc = some x) : am_in 51 pc = some x := am_in_of (am_c_at (i := 51) (by decide) rfl) am_kt51 h
theorem am_d52 {pc : Nat} {x : Instr × Nat} (h : am_t52.lookup pc = some x) : am_in 52 pc = some x := am_in_of (am_c_at (i := 52) (by decide) rfl) am_kt52 h
theorem am_d53 {pc : Nat} {x : Instr × Nat} (h : am_t53.lookup pc = some x) : am_in 53 pc = some x := am_in_of (am_c_at (i := 53) (by decide) rfl) am_kt53 h
theorem am_d54 {pc : Nat} {x : Instr × Nat} (h : am_t54.lookup pc = some x) : am_in 54 pc = some x := am_in_of (am_c_at (i := 54) (by decide) rfl) am_kt54 h
theorem am_d55 {pc : Nat} {x : Instr × Nat} (h : am_t55.lookup pc = some x) : am_in 55 pc = some x := am_in_of (am_c_at (i := 55) (by decide) rfl) am_kt55 h
theorem am_d56 {pc : Nat} {x : Instr × Nat} (h : am_t56.lookup pc = some x) : am_in 56 pc = some x := am_in_of (am_c_at (i := 56) (by decide) rfl) am_kt56 h
theorem am_d57 {pc : Nat} {x : Instr × Nat} (h : am_t57.lookup pc = some x) : am_in 57 pc = some x := am_in_of (am_c_at (i := 57) (by decide) rfl) am_kt57 h
theorem am_d58 {pc : Nat} {x : Instr × Nat} (h : am_t58.lookup pc = some x) : am_in 58 pc = some x := am_in_of (am_c_at (i := 58) (by decide) rfl) am_kt58 h
theorem am_d59 {pc : Nat} {x : Instr × Nat} (h : am_t59.lookup pc = some x) : am_in 59 pc = some x := am_in_of (am_c_at (i := 59) (by decide) rfl) am_kt59 h
theorem am_d60 {pc : Nat} {x : Instr × Nat} (h : am_t60.lookup pc = some x) : am_in 60 pc = some x := am_in_of (am_c_at (i := 60) (by decide) rfl) am_kt60 h
theorem am_d61 {pc : Nat} {x : Instr × Nat} (h : am_t61.lookup pc = some x) : am_in 61 pc = some x := am_in_of (am_c_at (i := 61) (by decide) rfl) am_kt61 h
theorem am_d62 {pc : Nat} {x : Instr × Nat} (h : am_t62.lookup pc = some x) : am_in 62 pc = some x := am_in_of (am_c_at (i := 62) (by decide) rfl) am_kt62 h
theorem am_d63 {pc : Nat} {x : Instr × Nat} (h : am_t63.lookup pc = some x) : am_in 63 pc = some x := am_in_of (am_c_at (i := 63) (by decide) rfl) am_kt63 h
theorem am_d64 {pc : Nat} {x : Instr × Nat} (h : am_t64.lookup pc = some x) : am_in 64 pc = some x := am_in_of (am_c_at (i := 64) (by decide) rfl) am_kt64 h
theorem am_d65 {pc : Nat} {x : Instr × Nat} (h : am_t65.lookup pc = some x) : am_in 65 pc = some x := am_in_of (am_c_at (i := 65) (by decide) rfl) am_kt65 h
theorem am_d66 {pc : Nat} {x : Instr × Nat} (h : am_t66.lookup pc = some x) : am_in 66 pc = some x := am_in_of (am_c_at (i := 66) (by decide) rfl) am_kt66 h
theorem am_d67 {pc : Nat} {x : Instr × Nat} (h : am_t67.lookup pc = some x) : am_in 67 pc = some x := am_in_of (am_c_at (i := 67) (by decide) rfl) am_kt67 h
theorem am_d68 {pc : Nat} {x : Instr × Nat} (h : am_t68.lookup pc = some x) : am_in 68 pc = some x := am_in_of (am_c_at (i := 68) (by decide) rfl) am_kt68 h
theorem am_d69 {pc : Nat} {x : Instr × Nat} (h : am_t69.lookup pc = some x) : am_in 69 pc = some x := am_in_of (am_c_at (i := 69) (by decide) rfl) am_kt69 h
theorem am_d70 {pc : Nat} {x : Instr × Nat} (h : am_t70.lookup pc = some x) : am_in 70 pc = some x := am_in_of (am_c_at (i := 70) (by decide) rfl) am_kt70 h
theorem am_d71 {pc : Nat} {x : Instr × Nat} (h : am_t71.lookup pc = some x) : am_in 71 pc = some x := am_in_of (am_c_at (i := 71) (by decide) rfl) am_kt71 h
theorem am_d72 {pc : Nat} {x : Instr × Nat} (h : am_t72.lookup pc = some x) : am_in 72 pc = some x := am_in_of (am_c_at (i := 72) (by decide) rfl) am_kt72 h
theorem am_d73 {pc : Nat} {x : Instr × Nat} (h : am_t73.lookup pc = some x) : am_in 73 pc = some x := am_in_of (am_c_at (i := 73) (by decide) rfl) am_kt73 h
theorem am_d74 {pc : Nat} {x : Instr × Nat} (h : am_t74.lookup pc = some x) : am_in 74 pc = some x := am_in_of (am_c_at (i := 74) (by decide) rfl) am_kt74 h
theorem am_d75 {pc : Nat} {x : Instr × Nat} (h : am_t75.lookup pc = some x) : am_in 75 pc = some x := am_in_of (am_c_at (i := 75) (by decide) rfl) am_kt75 h
theorem am_d76 {pc : Nat} {x : Instr × Nat} (h : am_t76.lookup pc = some x) : am_in 76 pc = some x := am_in_of (am_c_at (i := 76) (by decide) rfl) am_kt76 h
theorem am_d77 {pc : Nat} {x : Instr × Nat} (h : am_t77.lookup pc = some x) : am_in 77 pc = some x := am_in_of (am_c_at (i := 77) (by decide) rfl) am_kt77 h
theorem am_d78 {pc : Nat} {x : Instr × Nat} (h : am_t78.lookup pc = some x) : am_in 78 pc = some x := am_in_of (am_c_at (i := 78) (by decide) rfl) am_kt78 h
theorem am_d79 {pc : Nat} {x : Instr × Nat} (h : am_t79.lookup pc = some x) : am_in 79 pc = some x := am_in_of (am_c_at (i := 79) (by decide) rfl) am_kt79 h
theorem am_d80 {pc : Nat} {x : Instr × Nat} (h : am_t80.lookup pc = some x) : am_in 80 pc = some x := am_in_of (am_c_at (i := 80) (by decide) rfl) am_kt80 h
theorem am_d81 {pc : Nat} {x : Instr × Nat} (h : am_t81.lookup pc = some x) : am_in 81 pc = some x := am_in_of (am_c_at (i := 81) (by decide) rfl) am_kt81 h
theorem am_d82 {pc : Nat} {x : Instr × Nat} (h : am_t82.lookup pc = some x) : am_in 82 pc = some x := am_in_of (am_c_at (i := 82) (by decide) rfl) am_kt82 h
theorem am_d83 {pc : Nat} {x : Instr × Nat} (h : am_t83.lookup pc = some x) : am_in 83 pc = some x := am_in_of (am_c_at (i := 83) (by decide) rfl) am_kt83 h
theorem am_d84 {pc : Nat} {x : Instr × Nat} (h : am_t84.lookup pc = some x) : am_in 84 pc = some x := am_in_of (am_c_at (i := 84) (by decide) rfl) am_kt84 h
theorem am_d85 {pc : Nat} {x : Instr × Nat} (h : am_t85.lookup pc = some x) : am_in 85 pc = some x := am_in_of (am_c_at (i := 85) (by decide) rfl) am_kt85 h
theorem am_d86 {pc : Nat} {x : Instr × Nat} (h : am_t86.lookup pc = some x) : am_in 86 pc = some x := am_in_of (am_c_at (i := 86) (by decide) rfl) am_kt86 h
theorem am_d87 {pc : Nat} {x : Instr × Nat} (h : am_t87.lookup pc = some x) : am_in 87 pc = some x := am_in_of (am_c_at (i := 87) (by decide) rfl) am_kt87 h
theorem am_d88 {pc : Nat} {x : Instr × Nat} (h : am_t88.lookup pc = some x) : am_in 88 pc = some x := am_in_of (am_c_at (i := 88) (by decide) rfl) am_kt88 h
theorem am_d89 {pc : Nat} {x : Instr × Nat} (h : am_t89.lookup pc = some x) : am_in 89 pc = some x := am_in_of (am_c_at (i := 89) (by decide) rfl) am_kt89 h
theorem am_d90 {pc : Nat} {x : Instr × Nat} (h : am_t90.lookup pc = some x) : am_in 90 pc = some x := am_in_of (am_c_at (i := 90) (by decide) rfl) am_kt90 h
theorem am_d91 {pc : Nat} {x : Instr × Nat} (h : am_t91.lookup pc = some x) : am_in 91 pc = some x := am_in_of (am_c_at (i := 91) (by decide) rfl) am_kt91 h
theorem am_d92 {pc : Nat} {x : Instr × Nat} (h : am_t92.lookup pc = some x) : am_in 92 pc = some x := am_in_of (am_c_at (i := 92) (by decide) rfl) am_kt92 h
theorem am_d93 {pc : Nat} {x : Instr × Nat} (h : am_t93.lookup pc = some x) : am_in 93 pc = some x := am_in_of (am_c_at (i := 93) (by decide) rfl) am_kt93 h
theorem am_d94 {pc : Nat} {x : Instr × Nat} (h : am_t94.lookup pc = some x) : am_in 94 pc = some x := am_in_of (am_c_at (i := 94) (by decide) rfl) am_kt94 h
theorem am_d95 {pc : Nat} {x : Instr × Nat} (h : am_t95.lookup pc = some x) : am_in 95 pc = some x := am_in_of (am_c_at (i := 95) (by decide) rfl) am_kt95 h
theorem am_d96 {pc : Nat} {x : Instr × Nat} (h : am_t96.lookup pc = some x) : am_in 96 pc = some x := am_in_of (am_c_at (i := 96) (by decide) rfl) am_kt96 h
theorem am_d97 {pc : Nat} {x : Instr × Nat} (h : am_t97.lookup pc = some x) : am_in 97 pc = some x := am_in_of (am_c_at (i := 97) (by decide) rfl) am_kt97 h
theorem am_d98 {pc : Nat} {x : Instr × Nat} (h : am_t98.lookup pc = some x) : am_in 98 pc = some x := am_in_of (am_c_at (i := 98) (by decide) rfl) am_kt98 h
theorem am_d99 {pc : Nat} {x : Instr × Nat} (h : am_t99.lookup pc = some x) : am_in 99 pc = some x := am_in_of (am_c_at (i := 99) (by decide) rfl) am_kt99 h
theorem am_d100 {pc : Nat} {x : Instr × Nat} (h : am_t100.lookup pc = some x) : am_in 100 pc = some x := am_in_of (am_c_at (i := 100) (by decide) rfl) am_kt100 h
theorem am_d101 {pc : Nat} {x : Instr × Nat} (h : am_t101.lookup pc = some x) : am_in 101 pc = some x := am_in_of (am_c_at (i := 101) (by decide) rfl) am_kt101 h
theorem am_d102 {pc : Nat} {x : Instr × Nat} (h : am_t102.lookup pc = some x) : am_in 102 pc = some x := am_in_of (am_c_at (i := 102) (by decide) rfl) am_kt102 h
theorem am_d103 {pc : Nat} {x : Instr × Nat} (h : am_t103.lookup pc = some x) : am_in 103 pc = some x := am_in_of (am_c_at (i := 103) (by decide) rfl) am_kt103 h
theorem am_d104 {pc : Nat} {x : Instr × Nat} (h : am_t104.lookup pc = some x) : am_in 104 pc = some x := am_in_of (am_c_at (i := 104) (by decide) rfl) am_kt104 h
theorem am_d105 {pc : Nat} {x : Instr × Nat} (h : am_t105.lookup pc = some x) : am_in 105 pc = some x := am_in_of (am_c_at (i := 105) (by decide) rfl) am_kt105 h
theorem am_d106 {pc : Nat} {x : Instr × Nat} (h : am_t106.lookup pc = some x) : am_in 106 pc = some x := am_in_of (am_c_at (i := 106) (by decide) rfl) am_kt106 h
theorem am_d107 {pc : Nat} {x : Instr × Nat} (h : am_t107.lookup pc = some x) : am_in 107 pc = some x := am_in_of (am_c_at (i := 107) (by decide) rfl) am_kt107 h
theorem am_d108 {pc : Nat} {x : Instr × Nat} (h : am_t108.lookup pc = some x) : am_in 108 pc = some x := am_in_of (am_c_at (i := 108) (by decide) rfl) am_kt108 h
theorem am_d109 {pc : Nat} {x : Instr × Nat} (h : am_t109.lookup pc = some x) : am_in 109 pc = some x := am_in_of (am_c_at (i := 109) (by decide) rfl) am_kt109 h
theorem am_d110 {pc : Nat} {x : Instr × Nat} (h : am_t110.lookup pc = some x) : am_in 110 pc = some x := am_in_of (am_c_at (i := 110) (by decide) rfl) am_kt110 h
theorem am_d111 {pc : Nat} {x : Instr × Nat} (h : am_t111.lookup pc = some x) : am_in 111 pc = some x := am_in_of (am_c_at (i := 111) (by decide) rfl) am_kt111 h
theorem am_d112 {pc : Nat} {x : Instr × Nat} (h : am_t112.lookup pc = some x) : am_in 112 pc = some x := am_in_of (am_c_at (i := 112) (by decide) rfl) am_kt112 h
theorem am_d113 {pc : Nat} {x : Instr × Nat} (h : am_t113.lookup pc = some x) : am_in 113 pc = some x := am_in_of (am_c_at (i := 113) (by decide) rfl) am_kt113 h
theorem am_d114 {pc : Nat} {x : Instr × Nat} (h : am_t114.lookup pc = some x) : am_in 114 pc = some x := am_in_of (am_c_at (i := 114) (by decide) rfl) am_kt114 h
theorem am_d115 {pc : Nat} {x : Instr × Nat} (h : am_t115.lookup pc = some x) : am_in 115 pc = some x := am_in_of (am_c_at (i := 115) (by decide) rfl) am_kt115 h
theorem am_d116 {pc : Nat} {x : Instr × Nat} (h : am_t116.lookup pc = some x) : am_in 116 pc = some x := am_in_of (am_c_at (i := 116) (by decide) rfl) am_kt116 h
theorem am_d117 {pc : Nat} {x : Instr × Nat} (h : am_t117.lookup pc = some x) : am_in 117 pc = some x := am_in_of (am_c_at (i := 117) (by decide) rfl) am_kt117 h
theorem am_d118 {pc : Nat} {x : Instr × Nat} (h : am_t118.lookup pc = some x) : am_in 118 pc = some x := am_in_of (am_c_at (i := 118) (by decide) rfl) am_kt118 h
theorem am_d119 {pc : Nat} {x : Instr × Nat} (h : am_t119.lookup pc = some x) : am_in 119 pc = some x := am_in_of (am_c_at (i := 119) (by decide) rfl) am_kt119 h
theorem am_d120 {pc : Nat} {x : Instr × Nat} (h : am_t120.lookup pc = some x) : am_in 120 pc = some x := am_in_of (am_c_at (i := 120) (by decide) rfl) am_kt120 h
theorem am_d121 {pc : Nat} {x : Instr × Nat} (h : am_t121.lookup pc = some x) : am_in 121 pc = some x := am_in_of (am_c_at (i := 121) (by decide) rfl) am_kt121 h
theorem am_d122 {pc : Nat} {x : Instr × Nat} (h : am_t122.lookup pc = some x) : am_in 122 pc = some x := am_in_of (am_c_at (i := 122) (by decide) rfl) am_kt122 h
theorem am_d123 {pc : Nat} {x : Instr × Nat} (h : am_t123.lookup pc = some x) : am_in 123 pc = some x := am_in_of (am_c_at (i := 123) (by decide) rfl) am_kt123 h
theorem am_d124 {pc : Nat} {x : Instr × Nat} (h : am_t124.lookup pc = some x) : am_in 124 pc = some x := am_in_of (am_c_at (i := 124) (by decide) rfl) am_kt124 h
theorem am_d125 {pc : Nat} {x : Instr × Nat} (h : am_t125.lookup pc = some x) : am_in 125 pc = some x := am_in_of (am_c_at (i := 125) (by decide) rfl) am_kt125 h
theorem am_d126 {pc : Nat} {x : Instr × Nat} (h : am_t126.lookup pc = some x) : am_in 126 pc = some x := am_in_of (am_c_at (i := 126) (by decide) rfl) am_kt126 h
theorem am_d127 {pc : Nat} {x : Instr × Nat} (h : am_t127.lookup pc = some x) : am_in 127 pc = some x := am_in_of (am_c_at (i := 127) (by decide) rfl) am_kt127 h
theorem am_d128 {pc : Nat} {x : Instr × Nat} (h : am_t128.lookup pc = some x) : am_in 128 pc = some x := am_in_of (am_c_at (i := 128) (by decide) rfl) am_kt128 h
theorem am_d129 {pc : Nat} {x : Instr × Nat} (h : am_t129.lookup pc = some x) : am_in 129 pc = some x := am_in_of (am_c_at (i := 129) (by decide) rfl) am_kt129 h
theorem am_d130 {pc : Nat} {x : Instr × Nat} (h : am_t130.lookup pc = some x) : am_in 130 pc = some x := am_in_of (am_c_at (i := 130) (by decide) rfl) am_kt130 h
theorem am_d131 {pc : Nat} {x : Instr × Nat} (h : am_t131.lookup pc = some x) : am_in 131 pc = some x := am_in_of (am_c_at (i := 131) (by decide) rfl) am_kt131 h
theorem am_d132 {pc : Nat} {x : Instr × Nat} (h : am_t132.lookup pc = some x) : am_in 132 pc = some x := am_in_of (am_c_at (i := 132) (by decide) rfl) am_kt132 h
theorem am_d133 {pc : Nat} {x : Instr × Nat} (h : am_t133.lookup pc = some x) : am_in 133 pc = some x := am_in_of (am_c_at (i := 133) (by decide) rfl) am_kt133 h
theorem am_d134 {pc : Nat} {x : Instr × Nat} (h : am_t134.lookup pc = some x) : am_in 134 pc = some x := am_in_of (am_c_at (i := 134) (by decide) rfl) am_kt134 h
theorem am_d135 {pc : Nat} {x : Instr × Nat} (h : am_t135.lookup pc = some x) : am_in 135 pc = some x := am_in_of (am_c_at (i := 135) (by decide) rfl) am_kt135 h
theorem am_d136 {pc : Nat} {x : Instr × Nat} (h : am_t136.lookup pc = some x) : am_in 136 pc = some x := am_in_of (am_c_at (i := 136) (by decide) rfl) am_kt136 h
theorem am_d137 {pc : Nat} {x : Instr × Nat} (h : am_t137.lookup pc = some x) : am_in 137 pc = some x := am_in_of (am_c_at (i := 137) (by decide) rfl) am_kt137 h
theorem am_d138 {pc : Nat} {x : Instr × Nat} (h : am_t138.lookup pc = some x) : am_in 138 pc = some x := am_in_of (am_c_at (i := 138) (by decide) rfl) am_kt138 h
theorem am_d139 {pc : Nat} {x : Instr × Nat} (h : am_t139.lookup pc = some x) : am_in 139 pc = some x := am_in_of (am_c_at (i := 139) (by decide) rfl) am_kt139 h
theorem am_d140 {pc : Nat} {x : Instr × Nat} (h : am_t140.lookup pc = some x) : am_in 140 pc = some x := am_in_of (am_c_at (i := 140) (by decide) rfl) am_kt140 h
theorem am_d141 {pc : Nat} {x : Instr × Nat} (h : am_t141.lookup pc = some x) : am_in 141 pc = some x := am_in_of (am_c_at (i := 141) (by decide) rfl) am_kt141 h
theorem am_d142 {pc : Nat} {x : Instr × Nat} (h : am_t142.lookup pc = some x) : am_in 142 pc = some x := am_in_of (am_c_at (i := 142) (by decide) rfl) am_kt142 h
theorem am_d143 {pc : Nat} {x : Instr × Nat} (h : am_t143.lookup pc = some x) : am_in 143 pc = some x := am_in_of (am_c_at (i := 143) (by decide) rfl) am_kt143 h
theorem am_d144 {pc : Nat} {x : Instr × Nat} (h : am_t144.lookup pc = some x) : am_in 144 pc = some x := am_in_of (am_c_at (i := 144) (by decide) rfl) am_kt144 h
theorem am_d145 {pc : Nat} {x : Instr × Nat} (h : am_t145.lookup pc = some x) : am_in 145 pc = some x := am_in_of (am_c_at (i := 145) (by decide) rfl) am_kt145 h
theorem am_d146 {pc : Nat} {x : Instr × Nat} (h : am_t146.lookup pc = some x) : am_in 146 pc = some x := am_in_of (am_c_at (i := 146) (by decide) rfl) am_kt146 h
theorem am_d147 {pc : Nat} {x : Instr × Nat} (h : am_t147.lookup pc = some x) : am_in 147 pc = some x := am_in_of (am_c_at (i := 147) (by decide) rfl) am_kt147 h
theorem am_d148 {pc : Nat} {x : Instr × Nat} (h : am_t148.lookup pc = some x) : am_in 148 pc = some x := am_in_of (am_c_at (i := 148) (by decide) rfl) am_kt148 h
theorem am_d149 {pc : Nat} {x : Instr × Nat} (h : am_t149.lookup pc = some x) : am_in 149 pc = some x := am_in_of (am_c_at (i := 149) (by decide) rfl) am_kt149 h
theorem am_d150 {pc : Nat} {x : Instr × Nat} (h : am_t150.lookup pc = some x) : am_in 150 pc = some x := am_in_of (am_c_at (i := 150) (by decide) rfl) am_kt150 h
theorem am_d151 {pc : Nat} {x : Instr × Nat} (h : am_t151.lookup pc = some x) : am_in 151 pc = some x := am_in_of (am_c_at (i := 151) (by decide) rfl) am_kt151 h
theorem am_d152 {pc : Nat} {x : Instr × Nat} (h : am_t152.lookup pc = some x) : am_in 152 pc = some x := am_in_of (am_c_at (i := 152) (by decide) rfl) am_kt152 h
theorem am_d153 {pc : Nat} {x : Instr × Nat} (h : am_t153.lookup pc = some x) : am_in 153 pc = some x := am_in_of (am_c_at (i := 153) (by decide) rfl) am_kt153 h
theorem am_d154 {pc : Nat} {x : Instr × Nat} (h : am_t154.lookup pc = some x) : am_in 154 pc = some x := am_in_of (am_c_at (i := 154) (by decide) rfl) am_kt154 h
theorem am_d155 {pc : Nat} {x : Instr × Nat} (h : am_t155.lookup pc = some x) : am_in 155 pc = some x := am_in_of (am_c_at (i := 155) (by decide) rfl) am_kt155 h
theorem am_d156 {pc : Nat} {x : Instr × Nat} (h : am_t156.lookup pc = some x) : am_in 156 pc = some x := am_in_of (am_c_at (i := 156) (by decide) rfl) am_kt156 h
theorem am_d157 {pc : Nat} {x : Instr × Nat} (h : am_t157.lookup pc = some x) : am_in 157 pc = some x := am_in_of (am_c_at (i := 157) (by decide) rfl) am_kt157 h
theorem am_d158 {pc : Nat} {x : Instr × Nat} (h : am_t158.lookup pc = some x) : am_in 158 pc = some x := am_in_of (am_c_at (i := 158) (by decide) rfl) am_kt158 h
theorem am_d159 {pc : Nat} {x : Instr × Nat} (h : am_t159.lookup pc = some x) : am_in 159 pc = some x := am_in_of (am_c_at (i := 159) (by decide) rfl) am_kt159 h
theorem am_d160 {pc : Nat} {x : Instr × Nat} (h : am_t160.lookup pc = some x) : am_in 160 pc = some x := am_in_of (am_c_at (i := 160) (by decide) rfl) am_kt160 h
theorem am_d161 {pc : Nat} {x : Instr × Nat} (h : am_t161.lookup pc = some x) : am_in 161 pc = some x := am_in_of (am_c_at (i := 161) (by decide) rfl) am_kt161 h
theorem am_d162 {pc : Nat} {x : Instr × Nat} (h : am_t162.lookup pc = some x) : am_in 162 pc = some x := am_in_of (am_c_at (i := 162) (by decide) rfl) am_kt162 h
theorem am_d163 {pc : Nat} {x : Instr × Nat} (h : am_t163.lookup pc = some x) : am_in 163 pc = some x := am_in_of (am_c_at (i := 163) (by decide) rfl) am_kt163 h
theorem am_d164 {pc : Nat} {x : Instr × Nat} (h : am_t164.lookup pc = some x) : am_in 164 pc = some x := am_in_of (am_c_at (i := 164) (by decide) rfl) am_kt164 h
theorem am_d165 {pc : Nat} {x : Instr × Nat} (h : am_t165.lookup pc = some x) : am_in 165 pc = some x := am_in_of (am_c_at (i := 165) (by decide) rfl) am_kt165 h
theorem am_d166 {pc : Nat} {x : Instr × Nat} (h : am_t166.lookup pc = some x) : am_in 166 pc = some x := am_in_of (am_c_at (i := 166) (by decide) rfl) am_kt166 h
theorem am_d167 {pc : Nat} {x : Instr × Nat} (h : am_t167.lookup pc = some x) : am_in 167 pc = some x := am_in_of (am_c_at (i := 167) (by decide) rfl) am_kt167 h
theorem am_d168 {pc : Nat} {x : Instr × Nat} (h : am_t168.lookup pc = some x) : am_in 168 pc = some x := am_in_of (am_c_at (i := 168) (by decide) rfl) am_kt168 h
theorem am_d169 {pc : Nat} {x : Instr × Nat} (h : am_t169.lookup pc = some x) : am_in 169 pc = some x := am_in_of (am_c_at (i := 169) (by decide) rfl) am_kt169 h
theorem am_d170 {pc : Nat} {x : Instr × Nat} (h : am_t170.lookup pc = some x) : am_in 170 pc = some x := am_in_of (am_c_at (i := 170) (by decide) rfl) am_kt170 h
theorem am_d171 {pc : Nat} {x : Instr × Nat} (h : am_t171.lookup pc = some x) : am_in 171 pc = some x := am_in_of (am_c_at (i := 171) (by decide) rfl) am_kt171 h
theorem am_d172 {pc : Nat} {x : Instr × Nat} (h : am_t172.lookup pc = some x) : am_in 172 pc = some x := am_in_of (am_c_at (i := 172) (by decide) rfl) am_kt172 h
theorem am_d173 {pc : Nat} {x : Instr × Nat} (h : am_t173.lookup pc = some x) : am_in 173 pc = some x := am_in_of (am_c_at (i := 173) (by decide) rfl) am_kt173 h
theorem am_d174 {pc : Nat} {x : Instr × Nat} (h : am_t174.lookup pc = some x) : am_in 174 pc = some x := am_in_of (am_c_at (i := 174) (by decide) rfl) am_kt174 h
theorem am_d175 {pc : Nat} {x : Instr × Nat} (h : am_t175.lookup pc = some x) : am_in 175 pc = some x := am_in_of (am_c_at (i := 175) (by decide) rfl) am_kt175 h
theorem am_d176 {pc : Nat} {x : Instr × Nat} (h : am_t176.lookup pc = some x) : am_in 176 pc = some x := am_in_of (am_c_at (i := 176) (by decide) rfl) am_kt176 h
theorem am_d177 {pc : Nat} {x : Instr × Nat} (h : am_t177.lookup pc = some x) : am_in 177 pc = some x := am_in_of (am_c_at (i := 177) (by decide) rfl) am_kt177 h
theorem am_d178 {pc : Nat} {x : Instr × Nat} (h : am_t178.lookup pc = some x) : am_in 178 pc = some x := am_in_of (am_c_at (i := 178) (by decide) rfl) am_kt178 h
theorem am_d179 {pc : Nat} {x : Instr × Nat} (h : am_t179.lookup pc = some x) : am_in 179 pc = some x := am_in_of (am_c_at (i := 179) (by decide) rfl) am_kt179 h
theorem am_d180 {pc : Nat} {x : Instr × Nat} (h : am_t180.lookup pc = some x) : am_in 180 pc = some x := am_in_of (am_c_at (i := 180) (by decide) rfl) am_kt180 h
theorem am_d181 {pc : Nat} {x : Instr × Nat} (h : am_t181.lookup pc = some x) : am_in 181 pc = some x := am_in_of (am_c_at (i := 181) (by decide) rfl) am_kt181 h
theorem am_d182 {pc : Nat} {x : Instr × Nat} (h : am_t182.lookup pc = some x) : am_in 182 pc = some x := am_in_of (am_c_at (i := 182) (by decide) rfl) am_kt182 h
theorem am_d183 {pc : Nat} {x : Instr × Nat} (h : am_t183.lookup pc = some x) : am_in 183 pc = some x := am_in_of (am_c_at (i := 183) (by decide) rfl) am_kt183 h
theorem am_d184 {pc : Nat} {x : Instr × Nat} (h : am_t184.lookup pc = some x) : am_in 184 pc = some x := am_in_of (am_c_at (i := 184) (by decide) rfl) am_kt184 h
theorem am_d185 {pc : Nat} {x : Instr × Nat} (h : am_t185.lookup pc = some x) : am_in 185 pc = some x := am_in_of (am_c_at (i := 185) (by decide) rfl) am_kt185 h
theorem am_d186 {pc : Nat} {x : Instr × Nat} (h : am_t186.lookup pc = some x) : am_in 186 pc = some x := am_in_of (am_c_at (i := 186) (by decide) rfl) am_kt186 h
theorem am_d187 {pc : Nat} {x : Instr × Nat} (h : am_t187.lookup pc = some x) : am_in 187 pc = some x := am_in_of (am_c_at (i := 187) (by decide) rfl) am_kt187 h
theorem am_d188 {pc : Nat} {x : Instr × Nat} (h : am_t188.lookup pc = some x) : am_in 188 pc = some x := am_in_of (am_c_at (i := 188) (by decide) rfl) am_kt188 h
theorem am_d189 {pc : Nat} {x : Instr × Nat} (h : am_t189.lookup pc = some x) : am_in 189 pc = some x := am_in_of (am_c_at (i := 189) (by decide) rfl) am_kt189 h
theorem am_d190 {pc : Nat} {x : Instr × Nat} (h : am_t190.lookup pc = some x) : am_in 190 pc = some x := am_in_of (am_c_at (i := 190) (by decide) rfl) am_kt190 h
theorem am_d191 {pc : Nat} {x : Instr × Nat} (h : am_t191.lookup pc = some x) : am_in 191 pc = some x := am_in_of (am_c_at (i := 191) (by decide) rfl) am_kt191 h
theorem am_d192 {pc : Nat} {x : Instr × Nat} (h : am_t192.lookup pc = some x) : am_in 192 pc = some x := am_in_of (am_c_at (i := 192) (by decide) rfl) am_kt192 h
theorem am_d193 {pc : Nat} {x : Instr × Nat} (h : am_t193.lookup pc = some x) : am_in 193 pc = some x := am_in_of (am_c_at (i := 193) (by decide) rfl) am_kt193 h
theorem am_d194 {pc : Nat} {x : Instr × Nat} (h : am_t194.lookup pc = some x) : am_in 194 pc = some x := am_in_of (am_c_at (i := 194) (by decide) rfl) am_kt194 h
theorem am_d195 {pc : Nat} {x : Instr × Nat} (h : am_t195.lookup pc = some x) : am_in 195 pc = some x := am_in_of (am_c_at (i := 195) (by decide) rfl) am_kt195 h
theorem am_d196 {pc : Nat} {x : Instr × Nat} (h : am_t196.lookup pc = some x) : am_in 196 pc = some x := am_in_of (am_c_at (i := 196) (by decide) rfl) am_kt196 h
theorem am_d197 {pc : Nat} {x : Instr × Nat} (h : am_t197.lookup pc = some x) : am_in 197 pc = some x := am_in_of (am_c_at (i := 197) (by decide) rfl) am_kt197 h
theorem am_d198 {pc : Nat} {x : Instr × Nat} (h : am_t198.lookup pc = some x) : am_in 198 pc = some x := am_in_of (am_c_at (i := 198) (by decide) rfl) am_kt198 h
theorem am_d199 {pc : Nat} {x : Instr × Nat} (h : am_t199.lookup pc = some x) : am_in 199 pc = some x := am_in_of (am_c_at (i := 199) (by decide) rfl) am_kt199 h
theorem am_d200 {pc : Nat} {x : Instr × Nat} (h : am_t200.lookup pc = some x) : am_in 200 pc = some x := am_in_of (am_c_at (i := 200) (by decide) rfl) am_kt200 h
theorem am_d201 {pc : Nat} {x : Instr × Nat} (h : am_t201.lookup pc = some x) : am_in 201 pc = some x := am_in_of (am_c_at (i := 201) (by decide) rfl) am_kt201 h
theorem am_d202 {pc : Nat} {x : Instr × Nat} (h : am_t202.lookup pc = some x) : am_in 202 pc = some x := am_in_of (am_c_at (i := 202) (by decide) rfl) am_kt202 h
theorem am_d203 {pc : Nat} {x : Instr × Nat} (h : am_t203.lookup pc = some x) : am_in 203 pc = some x := am_in_of (am_c_at (i := 203) (by decide) rfl) am_kt203 h
theorem am_d204 {pc : Nat} {x : Instr × Nat} (h : am_t204.lookup pc = some x) : am_in 204 pc = some x := am_in_of (am_c_at (i := 204) (by decide) rfl) am_kt204 h
theorem am_d205 {pc : Nat} {x : Instr × Nat} (h : am_t205.lookup pc = some x) : am_in 205 pc = some x := am_in_of (am_c_at (i := 205) (by decide) rfl) am_kt205 h
theorem am_d206 {pc : Nat} {x : Instr × Nat} (h : am_t206.lookup pc = some x) : am_in 206 pc = some x := am_in_of (am_c_at (i := 206) (by decide) rfl) am_kt206 h
theorem am_d207 {pc : Nat} {x : Instr × Nat} (h : am_t207.lookup pc = some x) : am_in 207 pc = some x := am_in_of (am_c_at (i := 207) (by decide) rfl) am_kt207 h
theorem am_d208 {pc : Nat} {x : Instr × Nat} (h : am_t208.lookup pc = some x) : am_in 208 pc = some x := am_in_of (am_c_at (i := 208) (by decide) rfl) am_kt208 h
theorem am_d209 {pc : Nat} {x : Instr × Nat} (h : am_t209.lookup pc = some x) : am_in 209 pc = some x := am_in_of (am_c_at (i := 209) (by decide) rfl) am_kt209 h
theorem am_d210 {pc : Nat} {x : Instr × Nat} (h : am_t210.lookup pc = some x) : am_in 210 pc = some x := am_in_of (am_c_at (i := 210) (by decide) rfl) am_kt210 h
end
section
/-! ===== the constructors, run once by an evaluator ===== -/
def am_z : am_M := fun _ _ => 0
def am_zL : am_N := fun _ _ => 0
def am_mw (ws : List (Nat × Nat × Int32)) : am_M := ws.foldr (fun q M => am_up M q.1 q.2.1 q.2.2) am_z
theorem am_mw_hi {ws : List (Nat × Nat × Int32)} {n k : Nat} (h : (ws.all fun q => decide (q.1 < n)) = true) (hk : n ≤ k) : am_mw ws k = fun _ => 0 := by
  induction ws with
  | nil => rfl
  | cons q r ih =>
    simp only [List.all_cons, Bool.and_eq_true, decide_eq_true_eq] at h
    show am_up (am_mw r) q.1 q.2.1 q.2.2 k = _
    funext b
    have hne : ¬ k = q.1 := by omega
    simp only [am_up, if_neg hne]
    rw [ih (by simpa using h.2)]
def am_cini : List Nat := [0, 1, 2, 3, 4, 5, 6, 7, 8, 9, 10, 137]
theorem am_cini_k : (am_cini.map fun j => (am_y j).name) = am_cini.map fun _ => "<init>" := by rfl
theorem am_cini_ok {j : Nat} (h : am_cini.contains j = true) : (am_y j).name = "<init>" := by
  have hm : j ∈ am_cini := by simpa using h
  obtain ⟨n, hn⟩ := List.getElem?_of_mem hm
  have h1 := congrArg (fun l : List String => l[n]?) am_cini_k
  simp only [List.getElem?_map, hn, Option.map_some, Option.some.injEq] at h1
  exact h1
theorem am_dcl : ∀ ci : Nat, ci < 12 → ∀ j, j < am_nf ci → (am_Tf ci j).1 = am_cn ci := by
  have h : ((List.range 12).map fun ci => (List.range (am_nf ci)).map fun j => (am_Tf ci j).1) = (List.range 12).map fun ci => (List.range (am_nf ci)).map fun _ => am_cn ci := by rfl
  intro ci hci j hj
  have h1 := congrArg (fun l : List (List String) => l[ci]?) h
  simp only [List.getElem?_map, List.getElem?_range hci, Option.map_some, Option.some.injEq] at h1
  have h2 := congrArg (fun l : List String => l[j]?) h1
  simp only [List.getElem?_map, List.getElem?_range hj, Option.map_some, Option.some.injEq] at h2
  exact h2
def am_ctb : List (Nat × List (Nat × Instr × Nat)) := [(0, am_t0), (1, am_t1), (2, am_t2), (3, am_t3), (4, am_t4), (5, am_t5), (6, am_t6), (7, am_t7), (8, am_t8), (9, am_t9), (10, am_t10), (137, am_t137)]
def am_ci0 (i pc : Nat) : Option (Instr × Nat) := match am_ctb.lookup i with
  | some t => t.lookup pc
  | none => none
theorem am_ctb_ok : ∀ q ∈ am_ctb, ∀ (pc : Nat) (x : Instr × Nat), q.2.lookup pc = some x → am_in q.1 pc = some x := by
  intro q hq pc x h
  simp only [am_ctb, List.mem_cons, List.not_mem_nil, or_false] at hq
  rcases hq with rfl | rfl | rfl | rfl | rfl | rfl | rfl | rfl | rfl | rfl | rfl | rfl
  · exact am_d0 h
  · exact am_d1 h
  · exact am_d2 h
  · exact am_d3 h
  · exact am_d4 h
  · exact am_d5 h
  · exact am_d6 h
  · exact am_d7 h
  · exact am_d8 h
  · exact am_d9 h
  · exact am_d10 h
  · exact am_d137 h
theorem am_ci0_in {i pc : Nat} {x : Instr × Nat} (h : am_ci0 i pc = some x) : am_in i pc = some x := by
  unfold am_ci0 at h
  split at h
  · rename_i t ht
    exact am_ctb_ok (i, t) (am_look ht) pc x h
  · cases h
def am_atk (a : ArrayType) : Option Nat := match a with
  | .int => some 0
  | .boolean => some 1
  | _ => none
theorem am_atk_ok {a : ArrayType} {t : Nat} (h : am_atk a = some t) : (a = .int ∧ t = 0) ∨ (a = .boolean ∧ t = 1) := by
  cases a <;> first | (cases h; exact Or.inl ⟨rfl, rfl⟩) | (cases h; exact Or.inr ⟨rfl, rfl⟩) | cases h
abbrev am_Wr : Type := List (Nat × Nat × Int32)
def am_fresh (sh : List am_E) (ws : am_Wr) : Bool := decide (sh.length < 900000) && ws.all fun q => decide (q.1 < sh.length)
def am_cs : Nat → Nat → Nat → am_V → am_V → List am_E → am_Wr → Option (List am_E × am_Wr)
  | 0, _, _, _, _, _, _ => none
  | n + 1, i, pc, L, S, sh, ws => match am_ci0 i pc with
    | none => none
    | some (ins, len) => match ins with
      | .return_ => if len = 1 ∧ am_rt i = none then (match S with
        | [] => some (sh, ws)
        | _ => none) else none
      | .newarray at9 => (match S with
        | .int x :: T => (match am_atk at9 with
          | some t => if len = 2 ∧ ¬ x < 0 ∧ x.toNatClampNeg ≤ 100000 ∧ am_fresh sh ws = true then am_cs n i (pc + 2) L (.ref sh.length :: T) (sh ++ [.inl (t, x.toNatClampNeg)]) ws else none
          | none => none)
        | _ => none)
      | .multianewarray idx dim => (match S with
        | .int y :: .int x :: T => if len = 4 ∧ dim = 2 ∧ am_gg i idx = true ∧ ¬ x < 0 ∧ ¬ y < 0 ∧ x.toNatClampNeg ≤ 1000 ∧ y.toNatClampNeg ≤ 1000 ∧ am_fresh sh ws = true then am_cs n i (pc + 4) L (.ref sh.length :: T) (sh ++ (.inl (2, x.toNatClampNeg) :: List.replicate x.toNatClampNeg (.inl (0, y.toNatClampNeg)))) ws else none
        | _ => none)
      | .new idx => (match am_nw i idx with
        | some ci => if len = 3 ∧ ci < 12 ∧ am_inq.contains ci = true ∧ am_ini.contains ci = true ∧ am_fresh sh ws = true then am_cs n i (pc + 3) L (.ref sh.length :: S) (sh ++ [.inr (ci, List.replicate (am_nf ci) none)]) ws else none
        | none => none)
      | .getfield idx => (match S with
        | .ref k :: T => (match am_fl i idx with
          | some (ci, j) => (match sh[k]? with
            | some (.inr (ci2, rs)) => if len = 3 ∧ ci2 = ci then (match am_rd (am_mw ws) am_zL k ci j rs with
              | some v => am_cs n i (pc + 3) L (v :: T) sh ws
              | none => none) else none
            | _ => none)
          | none => none)
        | _ => none)
      | .putfield idx => (match am_fl i idx with
        | some (ci, j) => (match S with
          | .ref t :: .ref k :: T => (match sh[k]? with
            | some (.inr (ci2, rs)) => if len = 3 ∧ ci2 = ci ∧ refKind (am_tf ci j) = true ∧ (am_Tf ci j).2.2.2 = true ∧ am_cini.contains i = true ∧ ci = am_ow i ∧ j < rs.length then am_cs n i (pc + 3) L T (sh.set k (.inr (ci, rs.set j (some t)))) ws else none
            | _ => none)
          | .int x :: .ref k :: T => (match sh[k]? with
            | some (.inr (ci2, rs)) => if len = 3 ∧ ci2 = ci ∧ am_tf ci j = .int ∧ (am_Tf ci j).2.2.2 = false then am_cs n i (pc + 3) L T sh ((k, j, x) :: ws) else none
            | _ => none)
          | _ => none)
        | none => none)
      | .invokespecial idx => if len = 3 then (if am_oi i idx = true then (match S with
          | .ref _ :: T => if 1 ≤ am_fr i ∧ (T.map fun v => v.category).sum + 12 ≤ am_lo i then am_cs n i (pc + 3) L T sh ws else none
          | _ => none)
        else (match am_cl i idx with
          | some (j, _) => (match (S.take (am_na j + 1)).reverse with
            | .ref b :: As => if am_sta.contains j = false ∧ am_ins.contains j = true ∧ am_cini.contains j = true ∧ am_rt j = none ∧ am_ckr i j (.ref b :: As) (S.drop (am_na j + 1)) = true ∧ am_ow i < 19 then (match am_cs n j 0 (am_en j (.ref b :: As)) [] sh ws with
              | some (sh1, ws1) => am_cs n i (pc + 3) L (S.drop (am_na j + 1)) sh1 ws1
              | none => none) else none
            | _ => none)
          | none => none)) else none
      | ins => if len = am_ln ins then (match am_q ins L S with
        | some (L2, S2) => am_cs n i (pc + len) L2 S2 sh ws
        | none => none) else none
def am_CQ (ws : am_Wr) : am_Q := fun r M N => r = none ∧ M = am_mw ws ∧ N = am_zL
theorem am_fresh_l {sh : List am_E} {ws : am_Wr} (h : am_fresh sh ws = true) : sh.length < 900000 ∧ (ws.all fun q => decide (q.1 < sh.length)) = true := by
  unfold am_fresh at h
  simpa using h
set_option maxHeartbeats 4000000 in
theorem am_cs_ok {l : Launch} {D : va_G} {G : am_G} {B : Nat} {sp : Nat → Nat} {fz : Value} {Lx : Nat} {xs : Nat → Int32} : ∀ (n i pc : Nat) (L S : am_V) (sh : List am_E) (ws : am_Wr) (sh1 : List am_E) (ws1 : am_Wr), am_cs n i pc L S sh ws = some (sh1, ws1) → am_SW l D G B sp fz Lx xs (am_CQ ws1) sh1 i pc L S sh (am_mw ws) am_zL := by
  intro n
  induction n with
  | zero => intro i pc L S sh ws sh1 ws1 h; cases h
  | succ n ih =>
    intro i pc L S sh ws sh1 ws1 h
    unfold am_cs at h
    split at h
    · cases h
    · rename_i ins len hl
      have d := am_ci0_in hl
      split at h
      · -- return
        split at h
        · rename_i hc
          obtain ⟨rfl, hr⟩ := hc
          split at h
          · cases h
            exact sw_ret d hr ⟨rfl, rfl, rfl⟩
          · cases h
        · cases h
      · -- newarray
        split at h
        · split at h
          · rename_i x T t ht
            split at h
            · rename_i hc
              obtain ⟨rfl, h1, h2, h3⟩ := hc
              obtain ⟨h4, h5⟩ := am_fresh_l h3
              have hat := am_atk_ok ht
              refine sw_newa d hat h1 rfl h2 (by omega) ?_
              have e : am_upR (am_mw ws) sh.length (fun _ => 0) = am_mw ws := by
                funext a
                by_cases ha : a = sh.length
                · subst ha
                  simp [am_upR, am_mw_hi h5 (Nat.le_refl _)]
                · simp [am_upR, ha]
              rw [e]
              exact ih _ _ _ _ _ _ _ _ h
            · cases h
          · cases h
        · cases h
      · -- multianewarray
        split at h
        · split at h
          · rename_i hc
            obtain ⟨rfl, rfl, h0, h1, h2, h3, h4, h5⟩ := hc
            obtain ⟨h6, h7⟩ := am_fresh_l h5
            refine sw_grid d h0 h1 h2 rfl rfl h3 h4 h6 ?_
            have e : (fun a => if sh.length ≤ a then fun _ => 0 else am_mw ws a) = am_mw ws := by
              funext a
              by_cases ha : sh.length ≤ a
              · rw [if_pos ha, am_mw_hi h7 ha]
              · rw [if_neg ha]
            rw [e]
            exact ih _ _ _ _ _ _ _ _ h
          · cases h
        · cases h
      · -- new
        split at h
        · rename_i ci hci
          split at h
          · rename_i hc
            obtain ⟨rfl, h0, h1, h2, h3⟩ := hc
            obtain ⟨h6, h7⟩ := am_fresh_l h3
            refine sw_new d hci h0 h1 h2 (by omega) ?_
            have e : am_upR (am_mw ws) sh.length (fun _ => 0) = am_mw ws := by
              funext a
              by_cases ha : a = sh.length
              · subst ha
                simp [am_upR, am_mw_hi h7 (Nat.le_refl _)]
              · simp [am_upR, ha]
            have e2 : (fun a => if a = sh.length then fun _ => 0 else am_zL a) = am_zL := by
              funext a
              split <;> rfl
            rw [e, e2]
            exact ih _ _ _ _ _ _ _ _ h
          · cases h
        · cases h
      · -- getfield
        split at h
        · split at h
          · rename_i ci j hf
            split at h
            · rename_i ci2 rs hk
              split at h
              · rename_i hc
                obtain ⟨rfl, rfl⟩ := hc
                split at h
                · rename_i v hv
                  exact sw_getf d hf hk hv (ih _ _ _ _ _ _ _ _ h)
                · cases h
              · cases h
            · cases h
          · cases h
        · cases h
      · -- putfield
        split at h
        · rename_i ci j hf
          obtain ⟨hj, hci⟩ := am_fl_b hf
          split at h
          · split at h
            · rename_i ci2 rs hk
              split at h
              · rename_i hc
                obtain ⟨rfl, rfl, h1, h2, h3, h4, h5⟩ := hc
                exact sw_putr d hf hk h1 h2 (am_cini_ok h3) (by rw [am_dcl _ hci _ hj, h4]) h5 (ih _ _ _ _ _ _ _ _ h)
              · cases h
            · cases h
          · split at h
            · rename_i ci2 rs hk
              split at h
              · rename_i hc
                obtain ⟨rfl, rfl, h1, h2⟩ := hc
                exact sw_puti d hf hk h1 h2 (ih _ _ _ _ _ _ _ _ h)
              · cases h
            · cases h
          · cases h
        · cases h
      · -- invokespecial
        split at h
        · rename_i hlen
          subst hlen
          split at h
          · rename_i ho
            split at h
            · split at h
              · rename_i hc
                exact sw_oi d ho hc.1 hc.2 (ih _ _ _ _ _ _ _ _ h)
              · cases h
            · cases h
          · split at h
            · rename_i j ne hcl
              have hS := am_split S (am_na j + 1)
              split at h
              · rename_i b As hAs
                rw [hAs, List.reverse_cons, List.append_assoc] at hS
                split at h
                · rename_i hc
                  obtain ⟨h1, h2, h3, h4, h5, h6⟩ := hc
                  split at h
                  · rename_i sh2 ws2 hr
                    have k1 := ih _ _ _ _ _ _ _ _ hr
                    have k2 := ih _ _ _ _ _ _ _ _ h
                    cases ne with
                    | false => exact sw_callI d hcl h1 h2 (am_cini_ok h3) h4 hS (am_ckr_ok h5) ⟨k2.1, k2.2.1⟩ k1 (fun r M1 N1 hq => by obtain ⟨rfl, rfl, rfl⟩ := hq; exact k2)
                    | true => exact sw_callIN h6 d hcl h1 h2 (am_cini_ok h3) h4 hS (am_ckr_ok h5) ⟨k2.1, k2.2.1⟩ k1 (fun r M1 N1 hq => by obtain ⟨rfl, rfl, rfl⟩ := hq; exact k2)
                  · cases h
                · cases h
              · cases h
            · cases h
        · cases h
      · -- the others
        split at h
        · rename_i hlen
          subst hlen
          split at h
          · rename_i hq
            exact sw_q d hq (ih _ _ _ _ _ _ _ _ h)
          · cases h
        · cases h
def am_ws1 : am_Wr := [(0, 11, 0), (112, 7, 0), (110, 2, 0), (110, 1, 0), (52, 4, 0), (32, 7, 0), (26, 5, 0), (18, 7, 0), (1, 11, 1)]
def am_ws2 : am_Wr := [(0, 11, 0), (112, 7, 0), (110, 2, 0), (110, 1, 0), (52, 4, 0), (32, 7, 0), (26, 5, 0), (18, 7, 0), (1, 11, 1)]
set_option maxRecDepth 100000 in
theorem am_run1 : am_cs 400 0 0 (am_en 0 [.ref 0]) [] [.inr (10, List.replicate (am_nf 10) none)] [] = some (am_SH.take 120, am_ws1) := by rfl
set_option maxRecDepth 100000 in
theorem am_run2 : am_cs 400 137 0 (am_en 137 [.ref 120]) [] (am_SH.take 120 ++ [.inr (11, List.replicate (am_nf 11) none)]) am_ws1 = some (am_SH, am_ws2) := by rfl
end
section
/-! ===== numbers; small methods of both sides ===== -/
theorem am_vi {x : Int32} {n : Nat} (h : (decide (0 ≤ x.toInt) && decide (x.toInt < n)) = true) : vp_in x n := by
  simp only [Bool.and_eq_true, decide_eq_true_eq] at h
  exact vp_in_iff.mpr h
theorem J_aaldk {X : am_X} {Q : am_Q} {i pc : Nat} {L S : am_V} {M : am_M} {N : am_N} {k n : Nat} {x : Int32} (k2 : Nat) (d : am_in i pc = some (.aaload, 1)) (hk : am_SH[k]? = some (.inl (2, n))) (hi : vp_in x n) (h2 : k + 1 + x.toNatClampNeg = k2) (kk : am_J X Q i (pc + 1) L (.ref k2 :: S) M N) : am_J X Q i pc L (.int x :: .ref k :: S) M N := by
  subst h2
  exact J_aald d hk hi kk
def am_bi (P : Prop) [Decidable P] : Int32 := if P then 1 else 0
theorem am_bi0 {P : Prop} [Decidable P] : am_bi P = 0 ↔ ¬ P := by
  unfold am_bi
  split <;> simp [*]
theorem am_bi1 {P : Prop} [Decidable P] : ¬ am_bi P = 0 ↔ P := by
  unfold am_bi
  split <;> simp [*]
theorem am_bin {P : Prop} [Decidable P] : narrow .boolean (.int (am_bi P)) = .int (am_bi P) := by
  unfold am_bi
  split <;> rfl
theorem am_bit {P : Prop} [Decidable P] (h : P) : am_bi P = 1 := if_pos h
theorem am_bif {P : Prop} [Decidable P] (h : ¬ P) : am_bi P = 0 := if_neg h
theorem lc_lt {x y : Int64} : lg_cmp x y < 0 ↔ x < y := by
  unfold lg_cmp
  simp only [gt_iff_lt, Int64.lt_iff_toInt_lt, ← Int64.toInt_inj]
  split
  · rename_i h
    simp
    omega
  · split
    · rename_i h1 h2
      simp
      omega
    · rename_i h1 h2
      simp
      omega
theorem lc_gt {x y : Int64} : 0 < lg_cmp x y ↔ y < x := by
  unfold lg_cmp
  split
  · rename_i h
    simp [h]
  · split
    · rename_i h1 h2
      simp [h1]
    · rename_i h1 h2
      simp [h1]
theorem sp12 {X : am_X} {M : am_M} {N : am_N} {x y : Int32} : am_J X (am_eq (some (.int (am_bi ((0 ≤ x.toInt ∧ x.toInt < 10) ∧ 0 ≤ y.toInt ∧ y.toInt < 6)))) (M) N) 12 0 (am_en 12 [.int x, .int y]) [] M N := by
  refine J_b 1 am_d12 rfl ?_
  refine J_if_lt 24 (am_d12 rfl) rfl (fun h1 => ?_) (fun h1 => ?_)
  · refine J_b 1 am_d12 rfl ?_
    exact J_iret (am_d12 rfl) rfl rfl ⟨by congr 2; simp [am_bi, Int32.lt_iff_toInt_lt, Int32.le_iff_toInt_le] at *; omega, rfl, rfl⟩
  · refine J_b 2 am_d12 rfl ?_
    refine J_icmp_ge 24 (am_d12 rfl) rfl (fun h7 => ?_) (fun h7 => ?_)
    · refine J_b 1 am_d12 rfl ?_
      exact J_iret (am_d12 rfl) rfl rfl ⟨by congr 2; simp [am_bi, Int32.lt_iff_toInt_lt, Int32.le_iff_toInt_le] at *; omega, rfl, rfl⟩
    · refine J_b 1 am_d12 rfl ?_
      refine J_if_lt 24 (am_d12 rfl) rfl (fun h11 => ?_) (fun h11 => ?_)
      · refine J_b 1 am_d12 rfl ?_
        exact J_iret (am_d12 rfl) rfl rfl ⟨by congr 2; simp [am_bi, Int32.lt_iff_toInt_lt, Int32.le_iff_toInt_le] at *; omega, rfl, rfl⟩
      · refine J_b 2 am_d12 rfl ?_
        refine J_icmp_ge 24 (am_d12 rfl) rfl (fun h17 => ?_) (fun h17 => ?_)
        · refine J_b 1 am_d12 rfl ?_
          exact J_iret (am_d12 rfl) rfl rfl ⟨by congr 2; simp [am_bi, Int32.lt_iff_toInt_lt, Int32.le_iff_toInt_le] at *; omega, rfl, rfl⟩
        · refine J_b 2 am_d12 rfl ?_
          exact J_iret (am_d12 rfl) rfl rfl ⟨by congr 2; simp [am_bi, Int32.lt_iff_toInt_lt, Int32.le_iff_toInt_le] at *; omega, rfl, rfl⟩
theorem sp139 {X : am_X} {M : am_M} {N : am_N} {x y : Int32} : am_J X (am_eq (some (.int (am_bi ((0 ≤ x.toInt ∧ x.toInt < 10) ∧ 0 ≤ y.toInt ∧ y.toInt < 6)))) (M) N) 139 0 (am_en 139 [.int x, .int y]) [] M N := by
  refine J_b 1 am_d139 rfl ?_
  refine J_if_lt 24 (am_d139 rfl) rfl (fun h1 => ?_) (fun h1 => ?_)
  · refine J_b 1 am_d139 rfl ?_
    exact J_iret (am_d139 rfl) rfl rfl ⟨by congr 2; simp [am_bi, Int32.lt_iff_toInt_lt, Int32.le_iff_toInt_le] at *; omega, rfl, rfl⟩
  · refine J_b 2 am_d139 rfl ?_
    refine J_icmp_ge 24 (am_d139 rfl) rfl (fun h7 => ?_) (fun h7 => ?_)
    · refine J_b 1 am_d139 rfl ?_
      exact J_iret (am_d139 rfl) rfl rfl ⟨by congr 2; simp [am_bi, Int32.lt_iff_toInt_lt, Int32.le_iff_toInt_le] at *; omega, rfl, rfl⟩
    · refine J_b 1 am_d139 rfl ?_
      refine J_if_lt 24 (am_d139 rfl) rfl (fun h11 => ?_) (fun h11 => ?_)
      · refine J_b 1 am_d139 rfl ?_
        exact J_iret (am_d139 rfl) rfl rfl ⟨by congr 2; simp [am_bi, Int32.lt_iff_toInt_lt, Int32.le_iff_toInt_le] at *; omega, rfl, rfl⟩
      · refine J_b 2 am_d139 rfl ?_
        refine J_icmp_ge 24 (am_d139 rfl) rfl (fun h17 => ?_) (fun h17 => ?_)
        · refine J_b 1 am_d139 rfl ?_
          exact J_iret (am_d139 rfl) rfl rfl ⟨by congr 2; simp [am_bi, Int32.lt_iff_toInt_lt, Int32.le_iff_toInt_le] at *; omega, rfl, rfl⟩
        · refine J_b 2 am_d139 rfl ?_
          exact J_iret (am_d139 rfl) rfl rfl ⟨by congr 2; simp [am_bi, Int32.lt_iff_toInt_lt, Int32.le_iff_toInt_le] at *; omega, rfl, rfl⟩
theorem sp13 {X : am_X} {M : am_M} {N : am_N} {x y : Int32} : am_J X (am_eq (some (.int (am_bi (0 ≤ x.toInt ∧ x.toInt < y.toInt)))) (M) N) 13 0 (am_en 13 [.int x, .int y]) [] M N := by
  refine J_b 1 am_d13 rfl ?_
  refine J_if_lt 13 (am_d13 rfl) rfl (fun h1 => ?_) (fun h1 => ?_)
  · refine J_b 1 am_d13 rfl ?_
    exact J_iret (am_d13 rfl) rfl rfl ⟨by congr 2; simp [am_bi, Int32.lt_iff_toInt_lt, Int32.le_iff_toInt_le] at *; omega, rfl, rfl⟩
  · refine J_b 2 am_d13 rfl ?_
    refine J_icmp_ge 13 (am_d13 rfl) rfl (fun h6 => ?_) (fun h6 => ?_)
    · refine J_b 1 am_d13 rfl ?_
      exact J_iret (am_d13 rfl) rfl rfl ⟨by congr 2; simp [am_bi, Int32.lt_iff_toInt_lt, Int32.le_iff_toInt_le] at *; omega, rfl, rfl⟩
    · refine J_b 2 am_d13 rfl ?_
      exact J_iret (am_d13 rfl) rfl rfl ⟨by congr 2; simp [am_bi, Int32.lt_iff_toInt_lt, Int32.le_iff_toInt_le] at *; omega, rfl, rfl⟩
theorem sp14 {X : am_X} {M : am_M} {N : am_N} {x y z : Int32} : am_J X (am_eq (some (.int (am_bi (y.toInt ≤ x.toInt ∧ x.toInt ≤ z.toInt)))) (M) N) 14 0 (am_en 14 [.int x, .int y, .int z]) [] M N := by
  refine J_b 2 am_d14 rfl ?_
  refine J_icmp_lt 14 (am_d14 rfl) rfl (fun h2 => ?_) (fun h2 => ?_)
  · refine J_b 1 am_d14 rfl ?_
    exact J_iret (am_d14 rfl) rfl rfl ⟨by congr 2; simp [am_bi, Int32.lt_iff_toInt_lt, Int32.le_iff_toInt_le] at *; omega, rfl, rfl⟩
  · refine J_b 2 am_d14 rfl ?_
    refine J_icmp_gt 14 (am_d14 rfl) rfl (fun h7 => ?_) (fun h7 => ?_)
    · refine J_b 1 am_d14 rfl ?_
      exact J_iret (am_d14 rfl) rfl rfl ⟨by congr 2; simp [am_bi, Int32.lt_iff_toInt_lt, Int32.le_iff_toInt_le] at *; omega, rfl, rfl⟩
    · refine J_b 2 am_d14 rfl ?_
      exact J_iret (am_d14 rfl) rfl rfl ⟨by congr 2; simp [am_bi, Int32.lt_iff_toInt_lt, Int32.le_iff_toInt_le] at *; omega, rfl, rfl⟩
theorem sp140 {X : am_X} {M : am_M} {N : am_N} {x y z : Int64} : am_J X (am_eq (some (.int (am_bi (y.toInt ≤ x.toInt ∧ x.toInt ≤ z.toInt)))) (M) N) 140 0 (am_en 140 [.long x, .long y, .long z]) [] M N := by
  refine J_b 3 am_d140 rfl ?_
  refine J_if_lt 17 (am_d140 rfl) rfl (fun h3 => ?_) (fun h3 => ?_)
  · refine J_b 1 am_d140 rfl ?_
    exact J_iret (am_d140 rfl) rfl rfl ⟨by congr 2; simp [am_bi, lc_lt, lc_gt, Int64.lt_iff_toInt_lt, Int64.le_iff_toInt_le] at *; omega, rfl, rfl⟩
  · refine J_b 3 am_d140 rfl ?_
    refine J_if_gt 17 (am_d140 rfl) rfl (fun h10 => ?_) (fun h10 => ?_)
    · refine J_b 1 am_d140 rfl ?_
      exact J_iret (am_d140 rfl) rfl rfl ⟨by congr 2; simp [am_bi, lc_lt, lc_gt, Int64.lt_iff_toInt_lt, Int64.le_iff_toInt_le] at *; omega, rfl, rfl⟩
    · refine J_b 2 am_d140 rfl ?_
      exact J_iret (am_d140 rfl) rfl rfl ⟨by congr 2; simp [am_bi, lc_lt, lc_gt, Int64.lt_iff_toInt_lt, Int64.le_iff_toInt_le] at *; omega, rfl, rfl⟩
theorem sp16 {X : am_X} {M : am_M} {N : am_N} {x y : Int32} : am_J X (am_eq (some (.int (6 * x + y))) (M) N) 16 0 (am_en 16 [.int x, .int y]) [] M N := by
  refine J_b 5 am_d16 rfl ?_
  exact J_iret (am_d16 rfl) rfl rfl ⟨rfl, rfl, rfl⟩
theorem sp73 {X : am_X} {M : am_M} {N : am_N} {x y : Int32} : am_J X (am_eq (some (.int (if x < y then y else x))) (M) N) 73 0 (am_en 73 [.int x, .int y]) [] M N := by
  refine J_b 2 am_d73 rfl ?_
  refine J_icmp_lt 9 (am_d73 rfl) rfl (fun h2 => ?_) (fun h2 => ?_)
  · refine J_b 1 am_d73 rfl ?_
    exact J_iret (am_d73 rfl) rfl rfl ⟨by simp [*], rfl, rfl⟩
  · refine J_b 2 am_d73 rfl ?_
    exact J_iret (am_d73 rfl) rfl rfl ⟨by simp [*], rfl, rfl⟩
theorem sp52 {X : am_X} {M : am_M} {N : am_N} {x : Int32} : am_J X (am_eq (some (.int (if 0 ≤ x then x else -x))) (M) N) 52 0 (am_en 52 [.int x]) [] M N := by
  refine J_b 1 am_d52 rfl ?_
  refine J_if_ge 9 (am_d52 rfl) rfl (fun h1 => ?_) (fun h1 => ?_)
  · refine J_b 1 am_d52 rfl ?_
    exact J_iret (am_d52 rfl) rfl rfl ⟨by simp [*], rfl, rfl⟩
  · refine J_b 3 am_d52 rfl ?_
    exact J_iret (am_d52 rfl) rfl rfl ⟨by simp [*], rfl, rfl⟩
theorem sp36 {X : am_X} {M : am_M} {N : am_N} {x y : Int32} : am_J X (am_eq (some (.int ((x >>> ((4 * y) &&& 31)) &&& 15))) (M) N) 36 0 (am_en 36 [.int x, .int y]) [] M N := by
  refine J_b 7 am_d36 rfl ?_
  exact J_iret (am_d36 rfl) rfl rfl ⟨rfl, rfl, rfl⟩
theorem sp90 {X : am_X} {M : am_M} {N : am_N} {x y : Int32} : am_J X (am_eq (some (.int (x * 6 + y))) (M) N) 90 0 (am_en 90 [.int x, .int y]) [] M N := by
  refine J_b 5 am_d90 rfl ?_
  exact J_iret (am_d90 rfl) rfl rfl ⟨rfl, rfl, rfl⟩
theorem sp22 {X : am_X} {M : am_M} {N : am_N} {x : Int32} : am_J X (am_eq (some (.int (am_bi ((-3 : Int32).toInt ≤ x.toInt ∧ x.toInt ≤ (3 : Int32).toInt)))) (M) N) 22 0 (am_en 22 [.int x]) [] M N := by
  refine J_b 3 am_d22 rfl ?_
  refine J_Sf 14 (am_d22 rfl) rfl (sp14) ?_
  exact J_iret (am_d22 rfl) rfl am_bin ⟨rfl, rfl, rfl⟩
theorem sp84 {X : am_X} {M : am_M} {N : am_N} {x : Int32} : am_J X (am_eq (some (.int (am_bi ((0 : Int32).toInt ≤ x.toInt ∧ x.toInt ≤ (999 : Int32).toInt)))) (M) N) 84 0 (am_en 84 [.int x]) [] M N := by
  refine J_b 3 am_d84 rfl ?_
  refine J_Sf 14 (am_d84 rfl) rfl (sp14) ?_
  exact J_iret (am_d84 rfl) rfl am_bin ⟨rfl, rfl, rfl⟩
theorem sp141 {X : am_X} {M : am_M} {N : am_N} {x : Int32} : am_J X (am_eq (some (.int (if x < 2 then 2 else if x < 4 then 16 else 4095))) (M) N) 141 0 (am_en 141 [.int x]) [] M N := by
  refine J_b 2 am_d141 rfl ?_
  refine J_icmp_ge 9 (am_d141 rfl) rfl (fun h2 => ?_) (fun h2 => ?_)
  · refine J_b 2 am_d141 rfl ?_
    refine J_icmp_ge 19 (am_d141 rfl) rfl (fun h11 => ?_) (fun h11 => ?_)
    · refine J_b 1 am_d141 rfl ?_
      exact J_iret (am_d141 rfl) rfl rfl ⟨by congr 2; (repeat' split) <;> first | rfl | (exfalso; simp [Int32.lt_iff_toInt_lt, Int32.le_iff_toInt_le] at *; omega), rfl, rfl⟩
    · refine J_b 2 am_d141 rfl ?_
      exact J_iret (am_d141 rfl) rfl rfl ⟨by congr 2; (repeat' split) <;> first | rfl | (exfalso; simp [Int32.lt_iff_toInt_lt, Int32.le_iff_toInt_le] at *; omega), rfl, rfl⟩
  · refine J_b 2 am_d141 rfl ?_
    exact J_iret (am_d141 rfl) rfl rfl ⟨by congr 2; (repeat' split) <;> first | rfl | (exfalso; simp [Int32.lt_iff_toInt_lt, Int32.le_iff_toInt_le] at *; omega), rfl, rfl⟩
theorem sp152 {X : am_X} {M : am_M} {N : am_N} {x : Int32} : am_J X (am_eq (some (.int (am_bi (0 ≤ x.toInt ∧ x.toInt < (M 120 22).toInt)))) (M) N) 152 0 (am_en 152 [.ref 120, .int x]) [] M N := by
  refine J_b 1 am_d152 rfl ?_
  refine J_if_lt 16 (am_d152 rfl) rfl (fun h1 => ?_) (fun h1 => ?_)
  · refine J_b 1 am_d152 rfl ?_
    exact J_iret (am_d152 rfl) rfl rfl ⟨by congr 2; simp [am_bi, Int32.lt_iff_toInt_lt, Int32.le_iff_toInt_le] at *; omega, rfl, rfl⟩
  · refine J_b 3 am_d152 rfl ?_
    refine J_icmp_ge 16 (am_d152 rfl) rfl (fun h9 => ?_) (fun h9 => ?_)
    · refine J_b 1 am_d152 rfl ?_
      exact J_iret (am_d152 rfl) rfl rfl ⟨by congr 2; simp [am_bi, Int32.lt_iff_toInt_lt, Int32.le_iff_toInt_le] at *; omega, rfl, rfl⟩
    · refine J_b 2 am_d152 rfl ?_
      exact J_iret (am_d152 rfl) rfl rfl ⟨by congr 2; simp [am_bi, Int32.lt_iff_toInt_lt, Int32.le_iff_toInt_le] at *; omega, rfl, rfl⟩
theorem sp164 {X : am_X} {M : am_M} {N : am_N} {x : Int32} : am_J X (am_eq (some (.int (am_bi (0 ≤ x.toInt ∧ x.toInt < (M 120 43).toInt)))) (M) N) 164 0 (am_en 164 [.ref 120, .int x]) [] M N := by
  refine J_b 1 am_d164 rfl ?_
  refine J_if_lt 16 (am_d164 rfl) rfl (fun h1 => ?_) (fun h1 => ?_)
  · refine J_b 1 am_d164 rfl ?_
    exact J_iret (am_d164 rfl) rfl rfl ⟨by congr 2; simp [am_bi, Int32.lt_iff_toInt_lt, Int32.le_iff_toInt_le] at *; omega, rfl, rfl⟩
  · refine J_b 3 am_d164 rfl ?_
    refine J_icmp_ge 16 (am_d164 rfl) rfl (fun h9 => ?_) (fun h9 => ?_)
    · refine J_b 1 am_d164 rfl ?_
      exact J_iret (am_d164 rfl) rfl rfl ⟨by congr 2; simp [am_bi, Int32.lt_iff_toInt_lt, Int32.le_iff_toInt_le] at *; omega, rfl, rfl⟩
    · refine J_b 2 am_d164 rfl ?_
      exact J_iret (am_d164 rfl) rfl rfl ⟨by congr 2; simp [am_bi, Int32.lt_iff_toInt_lt, Int32.le_iff_toInt_le] at *; omega, rfl, rfl⟩
theorem sp168 {X : am_X} {M : am_M} {N : am_N} {x : Int32} : am_J X (am_eq (some (.int (am_bi (0 ≤ x.toInt ∧ x.toInt < (M 120 44).toInt)))) (M) N) 168 0 (am_en 168 [.ref 120, .int x]) [] M N := by
  refine J_b 1 am_d168 rfl ?_
  refine J_if_lt 16 (am_d168 rfl) rfl (fun h1 => ?_) (fun h1 => ?_)
  · refine J_b 1 am_d168 rfl ?_
    exact J_iret (am_d168 rfl) rfl rfl ⟨by congr 2; simp [am_bi, Int32.lt_iff_toInt_lt, Int32.le_iff_toInt_le] at *; omega, rfl, rfl⟩
  · refine J_b 3 am_d168 rfl ?_
    refine J_icmp_ge 16 (am_d168 rfl) rfl (fun h9 => ?_) (fun h9 => ?_)
    · refine J_b 1 am_d168 rfl ?_
      exact J_iret (am_d168 rfl) rfl rfl ⟨by congr 2; simp [am_bi, Int32.lt_iff_toInt_lt, Int32.le_iff_toInt_le] at *; omega, rfl, rfl⟩
    · refine J_b 2 am_d168 rfl ?_
      exact J_iret (am_d168 rfl) rfl rfl ⟨by congr 2; simp [am_bi, Int32.lt_iff_toInt_lt, Int32.le_iff_toInt_le] at *; omega, rfl, rfl⟩
theorem sp19 {X : am_X} {M : am_M} {N : am_N} {x : Int32} : am_J X (am_eq (some (.int (am_bi (¬ x < 0 ∧ ¬ 6 < x / 10 ∧ ¬ 6 < x - x / 10 * 10 ∧ ¬ x - x / 10 * 10 < x / 10)))) (M) N) 19 0 (am_en 19 [.int x]) [] M N := by
  refine J_b 1 am_d19 rfl ?_
  refine J_if_lt 37 (am_d19 rfl) rfl (fun h1 => ?_) (fun h1 => ?_)
  · refine J_b 1 am_d19 rfl ?_
    exact J_iret (am_d19 rfl) rfl rfl ⟨by congr 2; simp_all [am_bi], rfl, rfl⟩
  · refine J_b 4 am_d19 rfl ?_
    refine J_icmp_gt 37 (am_d19 rfl) rfl (fun h10 => ?_) (fun h10 => ?_)
    · refine J_b 1 am_d19 rfl ?_
      exact J_iret (am_d19 rfl) rfl rfl ⟨by congr 2; simp_all [am_bi], rfl, rfl⟩
    · refine J_b 4 am_d19 rfl ?_
      refine J_icmp_gt 37 (am_d19 rfl) rfl (fun h19 => ?_) (fun h19 => ?_)
      · refine J_b 1 am_d19 rfl ?_
        exact J_iret (am_d19 rfl) rfl rfl ⟨by congr 2; simp_all [am_bi], rfl, rfl⟩
      · refine J_b 6 am_d19 rfl ?_
        refine J_icmp_gt 37 (am_d19 rfl) rfl (fun h30 => ?_) (fun h30 => ?_)
        · refine J_b 1 am_d19 rfl ?_
          exact J_iret (am_d19 rfl) rfl rfl ⟨by congr 2; simp_all [am_bi], rfl, rfl⟩
        · refine J_b 2 am_d19 rfl ?_
          exact J_iret (am_d19 rfl) rfl rfl ⟨by congr 2; simp_all [am_bi], rfl, rfl⟩
theorem sp146 {X : am_X} {M : am_M} {N : am_N} {x : Int32} : am_J X (am_eq (some (.int (am_bi (¬ x < 0 ∧ ¬ 6 < x / 10 ∧ ¬ 6 < x - x / 10 * 10 ∧ ¬ x - x / 10 * 10 < x / 10)))) (M) N) 146 0 (am_en 146 [.int x]) [] M N := by
  refine J_b 1 am_d146 rfl ?_
  refine J_if_lt 37 (am_d146 rfl) rfl (fun h1 => ?_) (fun h1 => ?_)
  · refine J_b 1 am_d146 rfl ?_
    exact J_iret (am_d146 rfl) rfl rfl ⟨by congr 2; simp_all [am_bi], rfl, rfl⟩
  · refine J_b 4 am_d146 rfl ?_
    refine J_icmp_gt 37 (am_d146 rfl) rfl (fun h10 => ?_) (fun h10 => ?_)
    · refine J_b 1 am_d146 rfl ?_
      exact J_iret (am_d146 rfl) rfl rfl ⟨by congr 2; simp_all [am_bi], rfl, rfl⟩
    · refine J_b 4 am_d146 rfl ?_
      refine J_icmp_gt 37 (am_d146 rfl) rfl (fun h19 => ?_) (fun h19 => ?_)
      · refine J_b 1 am_d146 rfl ?_
        exact J_iret (am_d146 rfl) rfl rfl ⟨by congr 2; simp_all [am_bi], rfl, rfl⟩
      · refine J_b 6 am_d146 rfl ?_
        refine J_icmp_gt 37 (am_d146 rfl) rfl (fun h30 => ?_) (fun h30 => ?_)
        · refine J_b 1 am_d146 rfl ?_
          exact J_iret (am_d146 rfl) rfl rfl ⟨by congr 2; simp_all [am_bi], rfl, rfl⟩
        · refine J_b 2 am_d146 rfl ?_
          exact J_iret (am_d146 rfl) rfl rfl ⟨by congr 2; simp_all [am_bi], rfl, rfl⟩
theorem sp157 {X : am_X} {M : am_M} {N : am_N} {k w : Int32} : am_J X (am_eq (some (.int (if k = 0 then 0 else if k = 1 then w else if k = 2 then w / 2 else 2 * w))) (M) N) 157 0 (am_en 157 [.int k, .int w]) [] M N := by
  refine J_b 1 am_d157 rfl ?_
  refine J_if_ne 8 (am_d157 rfl) rfl (fun h1 => ?_) (fun h1 => ?_)
  · refine J_b 2 am_d157 rfl ?_
    refine J_icmp_ne 17 (am_d157 rfl) rfl (fun h10 => ?_) (fun h10 => ?_)
    · refine J_b 2 am_d157 rfl ?_
      refine J_icmp_ne 28 (am_d157 rfl) rfl (fun h19 => ?_) (fun h19 => ?_)
      · refine J_b 3 am_d157 rfl ?_
        exact J_iret (am_d157 rfl) rfl rfl ⟨by simp_all, rfl, rfl⟩
      · refine J_b 4 am_d157 rfl ?_
        exact J_iret (am_d157 rfl) rfl rfl ⟨by simp_all, rfl, rfl⟩
    · refine J_b 2 am_d157 rfl ?_
      exact J_iret (am_d157 rfl) rfl rfl ⟨by simp_all, rfl, rfl⟩
  · refine J_b 2 am_d157 rfl ?_
    exact J_iret (am_d157 rfl) rfl rfl ⟨by simp_all, rfl, rfl⟩
theorem sp201 {X : am_X} {M : am_M} {N : am_N} {x : Int32} : am_J X (am_eq (some (.int (am_bi (48 ≤ x.toInt ∧ x.toInt ≤ 57)))) (M) N) 201 0 (am_en 201 [.int x]) [] M N := by
  refine J_b 2 am_d201 rfl ?_
  refine J_icmp_lt 16 (am_d201 rfl) rfl (fun h3 => ?_) (fun h3 => ?_)
  · refine J_b 1 am_d201 rfl ?_
    exact J_iret (am_d201 rfl) rfl rfl ⟨by congr 2; simp [am_bi, Int32.lt_iff_toInt_lt, Int32.le_iff_toInt_le] at *; omega, rfl, rfl⟩
  · refine J_b 2 am_d201 rfl ?_
    refine J_icmp_gt 16 (am_d201 rfl) rfl (fun h9 => ?_) (fun h9 => ?_)
    · refine J_b 1 am_d201 rfl ?_
      exact J_iret (am_d201 rfl) rfl rfl ⟨by congr 2; simp [am_bi, Int32.lt_iff_toInt_lt, Int32.le_iff_toInt_le] at *; omega, rfl, rfl⟩
    · refine J_b 2 am_d201 rfl ?_
      exact J_iret (am_d201 rfl) rfl rfl ⟨by congr 2; simp [am_bi, Int32.lt_iff_toInt_lt, Int32.le_iff_toInt_le] at *; omega, rfl, rfl⟩
theorem sp206 {X : am_X} {M : am_M} {N : am_N} {v a b : Int32} : am_J X (am_eq (some (.int (if v < a then a - v else if b < v then v - b else 0))) (M) N) 206 0 (am_en 206 [.int v, .int a, .int b]) [] M N := by
  refine J_b 2 am_d206 rfl ?_
  refine J_icmp_ge 11 (am_d206 rfl) rfl (fun h2 => ?_) (fun h2 => ?_)
  · refine J_b 2 am_d206 rfl ?_
    refine J_icmp_le 22 (am_d206 rfl) rfl (fun h13 => ?_) (fun h13 => ?_)
    · refine J_b 1 am_d206 rfl ?_
      exact J_iret (am_d206 rfl) rfl rfl ⟨by congr 2; (repeat' split) <;> first | rfl | (exfalso; simp [Int32.lt_iff_toInt_lt, Int32.le_iff_toInt_le] at *; omega), rfl, rfl⟩
    · refine J_b 4 am_d206 rfl ?_
      exact J_iret (am_d206 rfl) rfl rfl ⟨by congr 2; (repeat' split) <;> first | rfl | (exfalso; simp [Int32.lt_iff_toInt_lt, Int32.le_iff_toInt_le] at *; omega), rfl, rfl⟩
  · refine J_b 4 am_d206 rfl ?_
    exact J_iret (am_d206 rfl) rfl rfl ⟨by congr 2; (repeat' split) <;> first | rfl | (exfalso; simp [Int32.lt_iff_toInt_lt, Int32.le_iff_toInt_le] at *; omega), rfl, rfl⟩
end
section
/-! ===== base: consequence, numbers, sums, rows ===== -/
theorem J_cq {X : am_X} {Q Q' : am_Q} {i pc : Nat} {L S : am_V} {M : am_M} {N : am_N} (h : am_J X Q i pc L S M N) (hq : ∀ r M1 N1, Q r M1 N1 → Q' r M1 N1) : am_J X Q' i pc L S M N := by
  refine ⟨h.1, h.2.1, fun p e R s m args below meth c H locs ls cells slots C St T hT hS => ?_⟩
  obtain ⟨t, h1, o, h2, h3, ⟨⟨r, M1, N1, a, b, c⟩, d⟩, h5⟩ := h.2.2 p e R s m args below meth c H locs ls cells slots C St T hT hS
  exact ⟨t, h1, o, h2, h3, ⟨⟨r, M1, N1, a, hq _ _ _ b, c⟩, d⟩, h5⟩
theorem J_eq {X : am_X} {Q : am_Q} {i pc : Nat} {L S : am_V} {M : am_M} {N : am_N} {v : Option Value} {M1 : am_M} {N1 : am_N} (h : am_J X (am_eq v M1 N1) i pc L S M N) (hq : Q v M1 N1) : am_J X Q i pc L S M N :=
  J_cq h (fun r M2 N2 h => by obtain ⟨rfl, rfl, rfl⟩ := h; exact hq)
theorem vp_of {x : Int32} {n : Nat} (h : 0 ≤ x.toInt ∧ x.toInt < n) : vp_in x n := vp_in_iff.mpr h
theorem I_cl {x : Int32} (h : 0 ≤ x.toInt) : (x.toNatClampNeg : Int) = x.toInt := by
  have : x.toNatClampNeg = x.toInt.toNat := rfl
  omega
theorem I_eq {x y : Int32} (h : x.toInt = y.toInt) : x = y := Int32.toInt_inj.mp h
theorem I_nI {x : Int32} (h : 0 ≤ x.toInt) : x = nI x.toNatClampNeg := by
  have h1 := I_cl h
  have h2 : x.toInt < 2147483648 := Int32.toInt_lt x
  refine I_eq ?_
  rw [nI_toInt (by omega)]
  omega
theorem nI_i {n : Nat} (h : n < 2147483648) : (nI n).toInt = (n : Int) := nI_toInt h
theorem nI_c {n : Nat} (h : n < 2147483648) : (nI n).toNatClampNeg = n := nI_clamp h
theorem nI_mul (a b : Nat) : nI a * nI b = nI (a * b) := by
  unfold nI
  exact (Int32.ofNat_mul a b).symm
def smI (f : Nat → Int32) : Nat → Int32
  | 0 => 0
  | n + 1 => smI f n + f n
theorem smI_congr {f g : Nat → Int32} {n : Nat} (h : ∀ j, j < n → f j = g j) : smI f n = smI g n := by
  induction n with
  | zero => rfl
  | succ n ih =>
    show smI f n + f n = smI g n + g n
    rw [ih (fun j hj => h j (by omega)), h n (by omega)]
theorem smI_zero {f : Nat → Int32} {n : Nat} (h : ∀ j, j < n → f j = 0) : smI f n = 0 := by
  induction n with
  | zero => rfl
  | succ n ih =>
    show smI f n + f n = 0
    rw [ih (fun j hj => h j (by omega)), h n (by omega)]
    rfl
def itr {α : Type} (f : Nat → α → α) : Nat → α → α
  | 0, a => a
  | n + 1, a => f n (itr f n a)
theorem up_r {M : am_M} {k j : Nat} {x : Int32} : am_up M k j x k j = x := by
  unfold am_up
  rw [if_pos rfl, if_pos rfl]
theorem up_n {M : am_M} {k j : Nat} {x : Int32} {a : Nat} (h : a ≠ k) : am_up M k j x a = M a := by
  funext b
  unfold am_up
  rw [if_neg h]
theorem up_k {M : am_M} {k j : Nat} {x : Int32} : am_up M k j x k = fun b => if b = j then x else M k b := by
  funext b
  unfold am_up
  rw [if_pos rfl]
theorem upR_r {M : am_M} {k : Nat} {f : Nat → Int32} : am_upR M k f k = f := by
  unfold am_upR
  rw [if_pos rfl]
theorem upR_n {M : am_M} {k : Nat} {f : Nat → Int32} {a : Nat} (h : a ≠ k) : am_upR M k f a = M a := by
  unfold am_upR
  rw [if_neg h]
theorem up_id {M : am_M} {k j : Nat} {x : Int32} (h : M k j = x) : am_up M k j x = M := by
  funext a b
  unfold am_up
  split
  · split
    · subst_vars
      rfl
    · rfl
  · rfl
theorem up_upR {M : am_M} {k j : Nat} {x : Int32} : am_up M k j x = am_upR M k (fun b => if b = j then x else M k b) := by
  funext a b
  unfold am_up am_upR
  split
  · subst_vars
    rfl
  · rfl
theorem upR_upR {M : am_M} {k : Nat} {f g : Nat → Int32} : am_upR (am_upR M k f) k g = am_upR M k g := by
  funext a
  unfold am_upR
  split <;> rfl
theorem upR_id {M : am_M} {k : Nat} : am_upR M k (M k) = M := by
  funext a
  unfold am_upR
  split
  · subst_vars
    rfl
  · rfl
/-! numbers without overflow -/
theorem bm_id {x : Int} (h : -2147483648 ≤ x ∧ x < 2147483648) : x.bmod (2 ^ 32) = x := by
  rw [Int.bmod_eq_of_le (by simp; omega) (by simp; omega)]
theorem I_add {a b : Int32} (h : -2147483648 ≤ a.toInt + b.toInt ∧ a.toInt + b.toInt < 2147483648) : (a + b).toInt = a.toInt + b.toInt := by
  rw [Int32.toInt_add, bm_id h]
theorem I_sub {a b : Int32} (h : -2147483648 ≤ a.toInt - b.toInt ∧ a.toInt - b.toInt < 2147483648) : (a - b).toInt = a.toInt - b.toInt := by
  rw [Int32.toInt_sub, bm_id h]
theorem I_mul {a b : Int32} (h : -2147483648 ≤ a.toInt * b.toInt ∧ a.toInt * b.toInt < 2147483648) : (a * b).toInt = a.toInt * b.toInt := by
  rw [Int32.toInt_mul, bm_id h]
theorem I_rng (a : Int32) : -2147483648 ≤ a.toInt ∧ a.toInt < 2147483648 := ⟨Int32.le_toInt a, Int32.toInt_lt a⟩
theorem I_divn {a : Int32} {n : Nat} (ha : 0 ≤ a.toInt) (hn : 0 < n) (hn2 : n < 2147483648) {b : Int32} (hb : b.toInt = n) : (a / b).toInt = a.toInt / n := by
  have h1 := I_rng a
  rw [Int32.toInt_div, hb, Int.tdiv_eq_ediv_of_nonneg ha, bm_id ⟨?_, ?_⟩]
  · have := Int.ediv_nonneg ha (show (0 : Int) ≤ n by omega)
    omega
  · have := Int.ediv_le_self (n : Int) ha
    omega
theorem I_div10 {a : Int32} (ha : 0 ≤ a.toInt) : (a / 10).toInt = a.toInt / 10 := I_divn (n := 10) ha (by decide) (by decide) rfl
theorem I_div100 {a : Int32} (ha : 0 ≤ a.toInt) : (a / 100).toInt = a.toInt / 100 := I_divn (n := 100) ha (by decide) (by decide) rfl
theorem I_div6 {a : Int32} (ha : 0 ≤ a.toInt) : (a / 6).toInt = a.toInt / 6 := I_divn (n := 6) ha (by decide) (by decide) rfl
theorem I_div12 {a : Int32} (ha : 0 ≤ a.toInt) : (a / 12).toInt = a.toInt / 12 := I_divn (n := 12) ha (by decide) (by decide) rfl
theorem I_div48 {a : Int32} (ha : 0 ≤ a.toInt) : (a / 48).toInt = a.toInt / 48 := I_divn (n := 48) ha (by decide) (by decide) rfl
theorem I_div4 {a : Int32} (ha : 0 ≤ a.toInt) : (a / 4).toInt = a.toInt / 4 := I_divn (n := 4) ha (by decide) (by decide) rfl
theorem I_div16 {a : Int32} (ha : 0 ≤ a.toInt) : (a / 16).toInt = a.toInt / 16 := I_divn (n := 16) ha (by decide) (by decide) rfl
theorem I_remn {a : Int32} {n : Nat} (ha : 0 ≤ a.toInt) (hn : 0 < n) (hn2 : n < 2147483648) {b : Int32} (hb : b.toInt = n) : (a - a / b * b).toInt = a.toInt % n := by
  have h1 := I_rng a
  have h2 := I_divn (a := a) ha hn hn2 hb
  have h3 : 0 ≤ a.toInt % n := Int.emod_nonneg _ (by omega)
  have h4 : a.toInt % n + a.toInt / n * n = a.toInt := by rw [Int.add_comm]; exact Int.ediv_mul_add_emod _ _
  have h5 : 0 ≤ a.toInt / n := Int.ediv_nonneg ha (by omega)
  have h6 : 0 ≤ a.toInt / n * n := Int.mul_nonneg h5 (by omega)
  have h7 : (a / b * b).toInt = a.toInt / n * n := by rw [I_mul (by rw [h2, hb]; omega), h2, hb]
  rw [I_sub (by rw [h7]; omega), h7]
  omega
theorem I_rem10 {a : Int32} (ha : 0 ≤ a.toInt) : (a - a / 10 * 10).toInt = a.toInt % 10 := I_remn (n := 10) ha (by decide) (by decide) rfl
theorem I_rem100 {a : Int32} (ha : 0 ≤ a.toInt) : (a - a / 100 * 100).toInt = a.toInt % 100 := I_remn (n := 100) ha (by decide) (by decide) rfl
theorem I_rem6 {a : Int32} (ha : 0 ≤ a.toInt) : (a - a / 6 * 6).toInt = a.toInt % 6 := I_remn (n := 6) ha (by decide) (by decide) rfl
theorem I_rem12 {a : Int32} (ha : 0 ≤ a.toInt) : (a - a / 12 * 12).toInt = a.toInt % 12 := I_remn (n := 12) ha (by decide) (by decide) rfl
theorem I_rem48 {a : Int32} (ha : 0 ≤ a.toInt) : (a - a / 48 * 48).toInt = a.toInt % 48 := I_remn (n := 48) ha (by decide) (by decide) rfl
theorem I_rem3 {a : Int32} (ha : 0 ≤ a.toInt) : (a - a / 3 * 3).toInt = a.toInt % 3 := I_remn (n := 3) ha (by decide) (by decide) rfl
theorem nI_divn {n d : Nat} (h : n < 2147483648) (hd : 0 < d) (hd2 : d < 2147483648) {b : Int32} (hb : b.toInt = d) : nI n / b = nI (n / d) := by
  have h1 : n / d ≤ n := Nat.div_le_self _ _
  refine I_eq ?_
  rw [I_divn (by rw [nI_i h]; omega) hd hd2 hb, nI_i h, nI_i (by omega)]
  exact (Int.natCast_ediv n d).symm
theorem nI_remn {n d : Nat} (h : n < 2147483648) (hd : 0 < d) (hd2 : d < 2147483648) {b : Int32} (hb : b.toInt = d) : nI n - nI n / b * b = nI (n % d) := by
  have h1 : n % d ≤ n := Nat.mod_le _ _
  refine I_eq ?_
  rw [I_remn (by rw [nI_i h]; omega) hd hd2 hb, nI_i h, nI_i (by omega)]
  exact (Int.natCast_emod n d).symm
/-! calls, by the number of arguments; the stack behind them stays as it is -/
section AMC
variable {X : am_X} {Q Q1 : am_Q} {i pc : Nat} {L T : am_V} {M : am_M} {N : am_N}
theorem J_en {i : Nat} {As : am_V} (h : am_en i As = L) (k : am_J X Q i 0 L [] M N) : am_J X Q i 0 (am_en i As) [] M N := by
  rw [h]
  exact k
theorem J_S0s {idx : Nat} {w : Value} {M1 : am_M} {N1 : am_N} (j : Nat) (d : am_in i pc = some (.invokestatic idx, 3)) (hc : am_ckS i idx j (T) = true) (hn : am_na j = 0) (k1 : am_J X (am_eq (some w) M1 N1) j 0 (am_en j []) [] M N) (k2 : am_J X Q i (pc + 3) L (w :: T) M1 N1) : am_J X Q i pc L (T) M N := J_Sf j d hc (by rw [hn]; exact k1) (by rw [hn]; exact k2)
theorem J_S0n {idx : Nat} {M1 : am_M} {N1 : am_N} (j : Nat) (d : am_in i pc = some (.invokestatic idx, 3)) (hc : am_ckS i idx j (T) = true) (hn : am_na j = 0) (k1 : am_J X (am_eq (none) M1 N1) j 0 (am_en j []) [] M N) (k2 : am_J X Q i (pc + 3) L (T) M1 N1) : am_J X Q i pc L (T) M N := J_Sf j d hc (by rw [hn]; exact k1) (by rw [hn]; exact k2)
theorem J_V0s {idx b : Nat} {w : Value} {M1 : am_M} {N1 : am_N} (j : Nat) (d : am_in i pc = some (.invokevirtual idx, 3)) (hc : am_ckV i idx j (.ref b :: T) = true) (hn : am_na j = 0) (k1 : am_J X (am_eq (some w) M1 N1) j 0 (am_en j [.ref b]) [] M N) (k2 : am_J X Q i (pc + 3) L (w :: T) M1 N1) : am_J X Q i pc L (.ref b :: T) M N := J_Vf j d hc (by rw [hn]; exact k1) (by rw [hn]; exact k2)
theorem J_V0n {idx b : Nat} {M1 : am_M} {N1 : am_N} (j : Nat) (d : am_in i pc = some (.invokevirtual idx, 3)) (hc : am_ckV i idx j (.ref b :: T) = true) (hn : am_na j = 0) (k1 : am_J X (am_eq (none) M1 N1) j 0 (am_en j [.ref b]) [] M N) (k2 : am_J X Q i (pc + 3) L (T) M1 N1) : am_J X Q i pc L (.ref b :: T) M N := J_Vf j d hc (by rw [hn]; exact k1) (by rw [hn]; exact k2)
theorem J_S1s {idx : Nat} {w : Value} {M1 : am_M} {N1 : am_N} {a0 : Value} (j : Nat) (d : am_in i pc = some (.invokestatic idx, 3)) (hc : am_ckS i idx j (a0 :: T) = true) (hn : am_na j = 1) (k1 : am_J X (am_eq (some w) M1 N1) j 0 (am_en j [a0]) [] M N) (k2 : am_J X Q i (pc + 3) L (w :: T) M1 N1) : am_J X Q i pc L (a0 :: T) M N := J_Sf j d hc (by rw [hn]; exact k1) (by rw [hn]; exact k2)
theorem J_S1n {idx : Nat} {M1 : am_M} {N1 : am_N} {a0 : Value} (j : Nat) (d : am_in i pc = some (.invokestatic idx, 3)) (hc : am_ckS i idx j (a0 :: T) = true) (hn : am_na j = 1) (k1 : am_J X (am_eq (none) M1 N1) j 0 (am_en j [a0]) [] M N) (k2 : am_J X Q i (pc + 3) L (T) M1 N1) : am_J X Q i pc L (a0 :: T) M N := J_Sf j d hc (by rw [hn]; exact k1) (by rw [hn]; exact k2)
theorem J_V1s {idx b : Nat} {w : Value} {M1 : am_M} {N1 : am_N} {a0 : Value} (j : Nat) (d : am_in i pc = some (.invokevirtual idx, 3)) (hc : am_ckV i idx j (a0 :: .ref b :: T) = true) (hn : am_na j = 1) (k1 : am_J X (am_eq (some w) M1 N1) j 0 (am_en j [.ref b, a0]) [] M N) (k2 : am_J X Q i (pc + 3) L (w :: T) M1 N1) : am_J X Q i pc L (a0 :: .ref b :: T) M N := J_Vf j d hc (by rw [hn]; exact k1) (by rw [hn]; exact k2)
theorem J_V1n {idx b : Nat} {M1 : am_M} {N1 : am_N} {a0 : Value} (j : Nat) (d : am_in i pc = some (.invokevirtual idx, 3)) (hc : am_ckV i idx j (a0 :: .ref b :: T) = true) (hn : am_na j = 1) (k1 : am_J X (am_eq (none) M1 N1) j 0 (am_en j [.ref b, a0]) [] M N) (k2 : am_J X Q i (pc + 3) L (T) M1 N1) : am_J X Q i pc L (a0 :: .ref b :: T) M N := J_Vf j d hc (by rw [hn]; exact k1) (by rw [hn]; exact k2)
theorem J_S2s {idx : Nat} {w : Value} {M1 : am_M} {N1 : am_N} {a0 a1 : Value} (j : Nat) (d : am_in i pc = some (.invokestatic idx, 3)) (hc : am_ckS i idx j (a1 :: a0 :: T) = true) (hn : am_na j = 2) (k1 : am_J X (am_eq (some w) M1 N1) j 0 (am_en j [a0, a1]) [] M N) (k2 : am_J X Q i (pc + 3) L (w :: T) M1 N1) : am_J X Q i pc L (a1 :: a0 :: T) M N := J_Sf j d hc (by rw [hn]; exact k1) (by rw [hn]; exact k2)
theorem J_S2n {idx : Nat} {M1 : am_M} {N1 : am_N} {a0 a1 : Value} (j : Nat) (d : am_in i pc = some (.invokestatic idx, 3)) (hc : am_ckS i idx j (a1 :: a0 :: T) = true) (hn : am_na j = 2) (k1 : am_J X (am_eq (none) M1 N1) j 0 (am_en j [a0, a1]) [] M N) (k2 : am_J X Q i (pc + 3) L (T) M1 N1) : am_J X Q i pc L (a1 :: a0 :: T) M N := J_Sf j d hc (by rw [hn]; exact k1) (by rw [hn]; exact k2)
theorem J_V2s {idx b : Nat} {w : Value} {M1 : am_M} {N1 : am_N} {a0 a1 : Value} (j : Nat) (d : am_in i pc = some (.invokevirtual idx, 3)) (hc : am_ckV i idx j (a1 :: a0 :: .ref b :: T) = true) (hn : am_na j = 2) (k1 : am_J X (am_eq (some w) M1 N1) j 0 (am_en j [.ref b, a0, a1]) [] M N) (k2 : am_J X Q i (pc + 3) L (w :: T) M1 N1) : am_J X Q i pc L (a1 :: a0 :: .ref b :: T) M N := J_Vf j d hc (by rw [hn]; exact k1) (by rw [hn]; exact k2)
theorem J_V2n {idx b : Nat} {M1 : am_M} {N1 : am_N} {a0 a1 : Value} (j : Nat) (d : am_in i pc = some (.invokevirtual idx, 3)) (hc : am_ckV i idx j (a1 :: a0 :: .ref b :: T) = true) (hn : am_na j = 2) (k1 : am_J X (am_eq (none) M1 N1) j 0 (am_en j [.ref b, a0, a1]) [] M N) (k2 : am_J X Q i (pc + 3) L (T) M1 N1) : am_J X Q i pc L (a1 :: a0 :: .ref b :: T) M N := J_Vf j d hc (by rw [hn]; exact k1) (by rw [hn]; exact k2)
theorem J_S3s {idx : Nat} {w : Value} {M1 : am_M} {N1 : am_N} {a0 a1 a2 : Value} (j : Nat) (d : am_in i pc = some (.invokestatic idx, 3)) (hc : am_ckS i idx j (a2 :: a1 :: a0 :: T) = true) (hn : am_na j = 3) (k1 : am_J X (am_eq (some w) M1 N1) j 0 (am_en j [a0, a1, a2]) [] M N) (k2 : am_J X Q i (pc + 3) L (w :: T) M1 N1) : am_J X Q i pc L (a2 :: a1 :: a0 :: T) M N := J_Sf j d hc (by rw [hn]; exact k1) (by rw [hn]; exact k2)
theorem J_S3n {idx : Nat} {M1 : am_M} {N1 : am_N} {a0 a1 a2 : Value} (j : Nat) (d : am_in i pc = some (.invokestatic idx, 3)) (hc : am_ckS i idx j (a2 :: a1 :: a0 :: T) = true) (hn : am_na j = 3) (k1 : am_J X (am_eq (none) M1 N1) j 0 (am_en j [a0, a1, a2]) [] M N) (k2 : am_J X Q i (pc + 3) L (T) M1 N1) : am_J X Q i pc L (a2 :: a1 :: a0 :: T) M N := J_Sf j d hc (by rw [hn]; exact k1) (by rw [hn]; exact k2)
theorem J_V3s {idx b : Nat} {w : Value} {M1 : am_M} {N1 : am_N} {a0 a1 a2 : Value} (j : Nat) (d : am_in i pc = some (.invokevirtual idx, 3)) (hc : am_ckV i idx j (a2 :: a1 :: a0 :: .ref b :: T) = true) (hn : am_na j = 3) (k1 : am_J X (am_eq (some w) M1 N1) j 0 (am_en j [.ref b, a0, a1, a2]) [] M N) (k2 : am_J X Q i (pc + 3) L (w :: T) M1 N1) : am_J X Q i pc L (a2 :: a1 :: a0 :: .ref b :: T) M N := J_Vf j d hc (by rw [hn]; exact k1) (by rw [hn]; exact k2)
theorem J_V3n {idx b : Nat} {M1 : am_M} {N1 : am_N} {a0 a1 a2 : Value} (j : Nat) (d : am_in i pc = some (.invokevirtual idx, 3)) (hc : am_ckV i idx j (a2 :: a1 :: a0 :: .ref b :: T) = true) (hn : am_na j = 3) (k1 : am_J X (am_eq (none) M1 N1) j 0 (am_en j [.ref b, a0, a1, a2]) [] M N) (k2 : am_J X Q i (pc + 3) L (T) M1 N1) : am_J X Q i pc L (a2 :: a1 :: a0 :: .ref b :: T) M N := J_Vf j d hc (by rw [hn]; exact k1) (by rw [hn]; exact k2)
theorem J_S4s {idx : Nat} {w : Value} {M1 : am_M} {N1 : am_N} {a0 a1 a2 a3 : Value} (j : Nat) (d : am_in i pc = some (.invokestatic idx, 3)) (hc : am_ckS i idx j (a3 :: a2 :: a1 :: a0 :: T) = true) (hn : am_na j = 4) (k1 : am_J X (am_eq (some w) M1 N1) j 0 (am_en j [a0, a1, a2, a3]) [] M N) (k2 : am_J X Q i (pc + 3) L (w :: T) M1 N1) : am_J X Q i pc L (a3 :: a2 :: a1 :: a0 :: T) M N := J_Sf j d hc (by rw [hn]; exact k1) (by rw [hn]; exact k2)
theorem J_S4n {idx : Nat} {M1 : am_M} {N1 : am_N} {a0 a1 a2 a3 : Value} (j : Nat) (d : am_in i pc = some (.invokestatic idx, 3)) (hc : am_ckS i idx j (a3 :: a2 :: a1 :: a0 :: T) = true) (hn : am_na j = 4) (k1 : am_J X (am_eq (none) M1 N1) j 0 (am_en j [a0, a1, a2, a3]) [] M N) (k2 : am_J X Q i (pc + 3) L (T) M1 N1) : am_J X Q i pc L (a3 :: a2 :: a1 :: a0 :: T) M N := J_Sf j d hc (by rw [hn]; exact k1) (by rw [hn]; exact k2)
theorem J_V4s {idx b : Nat} {w : Value} {M1 : am_M} {N1 : am_N} {a0 a1 a2 a3 : Value} (j : Nat) (d : am_in i pc = some (.invokevirtual idx, 3)) (hc : am_ckV i idx j (a3 :: a2 :: a1 :: a0 :: .ref b :: T) = true) (hn : am_na j = 4) (k1 : am_J X (am_eq (some w) M1 N1) j 0 (am_en j [.ref b, a0, a1, a2, a3]) [] M N) (k2 : am_J X Q i (pc + 3) L (w :: T) M1 N1) : am_J X Q i pc L (a3 :: a2 :: a1 :: a0 :: .ref b :: T) M N := J_Vf j d hc (by rw [hn]; exact k1) (by rw [hn]; exact k2)
theorem J_V4n {idx b : Nat} {M1 : am_M} {N1 : am_N} {a0 a1 a2 a3 : Value} (j : Nat) (d : am_in i pc = some (.invokevirtual idx, 3)) (hc : am_ckV i idx j (a3 :: a2 :: a1 :: a0 :: .ref b :: T) = true) (hn : am_na j = 4) (k1 : am_J X (am_eq (none) M1 N1) j 0 (am_en j [.ref b, a0, a1, a2, a3]) [] M N) (k2 : am_J X Q i (pc + 3) L (T) M1 N1) : am_J X Q i pc L (a3 :: a2 :: a1 :: a0 :: .ref b :: T) M N := J_Vf j d hc (by rw [hn]; exact k1) (by rw [hn]; exact k2)
theorem J_S5s {idx : Nat} {w : Value} {M1 : am_M} {N1 : am_N} {a0 a1 a2 a3 a4 : Value} (j : Nat) (d : am_in i pc = some (.invokestatic idx, 3)) (hc : am_ckS i idx j (a4 :: a3 :: a2 :: a1 :: a0 :: T) = true) (hn : am_na j = 5) (k1 : am_J X (am_eq (some w) M1 N1) j 0 (am_en j [a0, a1, a2, a3, a4]) [] M N) (k2 : am_J X Q i (pc + 3) L (w :: T) M1 N1) : am_J X Q i pc L (a4 :: a3 :: a2 :: a1 :: a0 :: T) M N := J_Sf j d hc (by rw [hn]; exact k1) (by rw [hn]; exact k2)
theorem J_S5n {idx : Nat} {M1 : am_M} {N1 : am_N} {a0 a1 a2 a3 a4 : Value} (j : Nat) (d : am_in i pc = some (.invokestatic idx, 3)) (hc : am_ckS i idx j (a4 :: a3 :: a2 :: a1 :: a0 :: T) = true) (hn : am_na j = 5) (k1 : am_J X (am_eq (none) M1 N1) j 0 (am_en j [a0, a1, a2, a3, a4]) [] M N) (k2 : am_J X Q i (pc + 3) L (T) M1 N1) : am_J X Q i pc L (a4 :: a3 :: a2 :: a1 :: a0 :: T) M N := J_Sf j d hc (by rw [hn]; exact k1) (by rw [hn]; exact k2)
theorem J_V5s {idx b : Nat} {w : Value} {M1 : am_M} {N1 : am_N} {a0 a1 a2 a3 a4 : Value} (j : Nat) (d : am_in i pc = some (.invokevirtual idx, 3)) (hc : am_ckV i idx j (a4 :: a3 :: a2 :: a1 :: a0 :: .ref b :: T) = true) (hn : am_na j = 5) (k1 : am_J X (am_eq (some w) M1 N1) j 0 (am_en j [.ref b, a0, a1, a2, a3, a4]) [] M N) (k2 : am_J X Q i (pc + 3) L (w :: T) M1 N1) : am_J X Q i pc L (a4 :: a3 :: a2 :: a1 :: a0 :: .ref b :: T) M N := J_Vf j d hc (by rw [hn]; exact k1) (by rw [hn]; exact k2)
theorem J_V5n {idx b : Nat} {M1 : am_M} {N1 : am_N} {a0 a1 a2 a3 a4 : Value} (j : Nat) (d : am_in i pc = some (.invokevirtual idx, 3)) (hc : am_ckV i idx j (a4 :: a3 :: a2 :: a1 :: a0 :: .ref b :: T) = true) (hn : am_na j = 5) (k1 : am_J X (am_eq (none) M1 N1) j 0 (am_en j [.ref b, a0, a1, a2, a3, a4]) [] M N) (k2 : am_J X Q i (pc + 3) L (T) M1 N1) : am_J X Q i pc L (a4 :: a3 :: a2 :: a1 :: a0 :: .ref b :: T) M N := J_Vf j d hc (by rw [hn]; exact k1) (by rw [hn]; exact k2)
theorem J_S6s {idx : Nat} {w : Value} {M1 : am_M} {N1 : am_N} {a0 a1 a2 a3 a4 a5 : Value} (j : Nat) (d : am_in i pc = some (.invokestatic idx, 3)) (hc : am_ckS i idx j (a5 :: a4 :: a3 :: a2 :: a1 :: a0 :: T) = true) (hn : am_na j = 6) (k1 : am_J X (am_eq (some w) M1 N1) j 0 (am_en j [a0, a1, a2, a3, a4, a5]) [] M N) (k2 : am_J X Q i (pc + 3) L (w :: T) M1 N1) : am_J X Q i pc L (a5 :: a4 :: a3 :: a2 :: a1 :: a0 :: T) M N := J_Sf j d hc (by rw [hn]; exact k1) (by rw [hn]; exact k2)
theorem J_S6n {idx : Nat} {M1 : am_M} {N1 : am_N} {a0 a1 a2 a3 a4 a5 : Value} (j : Nat) (d : am_in i pc = some (.invokestatic idx, 3)) (hc : am_ckS i idx j (a5 :: a4 :: a3 :: a2 :: a1 :: a0 :: T) = true) (hn : am_na j = 6) (k1 : am_J X (am_eq (none) M1 N1) j 0 (am_en j [a0, a1, a2, a3, a4, a5]) [] M N) (k2 : am_J X Q i (pc + 3) L (T) M1 N1) : am_J X Q i pc L (a5 :: a4 :: a3 :: a2 :: a1 :: a0 :: T) M N := J_Sf j d hc (by rw [hn]; exact k1) (by rw [hn]; exact k2)
theorem J_V6s {idx b : Nat} {w : Value} {M1 : am_M} {N1 : am_N} {a0 a1 a2 a3 a4 a5 : Value} (j : Nat) (d : am_in i pc = some (.invokevirtual idx, 3)) (hc : am_ckV i idx j (a5 :: a4 :: a3 :: a2 :: a1 :: a0 :: .ref b :: T) = true) (hn : am_na j = 6) (k1 : am_J X (am_eq (some w) M1 N1) j 0 (am_en j [.ref b, a0, a1, a2, a3, a4, a5]) [] M N) (k2 : am_J X Q i (pc + 3) L (w :: T) M1 N1) : am_J X Q i pc L (a5 :: a4 :: a3 :: a2 :: a1 :: a0 :: .ref b :: T) M N := J_Vf j d hc (by rw [hn]; exact k1) (by rw [hn]; exact k2)
theorem J_V6n {idx b : Nat} {M1 : am_M} {N1 : am_N} {a0 a1 a2 a3 a4 a5 : Value} (j : Nat) (d : am_in i pc = some (.invokevirtual idx, 3)) (hc : am_ckV i idx j (a5 :: a4 :: a3 :: a2 :: a1 :: a0 :: .ref b :: T) = true) (hn : am_na j = 6) (k1 : am_J X (am_eq (none) M1 N1) j 0 (am_en j [.ref b, a0, a1, a2, a3, a4, a5]) [] M N) (k2 : am_J X Q i (pc + 3) L (T) M1 N1) : am_J X Q i pc L (a5 :: a4 :: a3 :: a2 :: a1 :: a0 :: .ref b :: T) M N := J_Vf j d hc (by rw [hn]; exact k1) (by rw [hn]; exact k2)
theorem J_S7s {idx : Nat} {w : Value} {M1 : am_M} {N1 : am_N} {a0 a1 a2 a3 a4 a5 a6 : Value} (j : Nat) (d : am_in i pc = some (.invokestatic idx, 3)) (hc : am_ckS i idx j (a6 :: a5 :: a4 :: a3 :: a2 :: a1 :: a0 :: T) = true) (hn : am_na j = 7) (k1 : am_J X (am_eq (some w) M1 N1) j 0 (am_en j [a0, a1, a2, a3, a4, a5, a6]) [] M N) (k2 : am_J X Q i (pc + 3) L (w :: T) M1 N1) : am_J X Q i pc L (a6 :: a5 :: a4 :: a3 :: a2 :: a1 :: a0 :: T) M N := J_Sf j d hc (by rw [hn]; exact k1) (by rw [hn]; exact k2)
theorem J_S7n {idx : Nat} {M1 : am_M} {N1 : am_N} {a0 a1 a2 a3 a4 a5 a6 : Value} (j : Nat) (d : am_in i pc = some (.invokestatic idx, 3)) (hc : am_ckS i idx j (a6 :: a5 :: a4 :: a3 :: a2 :: a1 :: a0 :: T) = true) (hn : am_na j = 7) (k1 : am_J X (am_eq (none) M1 N1) j 0 (am_en j [a0, a1, a2, a3, a4, a5, a6]) [] M N) (k2 : am_J X Q i (pc + 3) L (T) M1 N1) : am_J X Q i pc L (a6 :: a5 :: a4 :: a3 :: a2 :: a1 :: a0 :: T) M N := J_Sf j d hc (by rw [hn]; exact k1) (by rw [hn]; exact k2)
theorem J_V7s {idx b : Nat} {w : Value} {M1 : am_M} {N1 : am_N} {a0 a1 a2 a3 a4 a5 a6 : Value} (j : Nat) (d : am_in i pc = some (.invokevirtual idx, 3)) (hc : am_ckV i idx j (a6 :: a5 :: a4 :: a3 :: a2 :: a1 :: a0 :: .ref b :: T) = true) (hn : am_na j = 7) (k1 : am_J X (am_eq (some w) M1 N1) j 0 (am_en j [.ref b, a0, a1, a2, a3, a4, a5, a6]) [] M N) (k2 : am_J X Q i (pc + 3) L (w :: T) M1 N1) : am_J X Q i pc L (a6 :: a5 :: a4 :: a3 :: a2 :: a1 :: a0 :: .ref b :: T) M N := J_Vf j d hc (by rw [hn]; exact k1) (by rw [hn]; exact k2)
theorem J_V7n {idx b : Nat} {M1 : am_M} {N1 : am_N} {a0 a1 a2 a3 a4 a5 a6 : Value} (j : Nat) (d : am_in i pc = some (.invokevirtual idx, 3)) (hc : am_ckV i idx j (a6 :: a5 :: a4 :: a3 :: a2 :: a1 :: a0 :: .ref b :: T) = true) (hn : am_na j = 7) (k1 : am_J X (am_eq (none) M1 N1) j 0 (am_en j [.ref b, a0, a1, a2, a3, a4, a5, a6]) [] M N) (k2 : am_J X Q i (pc + 3) L (T) M1 N1) : am_J X Q i pc L (a6 :: a5 :: a4 :: a3 :: a2 :: a1 :: a0 :: .ref b :: T) M N := J_Vf j d hc (by rw [hn]; exact k1) (by rw [hn]; exact k2)
end AMC
end
section
/-! ===== what both sides do, as functions ===== -/
/-- the sea, as the class keeps it, and as the reference keeps it -/
def sC (M : am_M) : am_M := fun r j => match r with
  | 0 => M 3 j
  | 1 => M 4 j
  | 2 => M 5 j
  | 3 => M 6 j
  | 4 => M 7 j
  | 5 => M 8 j
  | 6 => M 9 j
  | 7 => M 10 j
  | 8 => M 11 j
  | 9 => M 12 j
  | 10 => M 13 j
  | 11 => M 14 j
  | 12 => if M 14 j = 0 then 0 else M 15 j
  | 13 => if M 14 j = 0 then 0 else M 16 j
  | _ => 0
def sR (M : am_M) : am_M := fun r j => match r with
  | 0 => M 121 j
  | 1 => M 122 j
  | 2 => M 123 j
  | 3 => M 124 j
  | 4 => M 125 j
  | 5 => M 126 j
  | 6 => M 127 j
  | 7 => M 128 j
  | 8 => M 129 j
  | 9 => M 131 j
  | 10 => M 132 j
  | 11 => M 135 j
  | 12 => if M 135 j = 0 then 0 else M 133 j
  | 13 => if M 135 j = 0 then 0 else M 134 j
  | _ => 0
def c_wd (E : am_M) (a b m : Nat) : Int32 := if E 11 (m % 48) = 0 then E a (m % 12) else E b (m % 48)
def c_fl (k w : Int32) : Int32 := if k = 0 then 0 else if k = 1 then w else if k = 2 then w / 2 else 2 * w
abbrev c_ic (x y : Int) : Prop := (0 ≤ x ∧ x < 10) ∧ 0 ≤ y ∧ y < 6
/-- the way of parts: 0 = ends in water at a cell, 1 = lost, 2 = lands at a cell -/
def c_pth (W : Nat → Int32) (dx dy : Int) : Nat → Nat → Int → Int → Nat × Nat
  | 0, 0, x, y => (0, (6 * x + y).toNat)
  | 0, b + 1, x, y => if c_ic x (y + dy) then (if W (6 * x + (y + dy)).toNat = 1 then (2, (6 * x + (y + dy)).toNat) else if W (6 * x + (y + dy)).toNat = 2 then (0, (6 * x + y).toNat) else c_pth W dx dy 0 b x (y + dy)) else (1, 0)
  | a + 1, b, x, y => if c_ic (x + dx) y then (if W (6 * (x + dx) + y).toNat = 1 then (2, (6 * (x + dx) + y).toNat) else if W (6 * (x + dx) + y).toNat = 2 then (0, (6 * x + y).toNat) else c_pth W dx dy a b (x + dx) y) else (1, 0)
def c_ap (o : Nat × Nat) (n : Int32) (st : am_M) : am_M := if o.1 = 1 then am_up st 0 13 (st 0 13 + n) else if o.1 = 2 then am_up st 3 o.2 (st 3 o.2 + n) else am_up st 2 o.2 (st 2 o.2 + n)
def c_sg (e : Int32) : Int := if e.toInt < 0 then -1 else 1
def c_sd (E : am_M) (p : Nat) (e n : Int32) (many : Int32) (st : am_M) : am_M := c_ap (c_pth (E 0) (c_sg e) (c_sg n) e.toInt.natAbs n.toInt.natAbs ((p / 6 : Nat) : Int) ((p % 6 : Nat) : Int)) many st
def c_k (E : am_M) (m p : Nat) : Nat := 12 * (E 1 p).toNatClampNeg + m % 12
def c_gf (E : am_M) (sh : Nat → Int32) (kind : Int32) (m p : Nat) (w : Int32) (st : am_M) : am_M :=
  c_sd E p ((E 5 (c_k E m p) + E 6 (c_k E m p)) / 2 + (c_fl kind (c_wd E 9 12 m) + sh (E 1 p).toNatClampNeg)) ((E 7 (c_k E m p) + E 8 (c_k E m p)) / 2 + c_fl kind (c_wd E 10 13 m)) (w - 2 * (w / 4))
    (c_sd E p (E 6 (c_k E m p) + (c_fl kind (c_wd E 9 12 m) + sh (E 1 p).toNatClampNeg)) (E 8 (c_k E m p) + c_fl kind (c_wd E 10 13 m)) (w / 4)
      (c_sd E p (E 5 (c_k E m p) + (c_fl kind (c_wd E 9 12 m) + sh (E 1 p).toNatClampNeg)) (E 7 (c_k E m p) + c_fl kind (c_wd E 10 13 m)) (w / 4) st))
abbrev c_icy (E : am_M) (m p : Nat) : Prop := (E 4 p >>> (nI (m % 12) &&& 31)) &&& 1 = 1
def c_go (E : am_M) (sh : Nat → Int32) (kind : Int32) (m : Nat) (p : Nat) (st : am_M) : am_M :=
  if st 1 p = 0 then st else if c_icy E m p then am_up st 2 p (st 2 p + st 1 p) else c_gf E sh kind m p (st 1 p) st
def c_z : Nat → Int32 := fun _ => 0
def c_wa (st : am_M) : am_M := am_upR st 1 (fun j => if j < 60 then st 2 j else st 1 j)
def c_gw (E : am_M) (sh : Nat → Int32) (kind : Int32) (m : Nat) (st : am_M) : am_M :=
  c_wa (itr (c_go E sh kind m) 60 (am_upR st 2 c_z))
def c_sk (kind sinks : Int32) (t : Nat) (st : am_M) : am_M :=
  if kind = 2 ∧ sinks.toInt ≤ t then am_upR (am_up st 0 14 (st 0 14 + smI (st 1) 60)) 1 c_z else st
def c_tk (E st : am_M) (c : Nat) : Int32 := st 3 c * E 3 c / 16
def c_cv (E st : am_M) (c : Nat) : Int32 := (st 3 c - c_tk E st c) * E 2 c / 16
def c_bw (E : am_M) (t : Nat) (st : am_M) : am_M :=
  am_upR (am_upR (am_up st 0 12 (st 0 12 + smI (c_cv E st) 60)) 3 (fun c => if c < 60 then st 3 c - c_tk E st c - c_cv E st c else st 3 c)) 4 (fun k => if 60 * t ≤ k ∧ k < 60 * t + 60 then c_tk E st (k - 60 * t) else st 4 k)
def c_mo (E : am_M) (sh : Nat → Int32) (kind : Int32) (m : Nat) (sinks : Int32) (t : Nat) (st : am_M) : am_M :=
  c_bw E t (c_gw E sh kind (m + t) (c_sk kind sinks t st))
/-- a drift's beginning; r is what row 2 (parts that come) holds from before -/
def c_s0 (p : Nat) (r : Nat → Int32) : am_M := fun k j => if k = 1 ∧ j = p then 1000000 else if k = 2 then r j else 0
def c_dr (E : am_M) (sh : Nat → Int32) (kind : Int32) (m p : Nat) (sinks : Int32) (r : Nat → Int32) (n : Nat) : am_M :=
  itr (c_mo E sh kind m sinks) n (c_s0 p r)
/-- the found of a whole drift -/
def c_fd (E : am_M) (sh : Nat → Int32) (kind : Int32) (m p : Nat) (sinks : Int32) : Nat → Int32 := c_dr E sh kind m p sinks c_z 12 4
/-! finds read against casts -/
def c_dg (row : Int32) (i : Nat) : Int32 := (row >>> ((4 * nI i) &&& 31)) &&& 15
def c_rest (v : Int32) : Nat → Int32
  | 0 => v
  | n + 1 => c_rest v n / 10
abbrev c_ag (row v : Int32) (n : Nat) : Prop := ∀ i, i < n → c_dg row i = 10 ∨ c_dg row i = c_rest v i - c_rest v i / 10 * 10
def c_cards (row fc ca fi mn : Int32) : Int32 := if fc = ca then smI (fun i => am_bi (c_ag row (fi + nI i) 4)) mn.toNatClampNeg else 0
/-- found in a rectangle in a month of a drift, in months a .. b of it -/
def c_rc (fd : Nat → Int32) (x0 x1 y0 y1 : Int32) (t : Nat) : Int32 :=
  smI (fun i => smI (fun k => fd (60 * t + 6 * (x0.toNatClampNeg + i) + (y0.toNatClampNeg + k))) (y1.toInt - y0.toInt + 1).toNat) (x1.toInt - x0.toInt + 1).toNat
def c_fw (fd : Nat → Int32) (x0 x1 y0 y1 : Int32) (a b : Int) : Int32 := smI (fun t => if a ≤ (t : Int) ∧ (t : Int) ≤ b then c_rc fd x0 x1 y0 y1 t else 0) 12
/-- the cast's found, as the class keeps casts (rows 19 .. 25) -/
def c_cf (E M : am_M) (sh : Nat → Int32) (c : Nat) : Nat → Int32 := c_fd E sh (M 19 c) (M 22 c).toNatClampNeg (M 23 c).toNatClampNeg (M 25 c)
def c_cd (M : am_M) (f c : Nat) : Int32 := c_cards (M 33 f) (M 34 f) (M 24 c) (M 20 c) (M 21 c)
def c_wt (E M : am_M) (sh : Nat → Int32) (f c : Nat) : Int32 := if c_cd M f c = 0 then 0 else c_fw (c_cf E M sh c) (M 27 (M 35 f).toNatClampNeg) (M 28 (M 35 f).toNatClampNeg) (M 29 (M 35 f).toNatClampNeg) (M 30 (M 35 f).toNatClampNeg) ((M 36 f).toInt - (M 22 c).toInt) ((M 37 f).toInt - (M 22 c).toInt)
/-- shifts number a of 27, in a region -/
def c_sh (a r : Nat) : Int32 := match r with
  | 0 => nI (a / 9) - 1
  | 1 => nI (a / 3 % 3) - 1
  | _ => nI (a % 3) - 1
/-- what is due of cast c in name n -/
def c_du (E M : am_M) (sh : Nat → Int32) (c n : Nat) : Int32 := c_fw (c_cf E M sh c) (M 27 n) (M 28 n) (M 29 n) (M 30 n) 0 11 * M 21 c / 1000
end
section
/-! ===== what holds between the class's cells and the reference's, between calls ===== -/
def b_in (x : Int32) (a b : Int) : Prop := a ≤ x.toInt ∧ x.toInt ≤ b
def iv_sea (M : am_M) : Prop := (M 121 = M 3 ∧ M 122 = M 4 ∧ M 123 = M 5 ∧ M 124 = M 6 ∧ M 125 = M 7) ∧ (M 126 = M 8 ∧ M 127 = M 9 ∧ M 128 = M 10 ∧ M 129 = M 11) ∧ (M 131 = M 12 ∧ M 132 = M 13 ∧ M 135 = M 14 ∧ (∀ j, M 14 j ≠ 0 → M 133 j = M 15 j ∧ M 134 j = M 16 j)) ∧ M 130 = M 17
def iv_sb (M : am_M) : Prop := (∀ j, b_in (M 4 j) 0 2) ∧ (∀ j, b_in (M 5 j) 0 16) ∧ (∀ j, b_in (M 6 j) 0 16) ∧ (∀ j, b_in (M 8 j) (-3) 3) ∧ (∀ j, b_in (M 9 j) (-3) 3) ∧ (∀ j, b_in (M 10 j) (-3) 3) ∧ (∀ j, b_in (M 11 j) (-3) 3) ∧ (∀ j, b_in (M 12 j) (-3) 3) ∧ (∀ j, b_in (M 13 j) (-3) 3) ∧ (∀ j, b_in (M 15 j) (-3) 3) ∧ (∀ j, b_in (M 16 j) (-3) 3) ∧ (∀ j, b_in (M 17 j) (-1) 1)
def iv_ca (M : am_M) : Prop := (M 136 = M 19 ∧ M 137 = M 20 ∧ M 138 = M 21 ∧ M 139 = M 22 ∧ M 140 = M 23 ∧ M 141 = M 24 ∧ M 142 = M 25) ∧ M 120 22 = M 18 7
def iv_cb (M : am_M) : Prop := b_in (M 18 7) 0 5 ∧ (∀ j, b_in (M 19 j) 0 3) ∧ (∀ j, b_in (M 20 j) 0 9999) ∧ (∀ j, b_in (M 21 j) 0 1000) ∧ (∀ j, b_in (M 22 j) 0 47) ∧ (∀ j, b_in (M 23 j) 0 59) ∧ (∀ j, b_in (M 25 j) 0 12)
def iv_na (M : am_M) : Prop := (M 148 = M 27 ∧ M 149 = M 28 ∧ M 150 = M 29 ∧ M 151 = M 30 ∧ M 152 = M 31) ∧ M 120 43 = M 26 5
def iv_nb (M : am_M) : Prop := b_in (M 26 5) 0 6 ∧ (∀ j, b_in (M 27 j) 0 9) ∧ (∀ j, b_in (M 28 j) 0 9) ∧ (∀ j, b_in (M 29 j) 0 5) ∧ (∀ j, b_in (M 30 j) 0 5)
def iv_fi (M : am_M) : Prop := (M 153 = M 33 ∧ M 154 = M 34 ∧ M 155 = M 35 ∧ M 156 = M 36 ∧ M 157 = M 37 ∧ M 158 = M 38 ∧ M 159 = M 39) ∧ M 120 44 = M 32 7
def iv_fb (M : am_M) : Prop := b_in (M 32 7) 0 16 ∧ (∀ j, b_in (M 35 j) 0 5) ∧ (∀ j, b_in (M 36 j) 0 60) ∧ (∀ j, b_in (M 37 j) 0 60) ∧ (∀ j : Nat, (M 32 7).toInt ≤ j → M 39 j = 0)
def iv_ti (M : am_M) : Prop := M 120 45 = M 0 11
def iv_ta (M : am_M) : Prop := M 164 = M 111 ∧ M 120 55 = M 110 1 ∧ b_in (M 110 1) 0 120 ∧ M 110 2 = 0
def iv_pr (M : am_M) : Prop := M 120 56 = M 112 7 ∧ b_in (M 112 7) 0 8 ∧ ∀ p : Nat, (p : Int) < (M 112 7).toInt → M 165 p = M 113 p ∧ M 166 p = M 114 p ∧ b_in (M 114 p) 0 3 ∧ ∀ t : Nat, (t : Int) < (M 114 p).toInt → (M 167 (12 * p + 4 * t) = 1 ↔ M 115 (3 * p + t) ≠ 0) ∧ M 167 (12 * p + 4 * t + 1) = M 116 (3 * p + t) ∧ M 167 (12 * p + 4 * t + 2) = M 117 (3 * p + t) ∧ M 167 (12 * p + 4 * t + 3) = M 118 (3 * p + t) ∧ b_in (M 116 (3 * p + t)) 0 4 ∧ (M 117 (3 * p + t) = 61 ∨ M 117 (3 * p + t) = 60 ∨ M 117 (3 * p + t) = 62) ∧ (M 115 (3 * p + t) = 0 ∨ M 115 (3 * p + t) = 1)
def iv_cc (M : am_M) : Prop := ∀ f c : Nat, (f : Int) < (M 32 7).toInt → (c : Int) < (M 18 7).toInt → M (61 + f) c = c_cd M f c
def iv_ch (c : Nat) (M : am_M) : Prop := 1 ≤ (M 1 11).toInt ∧ (M 1 11).toInt ≤ c + 1 ∧ (M 52 4).toInt ≤ (M 1 11).toInt ∧ ∀ a, a < 27 → (M 107 a).toInt ≤ (M 1 11).toInt
def iv_kl (M : am_M) : Prop := M 52 4 = M 1 11 → ∀ c : Nat, (c : Int) < (M 18 7).toInt → ∀ j, j < 720 → M (54 + c) j = c_cf (sC M) M (M 17) c j
def iv_kd (M : am_M) : Prop := ∀ a, a < 27 → M 107 a = M 1 11 → ∀ c n : Nat, (c : Int) < (M 18 7).toInt → (n : Int) < (M 26 5).toInt → M (80 + a) (6 * c + n) = c_du (sC M) M (c_sh a) c n
def iv : Nat → am_M → am_N → Prop := fun c M _ => ((iv_sea M ∧ iv_sb M) ∧ (iv_ca M ∧ iv_cb M) ∧ (iv_na M ∧ iv_nb M) ∧ (iv_fi M ∧ iv_fb M)) ∧ (iv_ti M ∧ iv_ta M ∧ iv_pr M) ∧ iv_cc M ∧ iv_ch c M ∧ iv_kl M ∧ iv_kd M
theorem iv_up : ∀ c M N, iv c M N → iv (c + 1) M N := by
  intro c M N h
  obtain ⟨h1, h2, h3, ⟨a, b, d, e⟩, h5⟩ := h
  exact ⟨h1, h2, h3, ⟨a, by omega, d, e⟩, h5⟩
theorem b_00 {a b : Int} (h : a ≤ 0 ∧ 0 ≤ b) : b_in 0 a b := h
theorem iv_0 : iv 0 (am_mw am_ws2) am_zL := by
  have hz : ∀ a b : Nat, (a, b) ≠ (1, 11) → am_mw am_ws2 a b = 0 := by
    intro a b h
    show am_up (am_up (am_up (am_up (am_up (am_up (am_up (am_up (am_up am_z 1 11 1) 18 7 0) 26 5 0) 32 7 0) 52 4 0) 110 1 0) 110 2 0) 112 7 0) 0 11 0 a b = 0
    simp only [am_up, am_z]
    have h2 : ¬ (a = 1 ∧ b = 11) := fun z => h (by rw [z.1, z.2])
    by_cases h3 : a = 1
    · by_cases h4 : b = 11
      · exact absurd ⟨h3, h4⟩ h2
      · subst h3
        simp [h4]
    · simp [h3]
  have hr : ∀ a, a ≠ 1 → am_mw am_ws2 a = fun _ => 0 := fun a ha => funext fun b => hz a b (fun z => ha (congrArg Prod.fst z))
  have e1 : (am_mw am_ws2) 1 11 = 1 := rfl
  generalize am_mw am_ws2 = M at hz hr e1
  have r : ∀ a, a ≠ 1 → ∀ j, M a j = 0 := fun a ha j => by rw [hr a ha]
  have hd : ∀ a b : Nat, a ≠ 1 → b ≠ 1 → M a = M b := fun a b ha hb => by rw [hr a ha, hr b hb]
  have hb : ∀ (a : Nat) (lo hi : Int), a ≠ 1 → lo ≤ 0 ∧ 0 ≤ hi → ∀ j, b_in (M a j) lo hi := fun a lo hi ha h j => by rw [r a ha]; exact b_00 h
  have d1 := fun a b (ha : a ≠ 1) (hb : b ≠ 1) => hd a b ha hb
  refine ⟨⟨⟨⟨⟨hd _ _ (by decide) (by decide), hd _ _ (by decide) (by decide), hd _ _ (by decide) (by decide), hd _ _ (by decide) (by decide), hd _ _ (by decide) (by decide)⟩, ⟨hd _ _ (by decide) (by decide), hd _ _ (by decide) (by decide), hd _ _ (by decide) (by decide), hd _ _ (by decide) (by decide)⟩, ⟨hd _ _ (by decide) (by decide), hd _ _ (by decide) (by decide), hd _ _ (by decide) (by decide), fun j h => absurd (r 14 (by decide) j) h⟩, hd _ _ (by decide) (by decide)⟩, ?_⟩, ⟨⟨⟨hd _ _ (by decide) (by decide), hd _ _ (by decide) (by decide), hd _ _ (by decide) (by decide), hd _ _ (by decide) (by decide), hd _ _ (by decide) (by decide), hd _ _ (by decide) (by decide), hd _ _ (by decide) (by decide)⟩, by rw [r 120 (by decide), r 18 (by decide)]⟩, ?_⟩, ⟨⟨⟨hd _ _ (by decide) (by decide), hd _ _ (by decide) (by decide), hd _ _ (by decide) (by decide), hd _ _ (by decide) (by decide), hd _ _ (by decide) (by decide)⟩, by rw [r 120 (by decide), r 26 (by decide)]⟩, ?_⟩, ⟨⟨⟨hd _ _ (by decide) (by decide), hd _ _ (by decide) (by decide), hd _ _ (by decide) (by decide), hd _ _ (by decide) (by decide), hd _ _ (by decide) (by decide), hd _ _ (by decide) (by decide), hd _ _ (by decide) (by decide)⟩, by rw [r 120 (by decide), r 32 (by decide)]⟩, ?_⟩⟩, ⟨?_, ?_, ?_⟩, ?_, ?_, ?_, ?_⟩
  · refine ⟨?_, ?_, ?_, ?_, ?_, ?_, ?_, ?_, ?_, ?_, ?_, ?_⟩ <;> exact hb _ _ _ (by decide) (by decide)
  · refine ⟨hb _ _ _ (by decide) (by decide) _, ?_, ?_, ?_, ?_, ?_, ?_⟩ <;> exact hb _ _ _ (by decide) (by decide)
  · refine ⟨hb _ _ _ (by decide) (by decide) _, ?_, ?_, ?_, ?_⟩ <;> exact hb _ _ _ (by decide) (by decide)
  · exact ⟨hb _ _ _ (by decide) (by decide) _, hb _ _ _ (by decide) (by decide), hb _ _ _ (by decide) (by decide), hb _ _ _ (by decide) (by decide), fun j _ => r 39 (by decide) j⟩
  · show M 120 45 = M 0 11
    rw [r 120 (by decide), r 0 (by decide)]
  · exact ⟨hd _ _ (by decide) (by decide), by rw [r 120 (by decide), r 110 (by decide)], hb _ _ _ (by decide) (by decide) _, r 110 (by decide) _⟩
  · refine ⟨by rw [r 120 (by decide), r 112 (by decide)], hb _ _ _ (by decide) (by decide) _, fun p hp => ?_⟩
    rw [r 112 (by decide)] at hp
    have : (0 : Int32).toInt = 0 := rfl
    omega
  · intro f c hf hc
    rw [r 32 (by decide)] at hf
    have : (0 : Int32).toInt = 0 := rfl
    omega
  · refine ⟨by rw [e1]; decide, by rw [e1]; decide, by rw [e1, r 52 (by decide)]; decide, fun a _ => by rw [e1, r 107 (by decide)]; decide⟩
  · intro h
    rw [e1, r 52 (by decide)] at h
    exact absurd h (by decide)
  · intro a _ h
    rw [e1, r 107 (by decide)] at h
    exact absurd h (by decide)
abbrev am_Iv : Type := Nat → am_M → am_N → Prop
/-- a call of the class, and the same call of the reference behind it: the same answer, and the invariant goes on -/
def am_pI (iv : am_Iv) (X : am_X) (i j : Nat) (args : am_V) : Prop := ∀ (c : Nat) (M : am_M) (N : am_N), c < 512 → iv c M N → ∃ (v : Int32) (mid : am_M → am_N → Prop), am_J X (fun r M1 N1 => r = some (.int v) ∧ mid M1 N1) i 0 (am_en i (.ref 0 :: args)) [] M N ∧ ∀ M1 N1, mid M1 N1 → am_J X (fun r M2 N2 => r = some (.int v) ∧ iv (c + 1) M2 N2) j 0 (am_en j (.ref 120 :: args)) [] M1 N1
def am_pL (iv : am_Iv) (X : am_X) (i j : Nat) (args : am_V) : Prop := ∀ (c : Nat) (M : am_M) (N : am_N), c < 512 → iv c M N → ∃ (v : Int64) (mid : am_M → am_N → Prop), am_J X (fun r M1 N1 => r = some (.long v) ∧ mid M1 N1) i 0 (am_en i (.ref 0 :: args)) [] M N ∧ ∀ M1 N1, mid M1 N1 → am_J X (fun r M2 N2 => r = some (.long v) ∧ iv (c + 1) M2 N2) j 0 (am_en j (.ref 120 :: args)) [] M1 N1
theorem pr_e {X : am_X} {i j : Nat} {args : am_V} {v : Int32} {c : Nat} {M M1 M2 : am_M} {N N1 N2 : am_N} (h1 : am_J X (am_eq (some (.int v)) M1 N1) i 0 (am_en i (.ref 0 :: args)) [] M N) (h2 : am_J X (am_eq (some (.int v)) M2 N2) j 0 (am_en j (.ref 120 :: args)) [] M1 N1) (h3 : iv (c + 1) M2 N2) : ∃ (v : Int32) (mid : am_M → am_N → Prop), am_J X (fun r M1 N1 => r = some (.int v) ∧ mid M1 N1) i 0 (am_en i (.ref 0 :: args)) [] M N ∧ ∀ M1 N1, mid M1 N1 → am_J X (fun r M2 N2 => r = some (.int v) ∧ iv (c + 1) M2 N2) j 0 (am_en j (.ref 120 :: args)) [] M1 N1 :=
  ⟨v, fun a b => a = M1 ∧ b = N1, h1, fun a b h => by obtain ⟨rfl, rfl⟩ := h; exact J_eq h2 ⟨rfl, h3⟩⟩
theorem pr_l {X : am_X} {i j : Nat} {args : am_V} {v : Int64} {c : Nat} {M M1 M2 : am_M} {N N1 N2 : am_N} (h1 : am_J X (am_eq (some (.long v)) M1 N1) i 0 (am_en i (.ref 0 :: args)) [] M N) (h2 : am_J X (am_eq (some (.long v)) M2 N2) j 0 (am_en j (.ref 120 :: args)) [] M1 N1) (h3 : iv (c + 1) M2 N2) : ∃ (v : Int64) (mid : am_M → am_N → Prop), am_J X (fun r M1 N1 => r = some (.long v) ∧ mid M1 N1) i 0 (am_en i (.ref 0 :: args)) [] M N ∧ ∀ M1 N1, mid M1 N1 → am_J X (fun r M2 N2 => r = some (.long v) ∧ iv (c + 1) M2 N2) j 0 (am_en j (.ref 120 :: args)) [] M1 N1 :=
  ⟨v, fun a b => a = M1 ∧ b = N1, h1, fun a b h => by obtain ⟨rfl, rfl⟩ := h; exact J_eq h2 ⟨rfl, h3⟩⟩
theorem b_z {x : Int32} {a b : Int} (h : b_in x a b) : a ≤ x.toInt ∧ x.toInt ≤ b := h
theorem b_up {M : am_M} {k i : Nat} {x : Int32} {a b : Int} (h : ∀ j, b_in (M k j) a b) (hx : b_in x a b) : ∀ j, b_in (if j = i then x else M k j) a b := by
  intro j
  split
  · exact hx
  · exact h j
theorem ch_up {c : Nat} {M M' : am_M} (hc : c < 512) (h : iv_ch c M) (h1 : M' 1 11 = M 1 11 + 1) (h2 : M' 52 4 = M 52 4) (h3 : M' 107 = M 107) : iv_ch (c + 1) M' ∧ iv_kl M' ∧ iv_kd M' := by
  obtain ⟨a, b, d, e⟩ := h
  have e1 : (M' 1 11).toInt = (M 1 11).toInt + 1 := by
    rw [h1, I_add (by have : (1 : Int32).toInt = 1 := rfl; omega)]
    rfl
  refine ⟨⟨by omega, by omega, by rw [h2]; omega, fun x hx => by rw [h3]; have := e x hx; omega⟩, fun z => ?_, fun x hx z => ?_⟩
  · rw [h2] at z
    rw [z] at d
    omega
  · rw [h3] at z
    have := e x hx
    rw [z] at this
    omega
theorem cc_of {M M' : am_M} (h : iv_cc M) (hb : iv_fb M) (hh : ∀ k, 54 ≤ k → k ≤ 106 → M' k = M k) (hr : M' 33 = M 33 ∧ M' 34 = M 34 ∧ M' 24 = M 24 ∧ M' 20 = M 20 ∧ M' 21 = M 21 ∧ M' 32 7 = M 32 7 ∧ M' 18 7 = M 18 7) : iv_cc M' := by
  obtain ⟨r1, r2, r3, r4, r5, r6, r7⟩ := hr
  intro f c hf hc
  rw [r6] at hf
  rw [r7] at hc
  have := hb.1.2
  rw [hh (61 + f) (by omega) (by omega), h f c hf hc]
  unfold c_cd
  rw [r1, r2, r3, r4, r5]
theorem up_eq {r s : Nat → Int32} {j : Nat} {x : Int32} (h : r = s) : (fun b => if b = j then x else r b) = (fun b => if b = j then x else s b) := by rw [h]
theorem ch_eq {c : Nat} {M M' : am_M} (hch : iv_ch c M) (hkl : iv_kl M) (hkd : iv_kd M) (hcb : iv_cb M) (hh : ∀ k, 54 ≤ k → k ≤ 106 → M' k = M k) (r : M' 52 4 = M 52 4 ∧ M' 1 11 = M 1 11 ∧ M' 107 = M 107 ∧ M' 18 7 = M 18 7 ∧ M' 26 5 = M 26 5) (rs : sC M' = sC M) (rc : M' 17 = M 17 ∧ M' 19 = M 19 ∧ M' 22 = M 22 ∧ M' 23 = M 23 ∧ M' 25 = M 25) (rn : M' 21 = M 21 ∧ M' 27 = M 27 ∧ M' 28 = M 28 ∧ M' 29 = M 29 ∧ M' 30 = M 30) : iv_ch (c + 1) M' ∧ iv_kl M' ∧ iv_kd M' := by
  obtain ⟨r1, r2, r3, r4, r5⟩ := r
  obtain ⟨c1, c2, c3, c4, c5⟩ := rc
  obtain ⟨n1, n2, n3, n4, n5⟩ := rn
  have ecf : ∀ sh c, c_cf (sC M') M' sh c = c_cf (sC M) M sh c := by
    intro sh c
    unfold c_cf
    rw [rs, c2, c3, c4, c5]
  have h5 := hcb.1.2
  obtain ⟨g1, g2, g3, g4⟩ := hch
  refine ⟨⟨by rw [r2]; omega, by rw [r2]; omega, by rw [r1, r2]; omega, fun a ha => by rw [r3, r2]; exact g4 a ha⟩, fun z cc hc j hj => ?_, fun a ha z cc n hc hn => ?_⟩
  · rw [r1, r2] at z
    rw [r4] at hc
    rw [hh (54 + cc) (by omega) (by omega), ecf, c1]
    exact hkl z cc hc j hj
  · rw [r3, r2] at z
    rw [r4] at hc
    rw [r5] at hn
    rw [hh (80 + a) (by omega) (by omega)]
    unfold c_du
    rw [ecf, n1, n2, n3, n4, n5]
    exact hkd a ha z cc n hc hn
end
section
/-! ===== the sea: what is told ===== -/
theorem sp23 {X : am_X} {M : am_M} {N : am_N} {m e n : Int32} (hm : vp_in m 12) : am_J X (am_eq (none) (am_up (am_up (am_up M 12 m.toNatClampNeg e) 13 m.toNatClampNeg n) 1 11 (M 1 11 + 1)) N) 23 0 (am_en 23 [.ref 1, .int m, .int e, .int n]) [] M N := by
  refine J_en (L := [.ref 1, .int m, .int e, .int n]) rfl ?_
  refine J_b 4 am_d23 rfl ?_
  refine J_iast (am_d23 rfl) rfl (by assumption) ?_
  refine J_b 4 am_d23 rfl ?_
  refine J_iast (am_d23 rfl) rfl (by assumption) ?_
  refine J_b 5 am_d23 rfl ?_
  refine J_puti (am_d23 rfl) rfl ?_
  exact J_ret (am_d23 rfl) rfl ⟨rfl, rfl, rfl⟩
theorem sp20 {X : am_X} {M : am_M} {N : am_N} {k e n : Int32} (hk : vp_in k 36) : am_J X (am_eq (none) (am_up (am_up (am_up (am_up (am_up M 8 k.toNatClampNeg (e / 10 - 3)) 9 k.toNatClampNeg (e - e / 10 * 10 - 3)) 10 k.toNatClampNeg (n / 10 - 3)) 11 k.toNatClampNeg (n - n / 10 * 10 - 3)) 1 11 (M 1 11 + 1)) N) 20 0 (am_en 20 [.ref 1, .int k, .int e, .int n]) [] M N := by
  refine J_en (L := [.ref 1, .int k, .int e, .int n]) rfl ?_
  refine J_b 8 am_d20 rfl ?_
  refine J_iast (am_d20 rfl) rfl (by assumption) ?_
  refine J_b 8 am_d20 rfl ?_
  refine J_iast (am_d20 rfl) rfl (by assumption) ?_
  refine J_b 8 am_d20 rfl ?_
  refine J_iast (am_d20 rfl) rfl (by assumption) ?_
  refine J_b 8 am_d20 rfl ?_
  refine J_iast (am_d20 rfl) rfl (by assumption) ?_
  refine J_b 5 am_d20 rfl ?_
  refine J_puti (am_d20 rfl) rfl ?_
  exact J_ret (am_d20 rfl) rfl ⟨rfl, rfl, rfl⟩
theorem sp25 {X : am_X} {M : am_M} {N : am_N} {m t e n : Int32} (hm : vp_in m 48) : am_J X (am_eq (some (.int (if M 14 m.toNatClampNeg = 0 then 0 else 1))) (am_up (am_up (am_up (am_up M 14 m.toNatClampNeg (vp_nar .boolean t)) 15 m.toNatClampNeg e) 16 m.toNatClampNeg n) 1 11 (M 1 11 + 1)) N) 25 0 (am_en 25 [.ref 1, .int m, .int t, .int e, .int n]) [] M N := by
  refine J_en (L := [.ref 1, .int m, .int t, .int e, .int n, .retAddr 0]) rfl ?_
  refine J_b 3 am_d25 rfl ?_
  refine J_zald (am_d25 rfl) rfl (by assumption) ?_
  refine J_if_eq 13 (am_d25 rfl) rfl (fun h6 => ?_) (fun h6 => ?_)
  · refine J_b 6 am_d25 rfl ?_
    refine J_zast (am_d25 rfl) rfl (by assumption) ?_
    refine J_b 4 am_d25 rfl ?_
    refine J_iast (am_d25 rfl) rfl (by assumption) ?_
    refine J_b 4 am_d25 rfl ?_
    refine J_iast (am_d25 rfl) rfl (by assumption) ?_
    refine J_b 5 am_d25 rfl ?_
    refine J_puti (am_d25 rfl) rfl ?_
    refine J_b 1 am_d25 rfl ?_
    exact J_iret (am_d25 rfl) rfl rfl ⟨by simp [*], rfl, rfl⟩
  · refine J_b 7 am_d25 rfl ?_
    refine J_zast (am_d25 rfl) rfl (by assumption) ?_
    refine J_b 4 am_d25 rfl ?_
    refine J_iast (am_d25 rfl) rfl (by assumption) ?_
    refine J_b 4 am_d25 rfl ?_
    refine J_iast (am_d25 rfl) rfl (by assumption) ?_
    refine J_b 5 am_d25 rfl ?_
    refine J_puti (am_d25 rfl) rfl ?_
    refine J_b 1 am_d25 rfl ?_
    exact J_iret (am_d25 rfl) rfl rfl ⟨by simp [*], rfl, rfl⟩
theorem sp21a {X : am_X} {M : am_M} {N : am_N} {m e n : Int32} (h1 : ¬ (0 ≤ m.toInt ∧ m.toInt < 12)) : am_J X (am_eq (some (.int (-1))) (M) N) 21 0 (am_en 21 [.ref 0, .int m, .int e, .int n]) [] M N := by
  refine J_en (L := [.ref 0, .int m, .int e, .int n]) rfl ?_
  refine J_b 2 am_d21 rfl ?_
  refine J_S2s 13 (am_d21 rfl) rfl rfl (sp13) ?_
  refine J_if_ne 11 (am_d21 rfl) rfl (fun h6 => ?_) (fun h6 => ?_)
  · refine J_b 1 am_d21 rfl ?_
    refine J_S1s 22 (am_d21 rfl) rfl rfl (sp22) ?_
    refine J_if_eq 25 (am_d21 rfl) rfl (fun h15 => ?_) (fun h15 => ?_)
    · refine J_b 1 am_d21 rfl ?_
      exact J_iret (am_d21 rfl) rfl rfl (by first | exact ⟨rfl, rfl, rfl⟩ | (exfalso; simp [am_bi0, am_bi1] at *; omega))
    · refine J_b 1 am_d21 rfl ?_
      refine J_S1s 22 (am_d21 rfl) rfl rfl (sp22) ?_
      refine J_if_ne 28 (am_d21 rfl) rfl (fun h22 => ?_) (fun h22 => ?_)
      · refine J_b 5 am_d21 rfl ?_
        refine J_V3n 23 (am_d21 rfl) rfl rfl (sp23 (vp_of (by simp [am_bi0, am_bi1] at *; omega))) ?_
        refine J_b 1 am_d21 rfl ?_
        exact J_iret (am_d21 rfl) rfl rfl (by first | exact ⟨rfl, rfl, rfl⟩ | (exfalso; simp [am_bi0, am_bi1] at *; omega))
      · refine J_b 1 am_d21 rfl ?_
        exact J_iret (am_d21 rfl) rfl rfl (by first | exact ⟨rfl, rfl, rfl⟩ | (exfalso; simp [am_bi0, am_bi1] at *; omega))
  · refine J_b 1 am_d21 rfl ?_
    exact J_iret (am_d21 rfl) rfl rfl (by first | exact ⟨rfl, rfl, rfl⟩ | (exfalso; simp [am_bi0, am_bi1] at *; omega))
theorem sp21b {X : am_X} {M : am_M} {N : am_N} {m e n : Int32} (h1 : 0 ≤ m.toInt ∧ m.toInt < 12) (h2 : ¬ ((-3 ≤ e.toInt ∧ e.toInt ≤ 3) ∧ (-3 ≤ n.toInt ∧ n.toInt ≤ 3))) : am_J X (am_eq (some (.int (-2))) (M) N) 21 0 (am_en 21 [.ref 0, .int m, .int e, .int n]) [] M N := by
  refine J_en (L := [.ref 0, .int m, .int e, .int n]) rfl ?_
  refine J_b 2 am_d21 rfl ?_
  refine J_S2s 13 (am_d21 rfl) rfl rfl (sp13) ?_
  refine J_if_ne 11 (am_d21 rfl) rfl (fun h6 => ?_) (fun h6 => ?_)
  · refine J_b 1 am_d21 rfl ?_
    refine J_S1s 22 (am_d21 rfl) rfl rfl (sp22) ?_
    refine J_if_eq 25 (am_d21 rfl) rfl (fun h15 => ?_) (fun h15 => ?_)
    · refine J_b 1 am_d21 rfl ?_
      exact J_iret (am_d21 rfl) rfl rfl (by first | exact ⟨rfl, rfl, rfl⟩ | (exfalso; simp [am_bi0, am_bi1] at *; omega))
    · refine J_b 1 am_d21 rfl ?_
      refine J_S1s 22 (am_d21 rfl) rfl rfl (sp22) ?_
      refine J_if_ne 28 (am_d21 rfl) rfl (fun h22 => ?_) (fun h22 => ?_)
      · refine J_b 5 am_d21 rfl ?_
        refine J_V3n 23 (am_d21 rfl) rfl rfl (sp23 (vp_of (by simp [am_bi0, am_bi1] at *; omega))) ?_
        refine J_b 1 am_d21 rfl ?_
        exact J_iret (am_d21 rfl) rfl rfl (by first | exact ⟨rfl, rfl, rfl⟩ | (exfalso; simp [am_bi0, am_bi1] at *; omega))
      · refine J_b 1 am_d21 rfl ?_
        exact J_iret (am_d21 rfl) rfl rfl (by first | exact ⟨rfl, rfl, rfl⟩ | (exfalso; simp [am_bi0, am_bi1] at *; omega))
  · refine J_b 1 am_d21 rfl ?_
    exact J_iret (am_d21 rfl) rfl rfl (by first | exact ⟨rfl, rfl, rfl⟩ | (exfalso; simp [am_bi0, am_bi1] at *; omega))
theorem sp21c {X : am_X} {M : am_M} {N : am_N} {m e n : Int32} (h1 : 0 ≤ m.toInt ∧ m.toInt < 12) (h2 : (-3 ≤ e.toInt ∧ e.toInt ≤ 3) ∧ (-3 ≤ n.toInt ∧ n.toInt ≤ 3)) : am_J X (am_eq (some (.int 0)) (am_up (am_up (am_up M 12 m.toNatClampNeg e) 13 m.toNatClampNeg n) 1 11 (M 1 11 + 1)) N) 21 0 (am_en 21 [.ref 0, .int m, .int e, .int n]) [] M N := by
  refine J_en (L := [.ref 0, .int m, .int e, .int n]) rfl ?_
  refine J_b 2 am_d21 rfl ?_
  refine J_S2s 13 (am_d21 rfl) rfl rfl (sp13) ?_
  refine J_if_ne 11 (am_d21 rfl) rfl (fun h6 => ?_) (fun h6 => ?_)
  · refine J_b 1 am_d21 rfl ?_
    refine J_S1s 22 (am_d21 rfl) rfl rfl (sp22) ?_
    refine J_if_eq 25 (am_d21 rfl) rfl (fun h15 => ?_) (fun h15 => ?_)
    · refine J_b 1 am_d21 rfl ?_
      exact J_iret (am_d21 rfl) rfl rfl (by first | exact ⟨rfl, rfl, rfl⟩ | (exfalso; simp [am_bi0, am_bi1] at *; omega))
    · refine J_b 1 am_d21 rfl ?_
      refine J_S1s 22 (am_d21 rfl) rfl rfl (sp22) ?_
      refine J_if_ne 28 (am_d21 rfl) rfl (fun h22 => ?_) (fun h22 => ?_)
      · refine J_b 5 am_d21 rfl ?_
        refine J_V3n 23 (am_d21 rfl) rfl rfl (sp23 (vp_of (by simp [am_bi0, am_bi1] at *; omega))) ?_
        refine J_b 1 am_d21 rfl ?_
        exact J_iret (am_d21 rfl) rfl rfl (by first | exact ⟨rfl, rfl, rfl⟩ | (exfalso; simp [am_bi0, am_bi1] at *; omega))
      · refine J_b 1 am_d21 rfl ?_
        exact J_iret (am_d21 rfl) rfl rfl (by first | exact ⟨rfl, rfl, rfl⟩ | (exfalso; simp [am_bi0, am_bi1] at *; omega))
  · refine J_b 1 am_d21 rfl ?_
    exact J_iret (am_d21 rfl) rfl rfl (by first | exact ⟨rfl, rfl, rfl⟩ | (exfalso; simp [am_bi0, am_bi1] at *; omega))
theorem sp147a {X : am_X} {M : am_M} {N : am_N} {m e n : Int32} (h1 : ¬ (0 ≤ m.toInt ∧ m.toInt < 12)) : am_J X (am_eq (some (.int (-1))) (M) N) 147 0 (am_en 147 [.ref 120, .int m, .int e, .int n]) [] M N := by
  refine J_en (L := [.ref 120, .int m, .int e, .int n]) rfl ?_
  refine J_b 4 am_d147 rfl ?_
  refine J_S3s 140 (am_d147 rfl) rfl rfl (sp140) ?_
  refine J_if_ne 14 (am_d147 rfl) rfl (fun h9 => ?_) (fun h9 => ?_)
  · refine J_b 4 am_d147 rfl ?_
    refine J_S3s 140 (am_d147 rfl) rfl rfl (sp140) ?_
    refine J_if_eq 42 (am_d147 rfl) rfl (fun h25 => ?_) (fun h25 => ?_)
    · refine J_b 1 am_d147 rfl ?_
      exact J_iret (am_d147 rfl) rfl rfl (by first | exact ⟨rfl, rfl, rfl⟩ | (exfalso; simp [am_bi0, am_bi1] at *; omega))
    · refine J_b 4 am_d147 rfl ?_
      refine J_S3s 140 (am_d147 rfl) rfl rfl (sp140) ?_
      refine J_if_ne 45 (am_d147 rfl) rfl (fun h39 => ?_) (fun h39 => ?_)
      · refine J_b 4 am_d147 rfl ?_
        refine J_iast (am_d147 rfl) rfl (vp_of (by simp [am_bi0, am_bi1] at *; omega)) ?_
        refine J_b 4 am_d147 rfl ?_
        refine J_iast (am_d147 rfl) rfl (vp_of (by simp [am_bi0, am_bi1] at *; omega)) ?_
        refine J_b 1 am_d147 rfl ?_
        exact J_iret (am_d147 rfl) rfl rfl (by first | exact ⟨rfl, rfl, rfl⟩ | (exfalso; simp [am_bi0, am_bi1] at *; omega))
      · refine J_b 1 am_d147 rfl ?_
        exact J_iret (am_d147 rfl) rfl rfl (by first | exact ⟨rfl, rfl, rfl⟩ | (exfalso; simp [am_bi0, am_bi1] at *; omega))
  · refine J_b 1 am_d147 rfl ?_
    exact J_iret (am_d147 rfl) rfl rfl (by first | exact ⟨rfl, rfl, rfl⟩ | (exfalso; simp [am_bi0, am_bi1] at *; omega))
theorem sp147b {X : am_X} {M : am_M} {N : am_N} {m e n : Int32} (h1 : 0 ≤ m.toInt ∧ m.toInt < 12) (h2 : ¬ ((-3 ≤ e.toInt ∧ e.toInt ≤ 3) ∧ (-3 ≤ n.toInt ∧ n.toInt ≤ 3))) : am_J X (am_eq (some (.int (-2))) (M) N) 147 0 (am_en 147 [.ref 120, .int m, .int e, .int n]) [] M N := by
  refine J_en (L := [.ref 120, .int m, .int e, .int n]) rfl ?_
  refine J_b 4 am_d147 rfl ?_
  refine J_S3s 140 (am_d147 rfl) rfl rfl (sp140) ?_
  refine J_if_ne 14 (am_d147 rfl) rfl (fun h9 => ?_) (fun h9 => ?_)
  · refine J_b 4 am_d147 rfl ?_
    refine J_S3s 140 (am_d147 rfl) rfl rfl (sp140) ?_
    refine J_if_eq 42 (am_d147 rfl) rfl (fun h25 => ?_) (fun h25 => ?_)
    · refine J_b 1 am_d147 rfl ?_
      exact J_iret (am_d147 rfl) rfl rfl (by first | exact ⟨rfl, rfl, rfl⟩ | (exfalso; simp [am_bi0, am_bi1] at *; omega))
    · refine J_b 4 am_d147 rfl ?_
      refine J_S3s 140 (am_d147 rfl) rfl rfl (sp140) ?_
      refine J_if_ne 45 (am_d147 rfl) rfl (fun h39 => ?_) (fun h39 => ?_)
      · refine J_b 4 am_d147 rfl ?_
        refine J_iast (am_d147 rfl) rfl (vp_of (by simp [am_bi0, am_bi1] at *; omega)) ?_
        refine J_b 4 am_d147 rfl ?_
        refine J_iast (am_d147 rfl) rfl (vp_of (by simp [am_bi0, am_bi1] at *; omega)) ?_
        refine J_b 1 am_d147 rfl ?_
        exact J_iret (am_d147 rfl) rfl rfl (by first | exact ⟨rfl, rfl, rfl⟩ | (exfalso; simp [am_bi0, am_bi1] at *; omega))
      · refine J_b 1 am_d147 rfl ?_
        exact J_iret (am_d147 rfl) rfl rfl (by first | exact ⟨rfl, rfl, rfl⟩ | (exfalso; simp [am_bi0, am_bi1] at *; omega))
  · refine J_b 1 am_d147 rfl ?_
    exact J_iret (am_d147 rfl) rfl rfl (by first | exact ⟨rfl, rfl, rfl⟩ | (exfalso; simp [am_bi0, am_bi1] at *; omega))
theorem sp147c {X : am_X} {M : am_M} {N : am_N} {m e n : Int32} (h1 : 0 ≤ m.toInt ∧ m.toInt < 12) (h2 : (-3 ≤ e.toInt ∧ e.toInt ≤ 3) ∧ (-3 ≤ n.toInt ∧ n.toInt ≤ 3)) : am_J X (am_eq (some (.int 0)) (am_up (am_up M 131 m.toNatClampNeg e) 132 m.toNatClampNeg n) N) 147 0 (am_en 147 [.ref 120, .int m, .int e, .int n]) [] M N := by
  refine J_en (L := [.ref 120, .int m, .int e, .int n]) rfl ?_
  refine J_b 4 am_d147 rfl ?_
  refine J_S3s 140 (am_d147 rfl) rfl rfl (sp140) ?_
  refine J_if_ne 14 (am_d147 rfl) rfl (fun h9 => ?_) (fun h9 => ?_)
  · refine J_b 4 am_d147 rfl ?_
    refine J_S3s 140 (am_d147 rfl) rfl rfl (sp140) ?_
    refine J_if_eq 42 (am_d147 rfl) rfl (fun h25 => ?_) (fun h25 => ?_)
    · refine J_b 1 am_d147 rfl ?_
      exact J_iret (am_d147 rfl) rfl rfl (by first | exact ⟨rfl, rfl, rfl⟩ | (exfalso; simp [am_bi0, am_bi1] at *; omega))
    · refine J_b 4 am_d147 rfl ?_
      refine J_S3s 140 (am_d147 rfl) rfl rfl (sp140) ?_
      refine J_if_ne 45 (am_d147 rfl) rfl (fun h39 => ?_) (fun h39 => ?_)
      · refine J_b 4 am_d147 rfl ?_
        refine J_iast (am_d147 rfl) rfl (vp_of (by simp [am_bi0, am_bi1] at *; omega)) ?_
        refine J_b 4 am_d147 rfl ?_
        refine J_iast (am_d147 rfl) rfl (vp_of (by simp [am_bi0, am_bi1] at *; omega)) ?_
        refine J_b 1 am_d147 rfl ?_
        exact J_iret (am_d147 rfl) rfl rfl (by first | exact ⟨rfl, rfl, rfl⟩ | (exfalso; simp [am_bi0, am_bi1] at *; omega))
      · refine J_b 1 am_d147 rfl ?_
        exact J_iret (am_d147 rfl) rfl rfl (by first | exact ⟨rfl, rfl, rfl⟩ | (exfalso; simp [am_bi0, am_bi1] at *; omega))
  · refine J_b 1 am_d147 rfl ?_
    exact J_iret (am_d147 rfl) rfl rfl (by first | exact ⟨rfl, rfl, rfl⟩ | (exfalso; simp [am_bi0, am_bi1] at *; omega))
theorem sp24a {X : am_X} {M : am_M} {N : am_N} {m e n : Int32} (h1 : ¬ (0 ≤ m.toInt ∧ m.toInt < 48)) : am_J X (am_eq (some (.int (-1))) (M) N) 24 0 (am_en 24 [.ref 0, .int m, .int e, .int n]) [] M N := by
  refine J_en (L := [.ref 0, .int m, .int e, .int n]) rfl ?_
  refine J_b 2 am_d24 rfl ?_
  refine J_S2s 13 (am_d24 rfl) rfl rfl (sp13) ?_
  refine J_if_ne 11 (am_d24 rfl) rfl (fun h6 => ?_) (fun h6 => ?_)
  · refine J_b 1 am_d24 rfl ?_
    refine J_S1s 22 (am_d24 rfl) rfl rfl (sp22) ?_
    refine J_if_eq 25 (am_d24 rfl) rfl (fun h15 => ?_) (fun h15 => ?_)
    · refine J_b 1 am_d24 rfl ?_
      exact J_iret (am_d24 rfl) rfl rfl (by first | exact ⟨rfl, rfl, rfl⟩ | (exfalso; simp [am_bi0, am_bi1] at *; omega))
    · refine J_b 1 am_d24 rfl ?_
      refine J_S1s 22 (am_d24 rfl) rfl rfl (sp22) ?_
      refine J_if_ne 28 (am_d24 rfl) rfl (fun h22 => ?_) (fun h22 => ?_)
      · refine J_b 6 am_d24 rfl ?_
        refine J_V4s 25 (am_d24 rfl) rfl rfl (sp25 (vp_of (by simp [am_bi0, am_bi1] at *; omega))) ?_
        exact J_iret (am_d24 rfl) rfl rfl (by first | exact ⟨rfl, rfl, rfl⟩ | (exfalso; simp [am_bi0, am_bi1] at *; omega))
      · refine J_b 1 am_d24 rfl ?_
        exact J_iret (am_d24 rfl) rfl rfl (by first | exact ⟨rfl, rfl, rfl⟩ | (exfalso; simp [am_bi0, am_bi1] at *; omega))
  · refine J_b 1 am_d24 rfl ?_
    exact J_iret (am_d24 rfl) rfl rfl (by first | exact ⟨rfl, rfl, rfl⟩ | (exfalso; simp [am_bi0, am_bi1] at *; omega))
theorem sp24b {X : am_X} {M : am_M} {N : am_N} {m e n : Int32} (h1 : 0 ≤ m.toInt ∧ m.toInt < 48) (h2 : ¬ ((-3 ≤ e.toInt ∧ e.toInt ≤ 3) ∧ (-3 ≤ n.toInt ∧ n.toInt ≤ 3))) : am_J X (am_eq (some (.int (-2))) (M) N) 24 0 (am_en 24 [.ref 0, .int m, .int e, .int n]) [] M N := by
  refine J_en (L := [.ref 0, .int m, .int e, .int n]) rfl ?_
  refine J_b 2 am_d24 rfl ?_
  refine J_S2s 13 (am_d24 rfl) rfl rfl (sp13) ?_
  refine J_if_ne 11 (am_d24 rfl) rfl (fun h6 => ?_) (fun h6 => ?_)
  · refine J_b 1 am_d24 rfl ?_
    refine J_S1s 22 (am_d24 rfl) rfl rfl (sp22) ?_
    refine J_if_eq 25 (am_d24 rfl) rfl (fun h15 => ?_) (fun h15 => ?_)
    · refine J_b 1 am_d24 rfl ?_
      exact J_iret (am_d24 rfl) rfl rfl (by first | exact ⟨rfl, rfl, rfl⟩ | (exfalso; simp [am_bi0, am_bi1] at *; omega))
    · refine J_b 1 am_d24 rfl ?_
      refine J_S1s 22 (am_d24 rfl) rfl rfl (sp22) ?_
      refine J_if_ne 28 (am_d24 rfl) rfl (fun h22 => ?_) (fun h22 => ?_)
      · refine J_b 6 am_d24 rfl ?_
        refine J_V4s 25 (am_d24 rfl) rfl rfl (sp25 (vp_of (by simp [am_bi0, am_bi1] at *; omega))) ?_
        exact J_iret (am_d24 rfl) rfl rfl (by first | exact ⟨rfl, rfl, rfl⟩ | (exfalso; simp [am_bi0, am_bi1] at *; omega))
      · refine J_b 1 am_d24 rfl ?_
        exact J_iret (am_d24 rfl) rfl rfl (by first | exact ⟨rfl, rfl, rfl⟩ | (exfalso; simp [am_bi0, am_bi1] at *; omega))
  · refine J_b 1 am_d24 rfl ?_
    exact J_iret (am_d24 rfl) rfl rfl (by first | exact ⟨rfl, rfl, rfl⟩ | (exfalso; simp [am_bi0, am_bi1] at *; omega))
theorem sp24c {X : am_X} {M : am_M} {N : am_N} {m e n : Int32} (h1 : 0 ≤ m.toInt ∧ m.toInt < 48) (h2 : (-3 ≤ e.toInt ∧ e.toInt ≤ 3) ∧ (-3 ≤ n.toInt ∧ n.toInt ≤ 3)) : am_J X (am_eq (some (.int (if M 14 m.toNatClampNeg = 0 then 0 else 1))) (am_up (am_up (am_up (am_up M 14 m.toNatClampNeg (vp_nar .boolean 1)) 15 m.toNatClampNeg e) 16 m.toNatClampNeg n) 1 11 (M 1 11 + 1)) N) 24 0 (am_en 24 [.ref 0, .int m, .int e, .int n]) [] M N := by
  refine J_en (L := [.ref 0, .int m, .int e, .int n]) rfl ?_
  refine J_b 2 am_d24 rfl ?_
  refine J_S2s 13 (am_d24 rfl) rfl rfl (sp13) ?_
  refine J_if_ne 11 (am_d24 rfl) rfl (fun h6 => ?_) (fun h6 => ?_)
  · refine J_b 1 am_d24 rfl ?_
    refine J_S1s 22 (am_d24 rfl) rfl rfl (sp22) ?_
    refine J_if_eq 25 (am_d24 rfl) rfl (fun h15 => ?_) (fun h15 => ?_)
    · refine J_b 1 am_d24 rfl ?_
      exact J_iret (am_d24 rfl) rfl rfl (by first | exact ⟨rfl, rfl, rfl⟩ | (exfalso; simp [am_bi0, am_bi1] at *; omega))
    · refine J_b 1 am_d24 rfl ?_
      refine J_S1s 22 (am_d24 rfl) rfl rfl (sp22) ?_
      refine J_if_ne 28 (am_d24 rfl) rfl (fun h22 => ?_) (fun h22 => ?_)
      · refine J_b 6 am_d24 rfl ?_
        refine J_V4s 25 (am_d24 rfl) rfl rfl (sp25 (vp_of (by simp [am_bi0, am_bi1] at *; omega))) ?_
        exact J_iret (am_d24 rfl) rfl rfl (by first | exact ⟨rfl, rfl, rfl⟩ | (exfalso; simp [am_bi0, am_bi1] at *; omega))
      · refine J_b 1 am_d24 rfl ?_
        exact J_iret (am_d24 rfl) rfl rfl (by first | exact ⟨rfl, rfl, rfl⟩ | (exfalso; simp [am_bi0, am_bi1] at *; omega))
  · refine J_b 1 am_d24 rfl ?_
    exact J_iret (am_d24 rfl) rfl rfl (by first | exact ⟨rfl, rfl, rfl⟩ | (exfalso; simp [am_bi0, am_bi1] at *; omega))
theorem sp148a {X : am_X} {M : am_M} {N : am_N} {m e n : Int32} (h1 : ¬ (0 ≤ m.toInt ∧ m.toInt < 48)) : am_J X (am_eq (some (.int (-1))) (M) N) 148 0 (am_en 148 [.ref 120, .int m, .int e, .int n]) [] M N := by
  refine J_en (L := [.ref 120, .int m, .int e, .int n, .retAddr 0]) rfl ?_
  refine J_b 4 am_d148 rfl ?_
  refine J_S3s 140 (am_d148 rfl) rfl rfl (sp140) ?_
  refine J_if_ne 14 (am_d148 rfl) rfl (fun h9 => ?_) (fun h9 => ?_)
  · refine J_b 4 am_d148 rfl ?_
    refine J_S3s 140 (am_d148 rfl) rfl rfl (sp140) ?_
    refine J_if_eq 42 (am_d148 rfl) rfl (fun h25 => ?_) (fun h25 => ?_)
    · refine J_b 1 am_d148 rfl ?_
      exact J_iret (am_d148 rfl) rfl rfl (by first | exact ⟨rfl, rfl, rfl⟩ | (exfalso; simp [am_bi0, am_bi1] at *; omega; done) | exact ⟨by simp [*], rfl, rfl⟩)
    · refine J_b 4 am_d148 rfl ?_
      refine J_S3s 140 (am_d148 rfl) rfl rfl (sp140) ?_
      refine J_if_ne 45 (am_d148 rfl) rfl (fun h39 => ?_) (fun h39 => ?_)
      · refine J_b 3 am_d148 rfl ?_
        refine J_zald (am_d148 rfl) rfl (vp_of (by simp [am_bi0, am_bi1] at *; omega)) ?_
        refine J_if_eq 58 (am_d148 rfl) rfl (fun h51 => ?_) (fun h51 => ?_)
        · refine J_b 6 am_d148 rfl ?_
          refine J_zast (am_d148 rfl) rfl (vp_of (by simp [am_bi0, am_bi1] at *; omega)) ?_
          refine J_b 4 am_d148 rfl ?_
          refine J_iast (am_d148 rfl) rfl (vp_of (by simp [am_bi0, am_bi1] at *; omega)) ?_
          refine J_b 4 am_d148 rfl ?_
          refine J_iast (am_d148 rfl) rfl (vp_of (by simp [am_bi0, am_bi1] at *; omega)) ?_
          refine J_b 1 am_d148 rfl ?_
          exact J_iret (am_d148 rfl) rfl rfl (by first | exact ⟨rfl, rfl, rfl⟩ | (exfalso; simp [am_bi0, am_bi1] at *; omega; done) | exact ⟨by simp [*], rfl, rfl⟩)
        · refine J_b 7 am_d148 rfl ?_
          refine J_zast (am_d148 rfl) rfl (vp_of (by simp [am_bi0, am_bi1] at *; omega)) ?_
          refine J_b 4 am_d148 rfl ?_
          refine J_iast (am_d148 rfl) rfl (vp_of (by simp [am_bi0, am_bi1] at *; omega)) ?_
          refine J_b 4 am_d148 rfl ?_
          refine J_iast (am_d148 rfl) rfl (vp_of (by simp [am_bi0, am_bi1] at *; omega)) ?_
          refine J_b 1 am_d148 rfl ?_
          exact J_iret (am_d148 rfl) rfl rfl (by first | exact ⟨rfl, rfl, rfl⟩ | (exfalso; simp [am_bi0, am_bi1] at *; omega; done) | exact ⟨by simp [*], rfl, rfl⟩)
      · refine J_b 1 am_d148 rfl ?_
        exact J_iret (am_d148 rfl) rfl rfl (by first | exact ⟨rfl, rfl, rfl⟩ | (exfalso; simp [am_bi0, am_bi1] at *; omega; done) | exact ⟨by simp [*], rfl, rfl⟩)
  · refine J_b 1 am_d148 rfl ?_
    exact J_iret (am_d148 rfl) rfl rfl (by first | exact ⟨rfl, rfl, rfl⟩ | (exfalso; simp [am_bi0, am_bi1] at *; omega; done) | exact ⟨by simp [*], rfl, rfl⟩)
theorem sp148b {X : am_X} {M : am_M} {N : am_N} {m e n : Int32} (h1 : 0 ≤ m.toInt ∧ m.toInt < 48) (h2 : ¬ ((-3 ≤ e.toInt ∧ e.toInt ≤ 3) ∧ (-3 ≤ n.toInt ∧ n.toInt ≤ 3))) : am_J X (am_eq (some (.int (-2))) (M) N) 148 0 (am_en 148 [.ref 120, .int m, .int e, .int n]) [] M N := by
  refine J_en (L := [.ref 120, .int m, .int e, .int n, .retAddr 0]) rfl ?_
  refine J_b 4 am_d148 rfl ?_
  refine J_S3s 140 (am_d148 rfl) rfl rfl (sp140) ?_
  refine J_if_ne 14 (am_d148 rfl) rfl (fun h9 => ?_) (fun h9 => ?_)
  · refine J_b 4 am_d148 rfl ?_
    refine J_S3s 140 (am_d148 rfl) rfl rfl (sp140) ?_
    refine J_if_eq 42 (am_d148 rfl) rfl (fun h25 => ?_) (fun h25 => ?_)
    · refine J_b 1 am_d148 rfl ?_
      exact J_iret (am_d148 rfl) rfl rfl (by first | exact ⟨rfl, rfl, rfl⟩ | (exfalso; simp [am_bi0, am_bi1] at *; omega; done) | exact ⟨by simp [*], rfl, rfl⟩)
    · refine J_b 4 am_d148 rfl ?_
      refine J_S3s 140 (am_d148 rfl) rfl rfl (sp140) ?_
      refine J_if_ne 45 (am_d148 rfl) rfl (fun h39 => ?_) (fun h39 => ?_)
      · refine J_b 3 am_d148 rfl ?_
        refine J_zald (am_d148 rfl) rfl (vp_of (by simp [am_bi0, am_bi1] at *; omega)) ?_
        refine J_if_eq 58 (am_d148 rfl) rfl (fun h51 => ?_) (fun h51 => ?_)
        · refine J_b 6 am_d148 rfl ?_
          refine J_zast (am_d148 rfl) rfl (vp_of (by simp [am_bi0, am_bi1] at *; omega)) ?_
          refine J_b 4 am_d148 rfl ?_
          refine J_iast (am_d148 rfl) rfl (vp_of (by simp [am_bi0, am_bi1] at *; omega)) ?_
          refine J_b 4 am_d148 rfl ?_
          refine J_iast (am_d148 rfl) rfl (vp_of (by simp [am_bi0, am_bi1] at *; omega)) ?_
          refine J_b 1 am_d148 rfl ?_
          exact J_iret (am_d148 rfl) rfl rfl (by first | exact ⟨rfl, rfl, rfl⟩ | (exfalso; simp [am_bi0, am_bi1] at *; omega; done) | exact ⟨by simp [*], rfl, rfl⟩)
        · refine J_b 7 am_d148 rfl ?_
          refine J_zast (am_d148 rfl) rfl (vp_of (by simp [am_bi0, am_bi1] at *; omega)) ?_
          refine J_b 4 am_d148 rfl ?_
          refine J_iast (am_d148 rfl) rfl (vp_of (by simp [am_bi0, am_bi1] at *; omega)) ?_
          refine J_b 4 am_d148 rfl ?_
          refine J_iast (am_d148 rfl) rfl (vp_of (by simp [am_bi0, am_bi1] at *; omega)) ?_
          refine J_b 1 am_d148 rfl ?_
          exact J_iret (am_d148 rfl) rfl rfl (by first | exact ⟨rfl, rfl, rfl⟩ | (exfalso; simp [am_bi0, am_bi1] at *; omega; done) | exact ⟨by simp [*], rfl, rfl⟩)
      · refine J_b 1 am_d148 rfl ?_
        exact J_iret (am_d148 rfl) rfl rfl (by first | exact ⟨rfl, rfl, rfl⟩ | (exfalso; simp [am_bi0, am_bi1] at *; omega; done) | exact ⟨by simp [*], rfl, rfl⟩)
  · refine J_b 1 am_d148 rfl ?_
    exact J_iret (am_d148 rfl) rfl rfl (by first | exact ⟨rfl, rfl, rfl⟩ | (exfalso; simp [am_bi0, am_bi1] at *; omega; done) | exact ⟨by simp [*], rfl, rfl⟩)
theorem sp148c {X : am_X} {M : am_M} {N : am_N} {m e n : Int32} (h1 : 0 ≤ m.toInt ∧ m.toInt < 48) (h2 : (-3 ≤ e.toInt ∧ e.toInt ≤ 3) ∧ (-3 ≤ n.toInt ∧ n.toInt ≤ 3)) : am_J X (am_eq (some (.int (if M 135 m.toNatClampNeg = 0 then 0 else 1))) (am_up (am_up (am_up M 135 m.toNatClampNeg (vp_nar .boolean 1)) 133 m.toNatClampNeg e) 134 m.toNatClampNeg n) N) 148 0 (am_en 148 [.ref 120, .int m, .int e, .int n]) [] M N := by
  refine J_en (L := [.ref 120, .int m, .int e, .int n, .retAddr 0]) rfl ?_
  refine J_b 4 am_d148 rfl ?_
  refine J_S3s 140 (am_d148 rfl) rfl rfl (sp140) ?_
  refine J_if_ne 14 (am_d148 rfl) rfl (fun h9 => ?_) (fun h9 => ?_)
  · refine J_b 4 am_d148 rfl ?_
    refine J_S3s 140 (am_d148 rfl) rfl rfl (sp140) ?_
    refine J_if_eq 42 (am_d148 rfl) rfl (fun h25 => ?_) (fun h25 => ?_)
    · refine J_b 1 am_d148 rfl ?_
      exact J_iret (am_d148 rfl) rfl rfl (by first | exact ⟨rfl, rfl, rfl⟩ | (exfalso; simp [am_bi0, am_bi1] at *; omega; done) | exact ⟨by simp [*], rfl, rfl⟩)
    · refine J_b 4 am_d148 rfl ?_
      refine J_S3s 140 (am_d148 rfl) rfl rfl (sp140) ?_
      refine J_if_ne 45 (am_d148 rfl) rfl (fun h39 => ?_) (fun h39 => ?_)
      · refine J_b 3 am_d148 rfl ?_
        refine J_zald (am_d148 rfl) rfl (vp_of (by simp [am_bi0, am_bi1] at *; omega)) ?_
        refine J_if_eq 58 (am_d148 rfl) rfl (fun h51 => ?_) (fun h51 => ?_)
        · refine J_b 6 am_d148 rfl ?_
          refine J_zast (am_d148 rfl) rfl (vp_of (by simp [am_bi0, am_bi1] at *; omega)) ?_
          refine J_b 4 am_d148 rfl ?_
          refine J_iast (am_d148 rfl) rfl (vp_of (by simp [am_bi0, am_bi1] at *; omega)) ?_
          refine J_b 4 am_d148 rfl ?_
          refine J_iast (am_d148 rfl) rfl (vp_of (by simp [am_bi0, am_bi1] at *; omega)) ?_
          refine J_b 1 am_d148 rfl ?_
          exact J_iret (am_d148 rfl) rfl rfl (by first | exact ⟨rfl, rfl, rfl⟩ | (exfalso; simp [am_bi0, am_bi1] at *; omega; done) | exact ⟨by simp [*], rfl, rfl⟩)
        · refine J_b 7 am_d148 rfl ?_
          refine J_zast (am_d148 rfl) rfl (vp_of (by simp [am_bi0, am_bi1] at *; omega)) ?_
          refine J_b 4 am_d148 rfl ?_
          refine J_iast (am_d148 rfl) rfl (vp_of (by simp [am_bi0, am_bi1] at *; omega)) ?_
          refine J_b 4 am_d148 rfl ?_
          refine J_iast (am_d148 rfl) rfl (vp_of (by simp [am_bi0, am_bi1] at *; omega)) ?_
          refine J_b 1 am_d148 rfl ?_
          exact J_iret (am_d148 rfl) rfl rfl (by first | exact ⟨rfl, rfl, rfl⟩ | (exfalso; simp [am_bi0, am_bi1] at *; omega; done) | exact ⟨by simp [*], rfl, rfl⟩)
      · refine J_b 1 am_d148 rfl ?_
        exact J_iret (am_d148 rfl) rfl rfl (by first | exact ⟨rfl, rfl, rfl⟩ | (exfalso; simp [am_bi0, am_bi1] at *; omega; done) | exact ⟨by simp [*], rfl, rfl⟩)
  · refine J_b 1 am_d148 rfl ?_
    exact J_iret (am_d148 rfl) rfl rfl (by first | exact ⟨rfl, rfl, rfl⟩ | (exfalso; simp [am_bi0, am_bi1] at *; omega; done) | exact ⟨by simp [*], rfl, rfl⟩)
theorem sp26a {X : am_X} {M : am_M} {N : am_N} {m : Int32} (h1 : ¬ (0 ≤ m.toInt ∧ m.toInt < 48)) : am_J X (am_eq (some (.int (-1))) (M) N) 26 0 (am_en 26 [.ref 0, .int m]) [] M N := by
  refine J_en (L := [.ref 0, .int m]) rfl ?_
  refine J_b 2 am_d26 rfl ?_
  refine J_S2s 13 (am_d26 rfl) rfl rfl (sp13) ?_
  refine J_if_ne 11 (am_d26 rfl) rfl (fun h6 => ?_) (fun h6 => ?_)
  · refine J_b 6 am_d26 rfl ?_
    refine J_V4s 25 (am_d26 rfl) rfl rfl (sp25 (vp_of (by simp [am_bi0, am_bi1] at *; omega))) ?_
    exact J_iret (am_d26 rfl) rfl rfl (by first | exact ⟨rfl, rfl, rfl⟩ | (exfalso; simp [am_bi0, am_bi1] at *; omega))
  · refine J_b 1 am_d26 rfl ?_
    exact J_iret (am_d26 rfl) rfl rfl (by first | exact ⟨rfl, rfl, rfl⟩ | (exfalso; simp [am_bi0, am_bi1] at *; omega))
theorem sp26c {X : am_X} {M : am_M} {N : am_N} {m : Int32} (h1 : 0 ≤ m.toInt ∧ m.toInt < 48) : am_J X (am_eq (some (.int (if M 14 m.toNatClampNeg = 0 then 0 else 1))) (am_up (am_up (am_up (am_up M 14 m.toNatClampNeg (vp_nar .boolean 0)) 15 m.toNatClampNeg 0) 16 m.toNatClampNeg 0) 1 11 (M 1 11 + 1)) N) 26 0 (am_en 26 [.ref 0, .int m]) [] M N := by
  refine J_en (L := [.ref 0, .int m]) rfl ?_
  refine J_b 2 am_d26 rfl ?_
  refine J_S2s 13 (am_d26 rfl) rfl rfl (sp13) ?_
  refine J_if_ne 11 (am_d26 rfl) rfl (fun h6 => ?_) (fun h6 => ?_)
  · refine J_b 6 am_d26 rfl ?_
    refine J_V4s 25 (am_d26 rfl) rfl rfl (sp25 (vp_of (by simp [am_bi0, am_bi1] at *; omega))) ?_
    exact J_iret (am_d26 rfl) rfl rfl (by first | exact ⟨rfl, rfl, rfl⟩ | (exfalso; simp [am_bi0, am_bi1] at *; omega))
  · refine J_b 1 am_d26 rfl ?_
    exact J_iret (am_d26 rfl) rfl rfl (by first | exact ⟨rfl, rfl, rfl⟩ | (exfalso; simp [am_bi0, am_bi1] at *; omega))
theorem sp149a {X : am_X} {M : am_M} {N : am_N} {m : Int32} (h1 : ¬ (0 ≤ m.toInt ∧ m.toInt < 48)) : am_J X (am_eq (some (.int (-1))) (M) N) 149 0 (am_en 149 [.ref 120, .int m]) [] M N := by
  refine J_en (L := [.ref 120, .int m, .retAddr 0]) rfl ?_
  refine J_b 4 am_d149 rfl ?_
  refine J_S3s 140 (am_d149 rfl) rfl rfl (sp140) ?_
  refine J_if_ne 14 (am_d149 rfl) rfl (fun h9 => ?_) (fun h9 => ?_)
  · refine J_b 3 am_d149 rfl ?_
    refine J_zald (am_d149 rfl) rfl (vp_of (by simp [am_bi0, am_bi1] at *; omega)) ?_
    refine J_if_eq 27 (am_d149 rfl) rfl (fun h20 => ?_) (fun h20 => ?_)
    · refine J_b 6 am_d149 rfl ?_
      refine J_zast (am_d149 rfl) rfl (vp_of (by simp [am_bi0, am_bi1] at *; omega)) ?_
      refine J_b 1 am_d149 rfl ?_
      exact J_iret (am_d149 rfl) rfl rfl (by first | exact ⟨rfl, rfl, rfl⟩ | (exfalso; simp [am_bi0, am_bi1] at *; omega; done) | exact ⟨by simp [*], rfl, rfl⟩)
    · refine J_b 7 am_d149 rfl ?_
      refine J_zast (am_d149 rfl) rfl (vp_of (by simp [am_bi0, am_bi1] at *; omega)) ?_
      refine J_b 1 am_d149 rfl ?_
      exact J_iret (am_d149 rfl) rfl rfl (by first | exact ⟨rfl, rfl, rfl⟩ | (exfalso; simp [am_bi0, am_bi1] at *; omega; done) | exact ⟨by simp [*], rfl, rfl⟩)
  · refine J_b 1 am_d149 rfl ?_
    exact J_iret (am_d149 rfl) rfl rfl (by first | exact ⟨rfl, rfl, rfl⟩ | (exfalso; simp [am_bi0, am_bi1] at *; omega; done) | exact ⟨by simp [*], rfl, rfl⟩)
theorem sp149c {X : am_X} {M : am_M} {N : am_N} {m : Int32} (h1 : 0 ≤ m.toInt ∧ m.toInt < 48) : am_J X (am_eq (some (.int (if M 135 m.toNatClampNeg = 0 then 0 else 1))) (am_up M 135 m.toNatClampNeg (vp_nar .boolean 0)) N) 149 0 (am_en 149 [.ref 120, .int m]) [] M N := by
  refine J_en (L := [.ref 120, .int m, .retAddr 0]) rfl ?_
  refine J_b 4 am_d149 rfl ?_
  refine J_S3s 140 (am_d149 rfl) rfl rfl (sp140) ?_
  refine J_if_ne 14 (am_d149 rfl) rfl (fun h9 => ?_) (fun h9 => ?_)
  · refine J_b 3 am_d149 rfl ?_
    refine J_zald (am_d149 rfl) rfl (vp_of (by simp [am_bi0, am_bi1] at *; omega)) ?_
    refine J_if_eq 27 (am_d149 rfl) rfl (fun h20 => ?_) (fun h20 => ?_)
    · refine J_b 6 am_d149 rfl ?_
      refine J_zast (am_d149 rfl) rfl (vp_of (by simp [am_bi0, am_bi1] at *; omega)) ?_
      refine J_b 1 am_d149 rfl ?_
      exact J_iret (am_d149 rfl) rfl rfl (by first | exact ⟨rfl, rfl, rfl⟩ | (exfalso; simp [am_bi0, am_bi1] at *; omega; done) | exact ⟨by simp [*], rfl, rfl⟩)
    · refine J_b 7 am_d149 rfl ?_
      refine J_zast (am_d149 rfl) rfl (vp_of (by simp [am_bi0, am_bi1] at *; omega)) ?_
      refine J_b 1 am_d149 rfl ?_
      exact J_iret (am_d149 rfl) rfl rfl (by first | exact ⟨rfl, rfl, rfl⟩ | (exfalso; simp [am_bi0, am_bi1] at *; omega; done) | exact ⟨by simp [*], rfl, rfl⟩)
  · refine J_b 1 am_d149 rfl ?_
    exact J_iret (am_d149 rfl) rfl rfl (by first | exact ⟨rfl, rfl, rfl⟩ | (exfalso; simp [am_bi0, am_bi1] at *; omega; done) | exact ⟨by simp [*], rfl, rfl⟩)
def P_sp (x : Int32) : Prop := ¬ x < 0 ∧ ¬ 6 < x / 10 ∧ ¬ 6 < x - x / 10 * 10 ∧ ¬ x - x / 10 * 10 < x / 10
theorem P_sp_b {x : Int32} (h : P_sp x) : b_in (x / 10 - 3) (-3) 3 ∧ b_in (x - x / 10 * 10 - 3) (-3) 3 := by
  obtain ⟨h1, h2, h3, h4⟩ := h
  simp only [Int32.lt_iff_toInt_lt] at h1 h2 h3 h4
  have z : (0 : Int32).toInt = 0 := rfl
  have z3 : (3 : Int32).toInt = 3 := rfl
  have z6 : (6 : Int32).toInt = 6 := rfl
  have e1 := I_div10 (a := x) (by omega)
  have e2 := I_rem10 (a := x) (by omega)
  unfold b_in
  rw [I_sub (by omega), I_sub (by omega)]
  omega
theorem I_12 {r m : Int32} (h1 : 0 ≤ r.toInt ∧ r.toInt < 3) (h2 : 0 ≤ m.toInt ∧ m.toInt < 12) : vp_in (r * 12 + m) 36 ∧ vp_in (12 * r + m) 36 := by
  have z : (12 : Int32).toInt = 12 := rfl
  have e1 : (r * 12).toInt = r.toInt * 12 := by rw [I_mul (by rw [z]; omega), z]
  have e2 : (12 * r).toInt = r.toInt * 12 := by rw [I_mul (by rw [z]; omega), z]; omega
  refine ⟨vp_of ?_, vp_of ?_⟩ <;> (rw [I_add (by omega)]; omega)
theorem sp18a {X : am_X} {M : am_M} {N : am_N} {r m e n : Int32} (h1 : ¬ ((0 ≤ r.toInt ∧ r.toInt < 3) ∧ (0 ≤ m.toInt ∧ m.toInt < 12))) : am_J X (am_eq (some (.int (-1))) (M) N) 18 0 (am_en 18 [.ref 0, .int r, .int m, .int e, .int n]) [] M N := by
  refine J_en (L := [.ref 0, .int r, .int m, .int e, .int n]) rfl ?_
  refine J_b 2 am_d18 rfl ?_
  refine J_S2s 13 (am_d18 rfl) rfl rfl (sp13) ?_
  refine J_if_eq 17 (am_d18 rfl) rfl (fun h5 => ?_) (fun h5 => ?_)
  · refine J_b 1 am_d18 rfl ?_
    exact J_iret (am_d18 rfl) rfl rfl (by first | exact ⟨rfl, rfl, rfl⟩ | (exfalso; first | (simp [am_bi0, am_bi1] at *; omega) | (simp only [am_bi0, am_bi1, P_sp] at *; simp_all)))
  · refine J_b 2 am_d18 rfl ?_
    refine J_S2s 13 (am_d18 rfl) rfl rfl (sp13) ?_
    refine J_if_ne 19 (am_d18 rfl) rfl (fun h14 => ?_) (fun h14 => ?_)
    · refine J_b 1 am_d18 rfl ?_
      refine J_S1s 19 (am_d18 rfl) rfl rfl (sp19) ?_
      refine J_if_eq 34 (am_d18 rfl) rfl (fun h23 => ?_) (fun h23 => ?_)
      · refine J_b 1 am_d18 rfl ?_
        exact J_iret (am_d18 rfl) rfl rfl (by first | exact ⟨rfl, rfl, rfl⟩ | (exfalso; first | (simp [am_bi0, am_bi1] at *; omega) | (simp only [am_bi0, am_bi1, P_sp] at *; simp_all)))
      · refine J_b 1 am_d18 rfl ?_
        refine J_S1s 19 (am_d18 rfl) rfl rfl (sp19) ?_
        refine J_if_ne 37 (am_d18 rfl) rfl (fun h31 => ?_) (fun h31 => ?_)
        · refine J_b 9 am_d18 rfl ?_
          refine J_V3n 20 (am_d18 rfl) rfl rfl (sp20 (I_12 (by simp [am_bi0, am_bi1] at *; omega) (by simp [am_bi0, am_bi1] at *; omega)).1) ?_
          refine J_b 1 am_d18 rfl ?_
          exact J_iret (am_d18 rfl) rfl rfl (by first | exact ⟨rfl, rfl, rfl⟩ | (exfalso; first | (simp [am_bi0, am_bi1] at *; omega) | (simp only [am_bi0, am_bi1, P_sp] at *; simp_all)))
        · refine J_b 1 am_d18 rfl ?_
          exact J_iret (am_d18 rfl) rfl rfl (by first | exact ⟨rfl, rfl, rfl⟩ | (exfalso; first | (simp [am_bi0, am_bi1] at *; omega) | (simp only [am_bi0, am_bi1, P_sp] at *; simp_all)))
    · refine J_b 1 am_d18 rfl ?_
      exact J_iret (am_d18 rfl) rfl rfl (by first | exact ⟨rfl, rfl, rfl⟩ | (exfalso; first | (simp [am_bi0, am_bi1] at *; omega) | (simp only [am_bi0, am_bi1, P_sp] at *; simp_all)))
theorem sp18b {X : am_X} {M : am_M} {N : am_N} {r m e n : Int32} (h1 : (0 ≤ r.toInt ∧ r.toInt < 3) ∧ (0 ≤ m.toInt ∧ m.toInt < 12)) (h2 : ¬ (P_sp e ∧ P_sp n)) : am_J X (am_eq (some (.int (-2))) (M) N) 18 0 (am_en 18 [.ref 0, .int r, .int m, .int e, .int n]) [] M N := by
  refine J_en (L := [.ref 0, .int r, .int m, .int e, .int n]) rfl ?_
  refine J_b 2 am_d18 rfl ?_
  refine J_S2s 13 (am_d18 rfl) rfl rfl (sp13) ?_
  refine J_if_eq 17 (am_d18 rfl) rfl (fun h5 => ?_) (fun h5 => ?_)
  · refine J_b 1 am_d18 rfl ?_
    exact J_iret (am_d18 rfl) rfl rfl (by first | exact ⟨rfl, rfl, rfl⟩ | (exfalso; first | (simp [am_bi0, am_bi1] at *; omega) | (simp only [am_bi0, am_bi1, P_sp] at *; simp_all)))
  · refine J_b 2 am_d18 rfl ?_
    refine J_S2s 13 (am_d18 rfl) rfl rfl (sp13) ?_
    refine J_if_ne 19 (am_d18 rfl) rfl (fun h14 => ?_) (fun h14 => ?_)
    · refine J_b 1 am_d18 rfl ?_
      refine J_S1s 19 (am_d18 rfl) rfl rfl (sp19) ?_
      refine J_if_eq 34 (am_d18 rfl) rfl (fun h23 => ?_) (fun h23 => ?_)
      · refine J_b 1 am_d18 rfl ?_
        exact J_iret (am_d18 rfl) rfl rfl (by first | exact ⟨rfl, rfl, rfl⟩ | (exfalso; first | (simp [am_bi0, am_bi1] at *; omega) | (simp only [am_bi0, am_bi1, P_sp] at *; simp_all)))
      · refine J_b 1 am_d18 rfl ?_
        refine J_S1s 19 (am_d18 rfl) rfl rfl (sp19) ?_
        refine J_if_ne 37 (am_d18 rfl) rfl (fun h31 => ?_) (fun h31 => ?_)
        · refine J_b 9 am_d18 rfl ?_
          refine J_V3n 20 (am_d18 rfl) rfl rfl (sp20 (I_12 (by simp [am_bi0, am_bi1] at *; omega) (by simp [am_bi0, am_bi1] at *; omega)).1) ?_
          refine J_b 1 am_d18 rfl ?_
          exact J_iret (am_d18 rfl) rfl rfl (by first | exact ⟨rfl, rfl, rfl⟩ | (exfalso; first | (simp [am_bi0, am_bi1] at *; omega) | (simp only [am_bi0, am_bi1, P_sp] at *; simp_all)))
        · refine J_b 1 am_d18 rfl ?_
          exact J_iret (am_d18 rfl) rfl rfl (by first | exact ⟨rfl, rfl, rfl⟩ | (exfalso; first | (simp [am_bi0, am_bi1] at *; omega) | (simp only [am_bi0, am_bi1, P_sp] at *; simp_all)))
    · refine J_b 1 am_d18 rfl ?_
      exact J_iret (am_d18 rfl) rfl rfl (by first | exact ⟨rfl, rfl, rfl⟩ | (exfalso; first | (simp [am_bi0, am_bi1] at *; omega) | (simp only [am_bi0, am_bi1, P_sp] at *; simp_all)))
theorem sp18c {X : am_X} {M : am_M} {N : am_N} {r m e n : Int32} (h1 : (0 ≤ r.toInt ∧ r.toInt < 3) ∧ (0 ≤ m.toInt ∧ m.toInt < 12)) (h2 : P_sp e ∧ P_sp n) : am_J X (am_eq (some (.int 0)) (am_up (am_up (am_up (am_up (am_up M 8 (r * 12 + m).toNatClampNeg (e / 10 - 3)) 9 (r * 12 + m).toNatClampNeg (e - e / 10 * 10 - 3)) 10 (r * 12 + m).toNatClampNeg (n / 10 - 3)) 11 (r * 12 + m).toNatClampNeg (n - n / 10 * 10 - 3)) 1 11 (M 1 11 + 1)) N) 18 0 (am_en 18 [.ref 0, .int r, .int m, .int e, .int n]) [] M N := by
  refine J_en (L := [.ref 0, .int r, .int m, .int e, .int n]) rfl ?_
  refine J_b 2 am_d18 rfl ?_
  refine J_S2s 13 (am_d18 rfl) rfl rfl (sp13) ?_
  refine J_if_eq 17 (am_d18 rfl) rfl (fun h5 => ?_) (fun h5 => ?_)
  · refine J_b 1 am_d18 rfl ?_
    exact J_iret (am_d18 rfl) rfl rfl (by first | exact ⟨rfl, rfl, rfl⟩ | (exfalso; first | (simp [am_bi0, am_bi1] at *; omega) | (simp only [am_bi0, am_bi1, P_sp] at *; simp_all)))
  · refine J_b 2 am_d18 rfl ?_
    refine J_S2s 13 (am_d18 rfl) rfl rfl (sp13) ?_
    refine J_if_ne 19 (am_d18 rfl) rfl (fun h14 => ?_) (fun h14 => ?_)
    · refine J_b 1 am_d18 rfl ?_
      refine J_S1s 19 (am_d18 rfl) rfl rfl (sp19) ?_
      refine J_if_eq 34 (am_d18 rfl) rfl (fun h23 => ?_) (fun h23 => ?_)
      · refine J_b 1 am_d18 rfl ?_
        exact J_iret (am_d18 rfl) rfl rfl (by first | exact ⟨rfl, rfl, rfl⟩ | (exfalso; first | (simp [am_bi0, am_bi1] at *; omega) | (simp only [am_bi0, am_bi1, P_sp] at *; simp_all)))
      · refine J_b 1 am_d18 rfl ?_
        refine J_S1s 19 (am_d18 rfl) rfl rfl (sp19) ?_
        refine J_if_ne 37 (am_d18 rfl) rfl (fun h31 => ?_) (fun h31 => ?_)
        · refine J_b 9 am_d18 rfl ?_
          refine J_V3n 20 (am_d18 rfl) rfl rfl (sp20 (I_12 (by simp [am_bi0, am_bi1] at *; omega) (by simp [am_bi0, am_bi1] at *; omega)).1) ?_
          refine J_b 1 am_d18 rfl ?_
          exact J_iret (am_d18 rfl) rfl rfl (by first | exact ⟨rfl, rfl, rfl⟩ | (exfalso; first | (simp [am_bi0, am_bi1] at *; omega) | (simp only [am_bi0, am_bi1, P_sp] at *; simp_all)))
        · refine J_b 1 am_d18 rfl ?_
          exact J_iret (am_d18 rfl) rfl rfl (by first | exact ⟨rfl, rfl, rfl⟩ | (exfalso; first | (simp [am_bi0, am_bi1] at *; omega) | (simp only [am_bi0, am_bi1, P_sp] at *; simp_all)))
    · refine J_b 1 am_d18 rfl ?_
      exact J_iret (am_d18 rfl) rfl rfl (by first | exact ⟨rfl, rfl, rfl⟩ | (exfalso; first | (simp [am_bi0, am_bi1] at *; omega) | (simp only [am_bi0, am_bi1, P_sp] at *; simp_all)))
theorem sp145a {X : am_X} {M : am_M} {N : am_N} {r m e n : Int32} (h1 : ¬ ((0 ≤ r.toInt ∧ r.toInt < 3) ∧ (0 ≤ m.toInt ∧ m.toInt < 12))) : am_J X (am_eq (some (.int (-1))) (M) N) 145 0 (am_en 145 [.ref 120, .int r, .int m, .int e, .int n]) [] M N := by
  refine J_en (L := [.ref 120, .int r, .int m, .int e, .int n, .retAddr 0]) rfl ?_
  refine J_b 4 am_d145 rfl ?_
  refine J_S3s 140 (am_d145 rfl) rfl rfl (sp140) ?_
  refine J_if_eq 24 (am_d145 rfl) rfl (fun h9 => ?_) (fun h9 => ?_)
  · refine J_b 1 am_d145 rfl ?_
    exact J_iret (am_d145 rfl) rfl rfl (by first | exact ⟨rfl, rfl, rfl⟩ | (exfalso; first | (simp [am_bi0, am_bi1] at *; omega) | (simp only [am_bi0, am_bi1, P_sp] at *; simp_all)))
  · refine J_b 4 am_d145 rfl ?_
    refine J_S3s 140 (am_d145 rfl) rfl rfl (sp140) ?_
    refine J_if_ne 26 (am_d145 rfl) rfl (fun h21 => ?_) (fun h21 => ?_)
    · refine J_b 1 am_d145 rfl ?_
      refine J_S1s 146 (am_d145 rfl) rfl rfl (sp146) ?_
      refine J_if_eq 41 (am_d145 rfl) rfl (fun h30 => ?_) (fun h30 => ?_)
      · refine J_b 1 am_d145 rfl ?_
        exact J_iret (am_d145 rfl) rfl rfl (by first | exact ⟨rfl, rfl, rfl⟩ | (exfalso; first | (simp [am_bi0, am_bi1] at *; omega) | (simp only [am_bi0, am_bi1, P_sp] at *; simp_all)))
      · refine J_b 1 am_d145 rfl ?_
        refine J_S1s 146 (am_d145 rfl) rfl rfl (sp146) ?_
        refine J_if_ne 44 (am_d145 rfl) rfl (fun h38 => ?_) (fun h38 => ?_)
        · refine J_b 14 am_d145 rfl ?_
          refine J_iast (am_d145 rfl) rfl ((I_12 (by simp [am_bi0, am_bi1] at *; omega) (by simp [am_bi0, am_bi1] at *; omega)).2) ?_
          refine J_b 8 am_d145 rfl ?_
          refine J_iast (am_d145 rfl) rfl ((I_12 (by simp [am_bi0, am_bi1] at *; omega) (by simp [am_bi0, am_bi1] at *; omega)).2) ?_
          refine J_b 8 am_d145 rfl ?_
          refine J_iast (am_d145 rfl) rfl ((I_12 (by simp [am_bi0, am_bi1] at *; omega) (by simp [am_bi0, am_bi1] at *; omega)).2) ?_
          refine J_b 8 am_d145 rfl ?_
          refine J_iast (am_d145 rfl) rfl ((I_12 (by simp [am_bi0, am_bi1] at *; omega) (by simp [am_bi0, am_bi1] at *; omega)).2) ?_
          refine J_b 1 am_d145 rfl ?_
          exact J_iret (am_d145 rfl) rfl rfl (by first | exact ⟨rfl, rfl, rfl⟩ | (exfalso; first | (simp [am_bi0, am_bi1] at *; omega) | (simp only [am_bi0, am_bi1, P_sp] at *; simp_all)))
        · refine J_b 1 am_d145 rfl ?_
          exact J_iret (am_d145 rfl) rfl rfl (by first | exact ⟨rfl, rfl, rfl⟩ | (exfalso; first | (simp [am_bi0, am_bi1] at *; omega) | (simp only [am_bi0, am_bi1, P_sp] at *; simp_all)))
    · refine J_b 1 am_d145 rfl ?_
      exact J_iret (am_d145 rfl) rfl rfl (by first | exact ⟨rfl, rfl, rfl⟩ | (exfalso; first | (simp [am_bi0, am_bi1] at *; omega) | (simp only [am_bi0, am_bi1, P_sp] at *; simp_all)))
theorem sp145b {X : am_X} {M : am_M} {N : am_N} {r m e n : Int32} (h1 : (0 ≤ r.toInt ∧ r.toInt < 3) ∧ (0 ≤ m.toInt ∧ m.toInt < 12)) (h2 : ¬ (P_sp e ∧ P_sp n)) : am_J X (am_eq (some (.int (-2))) (M) N) 145 0 (am_en 145 [.ref 120, .int r, .int m, .int e, .int n]) [] M N := by
  refine J_en (L := [.ref 120, .int r, .int m, .int e, .int n, .retAddr 0]) rfl ?_
  refine J_b 4 am_d145 rfl ?_
  refine J_S3s 140 (am_d145 rfl) rfl rfl (sp140) ?_
  refine J_if_eq 24 (am_d145 rfl) rfl (fun h9 => ?_) (fun h9 => ?_)
  · refine J_b 1 am_d145 rfl ?_
    exact J_iret (am_d145 rfl) rfl rfl (by first | exact ⟨rfl, rfl, rfl⟩ | (exfalso; first | (simp [am_bi0, am_bi1] at *; omega) | (simp only [am_bi0, am_bi1, P_sp] at *; simp_all)))
  · refine J_b 4 am_d145 rfl ?_
    refine J_S3s 140 (am_d145 rfl) rfl rfl (sp140) ?_
    refine J_if_ne 26 (am_d145 rfl) rfl (fun h21 => ?_) (fun h21 => ?_)
    · refine J_b 1 am_d145 rfl ?_
      refine J_S1s 146 (am_d145 rfl) rfl rfl (sp146) ?_
      refine J_if_eq 41 (am_d145 rfl) rfl (fun h30 => ?_) (fun h30 => ?_)
      · refine J_b 1 am_d145 rfl ?_
        exact J_iret (am_d145 rfl) rfl rfl (by first | exact ⟨rfl, rfl, rfl⟩ | (exfalso; first | (simp [am_bi0, am_bi1] at *; omega) | (simp only [am_bi0, am_bi1, P_sp] at *; simp_all)))
      · refine J_b 1 am_d145 rfl ?_
        refine J_S1s 146 (am_d145 rfl) rfl rfl (sp146) ?_
        refine J_if_ne 44 (am_d145 rfl) rfl (fun h38 => ?_) (fun h38 => ?_)
        · refine J_b 14 am_d145 rfl ?_
          refine J_iast (am_d145 rfl) rfl ((I_12 (by simp [am_bi0, am_bi1] at *; omega) (by simp [am_bi0, am_bi1] at *; omega)).2) ?_
          refine J_b 8 am_d145 rfl ?_
          refine J_iast (am_d145 rfl) rfl ((I_12 (by simp [am_bi0, am_bi1] at *; omega) (by simp [am_bi0, am_bi1] at *; omega)).2) ?_
          refine J_b 8 am_d145 rfl ?_
          refine J_iast (am_d145 rfl) rfl ((I_12 (by simp [am_bi0, am_bi1] at *; omega) (by simp [am_bi0, am_bi1] at *; omega)).2) ?_
          refine J_b 8 am_d145 rfl ?_
          refine J_iast (am_d145 rfl) rfl ((I_12 (by simp [am_bi0, am_bi1] at *; omega) (by simp [am_bi0, am_bi1] at *; omega)).2) ?_
          refine J_b 1 am_d145 rfl ?_
          exact J_iret (am_d145 rfl) rfl rfl (by first | exact ⟨rfl, rfl, rfl⟩ | (exfalso; first | (simp [am_bi0, am_bi1] at *; omega) | (simp only [am_bi0, am_bi1, P_sp] at *; simp_all)))
        · refine J_b 1 am_d145 rfl ?_
          exact J_iret (am_d145 rfl) rfl rfl (by first | exact ⟨rfl, rfl, rfl⟩ | (exfalso; first | (simp [am_bi0, am_bi1] at *; omega) | (simp only [am_bi0, am_bi1, P_sp] at *; simp_all)))
    · refine J_b 1 am_d145 rfl ?_
      exact J_iret (am_d145 rfl) rfl rfl (by first | exact ⟨rfl, rfl, rfl⟩ | (exfalso; first | (simp [am_bi0, am_bi1] at *; omega) | (simp only [am_bi0, am_bi1, P_sp] at *; simp_all)))
theorem sp145c {X : am_X} {M : am_M} {N : am_N} {r m e n : Int32} (h1 : (0 ≤ r.toInt ∧ r.toInt < 3) ∧ (0 ≤ m.toInt ∧ m.toInt < 12)) (h2 : P_sp e ∧ P_sp n) : am_J X (am_eq (some (.int 0)) (am_up (am_up (am_up (am_up M 126 (12 * r + m).toNatClampNeg (e / 10 - 3)) 127 (12 * r + m).toNatClampNeg (e - e / 10 * 10 - 3)) 128 (12 * r + m).toNatClampNeg (n / 10 - 3)) 129 (12 * r + m).toNatClampNeg (n - n / 10 * 10 - 3)) N) 145 0 (am_en 145 [.ref 120, .int r, .int m, .int e, .int n]) [] M N := by
  refine J_en (L := [.ref 120, .int r, .int m, .int e, .int n, .retAddr 0]) rfl ?_
  refine J_b 4 am_d145 rfl ?_
  refine J_S3s 140 (am_d145 rfl) rfl rfl (sp140) ?_
  refine J_if_eq 24 (am_d145 rfl) rfl (fun h9 => ?_) (fun h9 => ?_)
  · refine J_b 1 am_d145 rfl ?_
    exact J_iret (am_d145 rfl) rfl rfl (by first | exact ⟨rfl, rfl, rfl⟩ | (exfalso; first | (simp [am_bi0, am_bi1] at *; omega) | (simp only [am_bi0, am_bi1, P_sp] at *; simp_all)))
  · refine J_b 4 am_d145 rfl ?_
    refine J_S3s 140 (am_d145 rfl) rfl rfl (sp140) ?_
    refine J_if_ne 26 (am_d145 rfl) rfl (fun h21 => ?_) (fun h21 => ?_)
    · refine J_b 1 am_d145 rfl ?_
      refine J_S1s 146 (am_d145 rfl) rfl rfl (sp146) ?_
      refine J_if_eq 41 (am_d145 rfl) rfl (fun h30 => ?_) (fun h30 => ?_)
      · refine J_b 1 am_d145 rfl ?_
        exact J_iret (am_d145 rfl) rfl rfl (by first | exact ⟨rfl, rfl, rfl⟩ | (exfalso; first | (simp [am_bi0, am_bi1] at *; omega) | (simp only [am_bi0, am_bi1, P_sp] at *; simp_all)))
      · refine J_b 1 am_d145 rfl ?_
        refine J_S1s 146 (am_d145 rfl) rfl rfl (sp146) ?_
        refine J_if_ne 44 (am_d145 rfl) rfl (fun h38 => ?_) (fun h38 => ?_)
        · refine J_b 14 am_d145 rfl ?_
          refine J_iast (am_d145 rfl) rfl ((I_12 (by simp [am_bi0, am_bi1] at *; omega) (by simp [am_bi0, am_bi1] at *; omega)).2) ?_
          refine J_b 8 am_d145 rfl ?_
          refine J_iast (am_d145 rfl) rfl ((I_12 (by simp [am_bi0, am_bi1] at *; omega) (by simp [am_bi0, am_bi1] at *; omega)).2) ?_
          refine J_b 8 am_d145 rfl ?_
          refine J_iast (am_d145 rfl) rfl ((I_12 (by simp [am_bi0, am_bi1] at *; omega) (by simp [am_bi0, am_bi1] at *; omega)).2) ?_
          refine J_b 8 am_d145 rfl ?_
          refine J_iast (am_d145 rfl) rfl ((I_12 (by simp [am_bi0, am_bi1] at *; omega) (by simp [am_bi0, am_bi1] at *; omega)).2) ?_
          refine J_b 1 am_d145 rfl ?_
          exact J_iret (am_d145 rfl) rfl rfl (by first | exact ⟨rfl, rfl, rfl⟩ | (exfalso; first | (simp [am_bi0, am_bi1] at *; omega) | (simp only [am_bi0, am_bi1, P_sp] at *; simp_all)))
        · refine J_b 1 am_d145 rfl ?_
          exact J_iret (am_d145 rfl) rfl rfl (by first | exact ⟨rfl, rfl, rfl⟩ | (exfalso; first | (simp [am_bi0, am_bi1] at *; omega) | (simp only [am_bi0, am_bi1, P_sp] at *; simp_all)))
    · refine J_b 1 am_d145 rfl ?_
      exact J_iret (am_d145 rfl) rfl rfl (by first | exact ⟨rfl, rfl, rfl⟩ | (exfalso; first | (simp [am_bi0, am_bi1] at *; omega) | (simp only [am_bi0, am_bi1, P_sp] at *; simp_all)))
end
section
/-! ===== the sea: pairs ===== -/
theorem pr_wind {X : am_X} (m e n : Int32) : am_pI iv X 21 147 [.int m, .int e, .int n] := by
  intro c M N hc h
  by_cases h1 : 0 ≤ m.toInt ∧ m.toInt < 12
  rotate_left
  · exact pr_e (sp21a h1) (sp147a h1) (iv_up _ _ _ h)
  by_cases h2 : (-3 ≤ e.toInt ∧ e.toInt ≤ 3) ∧ (-3 ≤ n.toInt ∧ n.toInt ≤ 3)
  rotate_left
  · exact pr_e (sp21b h1 h2) (sp147b h1 h2) (iv_up _ _ _ h)
  refine pr_e (sp21c h1 h2) (sp147c h1 h2) ?_
  obtain ⟨⟨⟨hs, hb⟩, ⟨hca, hcb⟩, ⟨hna, hnb⟩, ⟨hfi, hfb⟩⟩, ⟨hti, hta, hpr⟩, hcc, hch, hkl, hkd⟩ := h
  obtain ⟨⟨s1, s2, ⟨s3, s4, s5, s6⟩, s7⟩, ⟨b1, b2, b3, b4, b5, b6, b7, b8, b9, b10, b11, b12⟩⟩ := And.intro hs hb
  obtain ⟨g1, g2, g3⟩ := ch_up (M' := am_up (am_up (am_up (am_up (am_up M 12 m.toNatClampNeg e) 13 m.toNatClampNeg n) 1 11 (M 1 11 + 1)) 131 m.toNatClampNeg e) 132 m.toNatClampNeg n) hc hch rfl rfl rfl
  exact ⟨⟨⟨⟨s1, s2, ⟨up_eq (j := m.toNatClampNeg) (x := e) s3, up_eq (j := m.toNatClampNeg) (x := n) s4, s5, s6⟩, s7⟩, b1, b2, b3, b4, b5, b6, b7, b_up b8 h2.1, b_up b9 h2.2, b10, b11, b12⟩, ⟨hca, hcb⟩, ⟨hna, hnb⟩, ⟨hfi, hfb⟩⟩, ⟨hti, hta, hpr⟩, cc_of hcc hfb (fun k k1 k2 => by (repeat rw [up_n]) <;> omega) ⟨rfl, rfl, rfl, rfl, rfl, rfl, rfl⟩, g1, g2, g3⟩
theorem pr_storm {X : am_X} (m e n : Int32) : am_pI iv X 24 148 [.int m, .int e, .int n] := by
  intro c M N hc h
  by_cases h1 : 0 ≤ m.toInt ∧ m.toInt < 48
  rotate_left
  · exact pr_e (sp24a h1) (sp148a h1) (iv_up _ _ _ h)
  by_cases h2 : (-3 ≤ e.toInt ∧ e.toInt ≤ 3) ∧ (-3 ≤ n.toInt ∧ n.toInt ≤ 3)
  rotate_left
  · exact pr_e (sp24b h1 h2) (sp148b h1 h2) (iv_up _ _ _ h)
  obtain ⟨⟨⟨hs, hb⟩, ⟨hca, hcb⟩, ⟨hna, hnb⟩, ⟨hfi, hfb⟩⟩, ⟨hti, hta, hpr⟩, hcc, hch, hkl, hkd⟩ := h
  obtain ⟨⟨s1, s2, ⟨s3, s4, s5, s6⟩, s7⟩, ⟨b1, b2, b3, b4, b5, b6, b7, b8, b9, b10, b11, b12⟩⟩ := And.intro hs hb
  have q1 := sp24c (X := X) (M := M) (N := N) h1 h2
  rw [show (if M 14 m.toNatClampNeg = 0 then (0 : Int32) else 1) = (if M 135 m.toNatClampNeg = 0 then (0 : Int32) else 1) by rw [s5]] at q1
  refine pr_e q1 (sp148c h1 h2) ?_
  obtain ⟨g1, g2, g3⟩ := ch_up (M' := am_up (am_up (am_up (am_up (am_up (am_up (am_up M 14 m.toNatClampNeg (vp_nar .boolean 1)) 15 m.toNatClampNeg e) 16 m.toNatClampNeg n) 1 11 (M 1 11 + 1)) 135 m.toNatClampNeg (vp_nar .boolean 1)) 133 m.toNatClampNeg e) 134 m.toNatClampNeg n) hc hch rfl rfl rfl
  have s6' : ∀ j, am_up (am_up (am_up (am_up (am_up (am_up (am_up M 14 m.toNatClampNeg (vp_nar .boolean 1)) 15 m.toNatClampNeg e) 16 m.toNatClampNeg n) 1 11 (M 1 11 + 1)) 135 m.toNatClampNeg (vp_nar .boolean 1)) 133 m.toNatClampNeg e) 134 m.toNatClampNeg n 14 j ≠ 0 → am_up (am_up (am_up (am_up (am_up (am_up (am_up M 14 m.toNatClampNeg (vp_nar .boolean 1)) 15 m.toNatClampNeg e) 16 m.toNatClampNeg n) 1 11 (M 1 11 + 1)) 135 m.toNatClampNeg (vp_nar .boolean 1)) 133 m.toNatClampNeg e) 134 m.toNatClampNeg n 133 j = am_up (am_up (am_up (am_up (am_up (am_up (am_up M 14 m.toNatClampNeg (vp_nar .boolean 1)) 15 m.toNatClampNeg e) 16 m.toNatClampNeg n) 1 11 (M 1 11 + 1)) 135 m.toNatClampNeg (vp_nar .boolean 1)) 133 m.toNatClampNeg e) 134 m.toNatClampNeg n 15 j ∧ am_up (am_up (am_up (am_up (am_up (am_up (am_up M 14 m.toNatClampNeg (vp_nar .boolean 1)) 15 m.toNatClampNeg e) 16 m.toNatClampNeg n) 1 11 (M 1 11 + 1)) 135 m.toNatClampNeg (vp_nar .boolean 1)) 133 m.toNatClampNeg e) 134 m.toNatClampNeg n 134 j = am_up (am_up (am_up (am_up (am_up (am_up (am_up M 14 m.toNatClampNeg (vp_nar .boolean 1)) 15 m.toNatClampNeg e) 16 m.toNatClampNeg n) 1 11 (M 1 11 + 1)) 135 m.toNatClampNeg (vp_nar .boolean 1)) 133 m.toNatClampNeg e) 134 m.toNatClampNeg n 16 j := fun j hj => by
    show (if j = m.toNatClampNeg then _ else M 133 j) = (if j = m.toNatClampNeg then _ else M 15 j) ∧ (if j = m.toNatClampNeg then _ else M 134 j) = (if j = m.toNatClampNeg then _ else M 16 j)
    replace hj : (if j = m.toNatClampNeg then vp_nar .boolean 1 else M 14 j) ≠ 0 := hj
    by_cases z : j = m.toNatClampNeg
    · rw [if_pos z, if_pos z, if_pos z, if_pos z]
      exact ⟨rfl, rfl⟩
    · rw [if_neg z] at hj
      rw [if_neg z, if_neg z, if_neg z, if_neg z]
      exact s6 j hj
  exact ⟨⟨⟨⟨s1, s2, ⟨s3, s4, up_eq (j := m.toNatClampNeg) (x := vp_nar .boolean 1) s5, s6'⟩, s7⟩, b1, b2, b3, b4, b5, b6, b7, b8, b9, b_up b10 h2.1, b_up b11 h2.2, b12⟩, ⟨hca, hcb⟩, ⟨hna, hnb⟩, ⟨hfi, hfb⟩⟩, ⟨hti, hta, hpr⟩, cc_of hcc hfb (fun k k1 k2 => by (repeat rw [up_n]) <;> omega) ⟨rfl, rfl, rfl, rfl, rfl, rfl, rfl⟩, g1, g2, g3⟩
theorem pr_calm {X : am_X} (m : Int32) : am_pI iv X 26 149 [.int m] := by
  intro c M N hc h
  by_cases h1 : 0 ≤ m.toInt ∧ m.toInt < 48
  rotate_left
  · exact pr_e (sp26a h1) (sp149a h1) (iv_up _ _ _ h)
  obtain ⟨⟨⟨hs, hb⟩, ⟨hca, hcb⟩, ⟨hna, hnb⟩, ⟨hfi, hfb⟩⟩, ⟨hti, hta, hpr⟩, hcc, hch, hkl, hkd⟩ := h
  obtain ⟨⟨s1, s2, ⟨s3, s4, s5, s6⟩, s7⟩, ⟨b1, b2, b3, b4, b5, b6, b7, b8, b9, b10, b11, b12⟩⟩ := And.intro hs hb
  have q1 := sp26c (X := X) (M := M) (N := N) h1
  rw [show (if M 14 m.toNatClampNeg = 0 then (0 : Int32) else 1) = (if M 135 m.toNatClampNeg = 0 then (0 : Int32) else 1) by rw [s5]] at q1
  refine pr_e q1 (sp149c h1) ?_
  obtain ⟨g1, g2, g3⟩ := ch_up (M' := am_up (am_up (am_up (am_up (am_up M 14 m.toNatClampNeg (vp_nar .boolean 0)) 15 m.toNatClampNeg 0) 16 m.toNatClampNeg 0) 1 11 (M 1 11 + 1)) 135 m.toNatClampNeg (vp_nar .boolean 0)) hc hch rfl rfl rfl
  have s6' : ∀ j, (am_up (am_up (am_up (am_up (am_up M 14 m.toNatClampNeg (vp_nar .boolean 0)) 15 m.toNatClampNeg 0) 16 m.toNatClampNeg 0) 1 11 (M 1 11 + 1)) 135 m.toNatClampNeg (vp_nar .boolean 0)) 14 j ≠ 0 → (am_up (am_up (am_up (am_up (am_up M 14 m.toNatClampNeg (vp_nar .boolean 0)) 15 m.toNatClampNeg 0) 16 m.toNatClampNeg 0) 1 11 (M 1 11 + 1)) 135 m.toNatClampNeg (vp_nar .boolean 0)) 133 j = (am_up (am_up (am_up (am_up (am_up M 14 m.toNatClampNeg (vp_nar .boolean 0)) 15 m.toNatClampNeg 0) 16 m.toNatClampNeg 0) 1 11 (M 1 11 + 1)) 135 m.toNatClampNeg (vp_nar .boolean 0)) 15 j ∧ (am_up (am_up (am_up (am_up (am_up M 14 m.toNatClampNeg (vp_nar .boolean 0)) 15 m.toNatClampNeg 0) 16 m.toNatClampNeg 0) 1 11 (M 1 11 + 1)) 135 m.toNatClampNeg (vp_nar .boolean 0)) 134 j = (am_up (am_up (am_up (am_up (am_up M 14 m.toNatClampNeg (vp_nar .boolean 0)) 15 m.toNatClampNeg 0) 16 m.toNatClampNeg 0) 1 11 (M 1 11 + 1)) 135 m.toNatClampNeg (vp_nar .boolean 0)) 16 j := fun j hj => by
    show M 133 j = (if j = m.toNatClampNeg then _ else M 15 j) ∧ M 134 j = (if j = m.toNatClampNeg then _ else M 16 j)
    replace hj : (if j = m.toNatClampNeg then vp_nar .boolean 0 else M 14 j) ≠ 0 := hj
    by_cases z : j = m.toNatClampNeg
    · rw [if_pos z] at hj
      exact absurd rfl hj
    · rw [if_neg z] at hj
      rw [if_neg z, if_neg z]
      exact s6 j hj
  exact ⟨⟨⟨⟨s1, s2, ⟨s3, s4, up_eq (j := m.toNatClampNeg) (x := vp_nar .boolean 0) s5, s6'⟩, s7⟩, b1, b2, b3, b4, b5, b6, b7, b8, b9, b_up b10 (b_00 (by decide)), b_up b11 (b_00 (by decide)), b12⟩, ⟨hca, hcb⟩, ⟨hna, hnb⟩, ⟨hfi, hfb⟩⟩, ⟨hti, hta, hpr⟩, cc_of hcc hfb (fun k k1 k2 => by (repeat rw [up_n]) <;> omega) ⟨rfl, rfl, rfl, rfl, rfl, rfl, rfl⟩, g1, g2, g3⟩
theorem pr_current {X : am_X} (r m e n : Int32) : am_pI iv X 18 145 [.int r, .int m, .int e, .int n] := by
  intro c M N hc h
  by_cases h1 : (0 ≤ r.toInt ∧ r.toInt < 3) ∧ (0 ≤ m.toInt ∧ m.toInt < 12)
  rotate_left
  · exact pr_e (sp18a h1) (sp145a h1) (iv_up _ _ _ h)
  by_cases h2 : P_sp e ∧ P_sp n
  rotate_left
  · exact pr_e (sp18b h1 h2) (sp145b h1 h2) (iv_up _ _ _ h)
  obtain ⟨⟨⟨hs, hb⟩, ⟨hca, hcb⟩, ⟨hna, hnb⟩, ⟨hfi, hfb⟩⟩, ⟨hti, hta, hpr⟩, hcc, hch, hkl, hkd⟩ := h
  obtain ⟨⟨s1, ⟨s2, s3, s4, s5⟩, s6, s7⟩, ⟨b1, b2, b3, b4, b5, b6, b7, b8, b9, b10, b11, b12⟩⟩ := And.intro hs hb
  have q := sp145c (X := X) (M := am_up (am_up (am_up (am_up (am_up M 8 (r * 12 + m).toNatClampNeg (e / 10 - 3)) 9 (r * 12 + m).toNatClampNeg (e - e / 10 * 10 - 3)) 10 (r * 12 + m).toNatClampNeg (n / 10 - 3)) 11 (r * 12 + m).toNatClampNeg (n - n / 10 * 10 - 3)) 1 11 (M 1 11 + 1)) (N := N) h1 h2
  rw [show 12 * r + m = r * 12 + m by rw [Int32.mul_comm]] at q
  refine pr_e (sp18c h1 h2) q ?_
  obtain ⟨g1, g2, g3⟩ := ch_up (M' := am_up (am_up (am_up (am_up (am_up (am_up (am_up (am_up (am_up M 8 (r * 12 + m).toNatClampNeg (e / 10 - 3)) 9 (r * 12 + m).toNatClampNeg (e - e / 10 * 10 - 3)) 10 (r * 12 + m).toNatClampNeg (n / 10 - 3)) 11 (r * 12 + m).toNatClampNeg (n - n / 10 * 10 - 3)) 1 11 (M 1 11 + 1)) 126 (r * 12 + m).toNatClampNeg (e / 10 - 3)) 127 (r * 12 + m).toNatClampNeg (e - e / 10 * 10 - 3)) 128 (r * 12 + m).toNatClampNeg (n / 10 - 3)) 129 (r * 12 + m).toNatClampNeg (n - n / 10 * 10 - 3)) hc hch rfl rfl rfl
  obtain ⟨p1, p2⟩ := P_sp_b h2.1
  obtain ⟨p3, p4⟩ := P_sp_b h2.2
  exact ⟨⟨⟨⟨s1, ⟨up_eq (j := (r * 12 + m).toNatClampNeg) (x := e / 10 - 3) s2, up_eq (j := (r * 12 + m).toNatClampNeg) (x := e - e / 10 * 10 - 3) s3, up_eq (j := (r * 12 + m).toNatClampNeg) (x := n / 10 - 3) s4, up_eq (j := (r * 12 + m).toNatClampNeg) (x := n - n / 10 * 10 - 3) s5⟩, s6, s7⟩, b1, b2, b3, b_up b4 p1, b_up b5 p2, b_up b6 p3, b_up b7 p4, b8, b9, b10, b11, b12⟩, ⟨hca, hcb⟩, ⟨hna, hnb⟩, ⟨hfi, hfb⟩⟩, ⟨hti, hta, hpr⟩, cc_of hcc hfb (fun k k1 k2 => by (repeat rw [up_n]) <;> omega) ⟨rfl, rfl, rfl, rfl, rfl, rfl, rfl⟩, g1, g2, g3⟩
end
section
/-! ===== paint, cell ===== -/
theorem upR_up {M : am_M} {k j : Nat} {r : Nat → Int32} {x : Int32} : am_up (am_upR M k r) k j x = am_upR M k (fun b => if b = j then x else r b) := by
  funext a b
  unfold am_up am_upR
  split <;> rfl
def pmF (a y : Nat) (v : Int32) (i : Nat) (p : (Nat → Int32) × Int32) : (Nat → Int32) × Int32 := ((fun j => if j = 6 * (a + i) + y then v else p.1 j), p.2 + (if p.1 (6 * (a + i) + y) = v then 0 else 1))
def pm (r : Nat → Int32) (a y : Nat) (v : Int32) (n : Nat) : (Nat → Int32) × Int32 := itr (pmF a y v) n (r, 0)
theorem pm_b {r : Nat → Int32} {a y : Nat} {v : Int32} {lo hi : Int} (hr : ∀ j, b_in (r j) lo hi) (hv : b_in v lo hi) : ∀ n j, b_in ((pm r a y v n).1 j) lo hi := by
  intro n
  induction n with
  | zero => exact hr
  | succ n ih =>
    intro j
    show b_in (if j = 6 * (a + n) + y then v else (pm r a y v n).1 j) lo hi
    split
    · exact hv
    · exact ih j
theorem pm_same {r : Nat → Int32} {j : Nat} {v : Int32} (h : r j = v) : (fun b => if b = j then v else r b) = r := by
  funext b
  split
  · subst_vars
    rfl
  · rfl
theorem pl_nI {x : Int32} {a y : Nat} (hx : x = nI a) : 6 * x + nI y = nI (6 * a + y) := by
  rw [hx, show (6 : Int32) = nI 6 from rfl, nI_mul, nI_add]
theorem lp15_0 {X : am_X} {M : am_M} {N : am_N} {r : Nat → Int32} {a b y : Nat} {v : Int32} (hr : M 3 = r) (hb : b < 10) (hy : y < 6) : ∀ (n i : Nat) (x o1 : Int32) (z : Value) (M1 : am_M), i + n = b + 1 - a → a ≤ b → x = nI (a + i) → o1 = (pm r a y v i).2 → M1 = am_upR M 3 (pm r a y v i).1 → am_J X (am_eq (some (.int (pm r a y v (b + 1 - a)).2)) (am_up (am_upR M 3 (pm r a y v (b + 1 - a)).1) 1 11 (M 1 11 + 1)) N) 15 6 [.ref 1, .int (nI a), .int (nI b), .int (nI y), .int (0 : Int32), .int v, .int o1, .int x, z] [] (M1) N := by
  intro n
  induction n with
  | zero =>
    intro i x o1 z M1 hn hab ex eo em
    subst em
    have e : i = b + 1 - a := by omega
    subst e
    subst eo
    have hx : nI b < x := by rw [ex]; exact nI_lt (by omega) (by omega)
    refine J_b 2 am_d15 rfl ?_
    refine J_icmp_gt 56 (am_d15 rfl) rfl (fun h9 => ?_) (fun h9 => absurd (hx) h9)
    refine J_b 5 am_d15 rfl ?_
    refine J_puti (am_d15 rfl) rfl ?_
    refine J_b 1 am_d15 rfl ?_
    exact J_iret (am_d15 rfl) rfl rfl ⟨rfl, rfl, rfl⟩
  | succ n ih =>
    intro i x o1 z M1 hn hab ex eo em
    subst em
    have hx : x = nI (a + i) := ex
    have hp := pl_nI (y := y) hx
    have hc : (nI (6 * (a + i) + y)).toNatClampNeg = 6 * (a + i) + y := nI_c (by omega)
    have hv : vp_in (nI (6 * (a + i) + y)) 60 := vp_in_nI (by omega) (by decide)
    have hlt : ¬ nI b < x := by rw [hx]; exact nI_nlt (by omega) (by omega)
    refine J_b 2 am_d15 rfl ?_
    refine J_icmp_gt 56 (am_d15 rfl) rfl (fun h9 => absurd h9 hlt) (fun h9 => ?_)
    refine J_b 2 am_d15 rfl ?_
    refine J_S2s 16 (am_d15 rfl) rfl rfl (sp16) ?_
    rw [hp]
    refine J_b 4 am_d15 rfl ?_
    refine J_aaldk 3 (am_d15 rfl) rfl (am_vi rfl) rfl ?_
    refine J_b 1 am_d15 rfl ?_
    refine J_iald (am_d15 rfl) rfl (hv) ?_
    refine J_b 1 am_d15 rfl ?_
    refine J_icmp_eq 50 (am_d15 rfl) rfl (fun h32 => ?_) (fun h32 => ?_)
    · refine J_b 2 am_d15 rfl ?_
      refine ih (i + 1) _ _ _ _ (by omega) hab (by rw [hx]; exact nI_1 (a + i)) ?_ ?_
      · show o1 = (pm r a y v i).2 + (if (pm r a y v i).1 (6 * (a + i) + y) = v then 0 else 1)
        rw [if_pos (by rw [hc] at h32; exact h32), eo]
        exact (Int32.add_zero _).symm
      · show am_upR M 3 (pm r a y v i).1 = am_upR M 3 (fun j => if j = 6 * (a + i) + y then v else (pm r a y v i).1 j)
        rw [pm_same (by rw [hc] at h32; exact h32)]
    · refine J_b 3 am_d15 rfl ?_
      refine J_aaldk 3 (am_d15 rfl) rfl (am_vi rfl) rfl ?_
      refine J_b 2 am_d15 rfl ?_
      refine J_iast (am_d15 rfl) rfl (hv) ?_
      refine J_b 3 am_d15 rfl ?_
      refine ih (i + 1) _ _ _ _ (by omega) hab (by rw [hx]; exact nI_1 (a + i)) ?_ ?_
      · show o1 + 1 = (pm r a y v i).2 + (if (pm r a y v i).1 (6 * (a + i) + y) = v then 0 else 1)
        rw [if_neg (by rw [hc] at h32; exact h32), eo]
      · rw [upR_up, hc]
        rfl
theorem sp15_0 {X : am_X} {M : am_M} {N : am_N} {a b y : Nat} {v : Int32} (hb : b < 10) (hy : y < 6) (hab : a ≤ b) : am_J X (am_eq (some (.int (pm (M 3) a y v (b + 1 - a)).2)) (am_up (am_upR M 3 (pm (M 3) a y v (b + 1 - a)).1) 1 11 (M 1 11 + 1)) N) 15 0 (am_en 15 [.ref 1, .int (nI a), .int (nI b), .int (nI y), .int (0 : Int32), .int v]) [] M N := by
  refine J_en (L := [.ref 1, .int (nI a), .int (nI b), .int (nI y), .int (0 : Int32), .int v, .retAddr 0, .retAddr 0, .retAddr 0]) rfl ?_
  refine J_b 4 am_d15 rfl ?_
  exact lp15_0 rfl hb hy (b + 1 - a) 0 _ _ _ _ (by omega) hab rfl rfl upR_id.symm
theorem sp142_0 {X : am_X} {M : am_M} {N : am_N} {p : Nat} (hp : p < 60) : am_J X (am_eq (some (.int (M 121 p))) (M) N) 142 0 (am_en 142 [.ref 120, .int (nI p), .int (0 : Int32)]) [] M N := by
  refine J_en (L := [.ref 120, .int (nI p), .int (0 : Int32)]) rfl ?_
  refine J_b 1 am_d142 rfl ?_
  refine J_if_ne 13 (am_d142 rfl) rfl (fun h1 => absurd rfl h1) (fun h1 => ?_)
  refine J_b 3 am_d142 rfl ?_
  refine J_iald (am_d142 rfl) rfl (vp_in_nI hp (by decide)) ?_
  refine J_b 1 am_d142 rfl ?_
  exact J_iret (am_d142 rfl) rfl rfl ⟨by rw [nI_c (by omega)], rfl, rfl⟩
theorem sp143_0 {X : am_X} {M : am_M} {N : am_N} {p : Nat} {v : Int32} (hp : p < 60) : am_J X (am_eq (none) (am_up M 121 p v) N) 143 0 (am_en 143 [.ref 120, .int (nI p), .int (0 : Int32), .int v]) [] M N := by
  refine J_en (L := [.ref 120, .int (nI p), .int (0 : Int32), .int v]) rfl ?_
  refine J_b 1 am_d143 rfl ?_
  refine J_if_ne 14 (am_d143 rfl) rfl (fun h1 => absurd rfl h1) (fun h1 => ?_)
  refine J_b 4 am_d143 rfl ?_
  refine J_iast (am_d143 rfl) rfl (vp_in_nI hp (by decide)) ?_
  refine J_b 1 am_d143 rfl ?_
  exact J_ret (am_d143 rfl) rfl ⟨rfl, by rw [nI_c (by omega)], rfl⟩
theorem lp15_1 {X : am_X} {M : am_M} {N : am_N} {r : Nat → Int32} {a b y : Nat} {v : Int32} (hr : M 4 = r) (hb : b < 10) (hy : y < 6) : ∀ (n i : Nat) (x o1 : Int32) (z : Value) (M1 : am_M), i + n = b + 1 - a → a ≤ b → x = nI (a + i) → o1 = (pm r a y v i).2 → M1 = am_upR M 4 (pm r a y v i).1 → am_J X (am_eq (some (.int (pm r a y v (b + 1 - a)).2)) (am_up (am_upR M 4 (pm r a y v (b + 1 - a)).1) 1 11 (M 1 11 + 1)) N) 15 6 [.ref 1, .int (nI a), .int (nI b), .int (nI y), .int (1 : Int32), .int v, .int o1, .int x, z] [] (M1) N := by
  intro n
  induction n with
  | zero =>
    intro i x o1 z M1 hn hab ex eo em
    subst em
    have e : i = b + 1 - a := by omega
    subst e
    subst eo
    have hx : nI b < x := by rw [ex]; exact nI_lt (by omega) (by omega)
    refine J_b 2 am_d15 rfl ?_
    refine J_icmp_gt 56 (am_d15 rfl) rfl (fun h9 => ?_) (fun h9 => absurd (hx) h9)
    refine J_b 5 am_d15 rfl ?_
    refine J_puti (am_d15 rfl) rfl ?_
    refine J_b 1 am_d15 rfl ?_
    exact J_iret (am_d15 rfl) rfl rfl ⟨rfl, rfl, rfl⟩
  | succ n ih =>
    intro i x o1 z M1 hn hab ex eo em
    subst em
    have hx : x = nI (a + i) := ex
    have hp := pl_nI (y := y) hx
    have hc : (nI (6 * (a + i) + y)).toNatClampNeg = 6 * (a + i) + y := nI_c (by omega)
    have hv : vp_in (nI (6 * (a + i) + y)) 60 := vp_in_nI (by omega) (by decide)
    have hlt : ¬ nI b < x := by rw [hx]; exact nI_nlt (by omega) (by omega)
    refine J_b 2 am_d15 rfl ?_
    refine J_icmp_gt 56 (am_d15 rfl) rfl (fun h9 => absurd h9 hlt) (fun h9 => ?_)
    refine J_b 2 am_d15 rfl ?_
    refine J_S2s 16 (am_d15 rfl) rfl rfl (sp16) ?_
    rw [hp]
    refine J_b 4 am_d15 rfl ?_
    refine J_aaldk 4 (am_d15 rfl) rfl (am_vi rfl) rfl ?_
    refine J_b 1 am_d15 rfl ?_
    refine J_iald (am_d15 rfl) rfl (hv) ?_
    refine J_b 1 am_d15 rfl ?_
    refine J_icmp_eq 50 (am_d15 rfl) rfl (fun h32 => ?_) (fun h32 => ?_)
    · refine J_b 2 am_d15 rfl ?_
      refine ih (i + 1) _ _ _ _ (by omega) hab (by rw [hx]; exact nI_1 (a + i)) ?_ ?_
      · show o1 = (pm r a y v i).2 + (if (pm r a y v i).1 (6 * (a + i) + y) = v then 0 else 1)
        rw [if_pos (by rw [hc] at h32; exact h32), eo]
        exact (Int32.add_zero _).symm
      · show am_upR M 4 (pm r a y v i).1 = am_upR M 4 (fun j => if j = 6 * (a + i) + y then v else (pm r a y v i).1 j)
        rw [pm_same (by rw [hc] at h32; exact h32)]
    · refine J_b 3 am_d15 rfl ?_
      refine J_aaldk 4 (am_d15 rfl) rfl (am_vi rfl) rfl ?_
      refine J_b 2 am_d15 rfl ?_
      refine J_iast (am_d15 rfl) rfl (hv) ?_
      refine J_b 3 am_d15 rfl ?_
      refine ih (i + 1) _ _ _ _ (by omega) hab (by rw [hx]; exact nI_1 (a + i)) ?_ ?_
      · show o1 + 1 = (pm r a y v i).2 + (if (pm r a y v i).1 (6 * (a + i) + y) = v then 0 else 1)
        rw [if_neg (by rw [hc] at h32; exact h32), eo]
      · rw [upR_up, hc]
        rfl
theorem sp15_1 {X : am_X} {M : am_M} {N : am_N} {a b y : Nat} {v : Int32} (hb : b < 10) (hy : y < 6) (hab : a ≤ b) : am_J X (am_eq (some (.int (pm (M 4) a y v (b + 1 - a)).2)) (am_up (am_upR M 4 (pm (M 4) a y v (b + 1 - a)).1) 1 11 (M 1 11 + 1)) N) 15 0 (am_en 15 [.ref 1, .int (nI a), .int (nI b), .int (nI y), .int (1 : Int32), .int v]) [] M N := by
  refine J_en (L := [.ref 1, .int (nI a), .int (nI b), .int (nI y), .int (1 : Int32), .int v, .retAddr 0, .retAddr 0, .retAddr 0]) rfl ?_
  refine J_b 4 am_d15 rfl ?_
  exact lp15_1 rfl hb hy (b + 1 - a) 0 _ _ _ _ (by omega) hab rfl rfl upR_id.symm
theorem sp142_1 {X : am_X} {M : am_M} {N : am_N} {p : Nat} (hp : p < 60) : am_J X (am_eq (some (.int (M 122 p))) (M) N) 142 0 (am_en 142 [.ref 120, .int (nI p), .int (1 : Int32)]) [] M N := by
  refine J_en (L := [.ref 120, .int (nI p), .int (1 : Int32)]) rfl ?_
  refine J_b 1 am_d142 rfl ?_
  refine J_if_ne 13 (am_d142 rfl) rfl (fun h1 => ?_) (fun h1 => absurd h1 (by decide))
  refine J_b 2 am_d142 rfl ?_
  refine J_icmp_ne 27 (am_d142 rfl) rfl (fun h15 => absurd rfl h15) (fun h15 => ?_)
  refine J_b 3 am_d142 rfl ?_
  refine J_iald (am_d142 rfl) rfl (vp_in_nI hp (by decide)) ?_
  refine J_b 1 am_d142 rfl ?_
  exact J_iret (am_d142 rfl) rfl rfl ⟨by rw [nI_c (by omega)], rfl, rfl⟩
theorem sp143_1 {X : am_X} {M : am_M} {N : am_N} {p : Nat} {v : Int32} (hp : p < 60) : am_J X (am_eq (none) (am_up M 122 p v) N) 143 0 (am_en 143 [.ref 120, .int (nI p), .int (1 : Int32), .int v]) [] M N := by
  refine J_en (L := [.ref 120, .int (nI p), .int (1 : Int32), .int v]) rfl ?_
  refine J_b 1 am_d143 rfl ?_
  refine J_if_ne 14 (am_d143 rfl) rfl (fun h1 => ?_) (fun h1 => absurd h1 (by decide))
  refine J_b 2 am_d143 rfl ?_
  refine J_icmp_ne 29 (am_d143 rfl) rfl (fun h16 => absurd rfl h16) (fun h16 => ?_)
  refine J_b 4 am_d143 rfl ?_
  refine J_iast (am_d143 rfl) rfl (vp_in_nI hp (by decide)) ?_
  refine J_b 1 am_d143 rfl ?_
  exact J_ret (am_d143 rfl) rfl ⟨rfl, by rw [nI_c (by omega)], rfl⟩
theorem lp15_2 {X : am_X} {M : am_M} {N : am_N} {r : Nat → Int32} {a b y : Nat} {v : Int32} (hr : M 5 = r) (hb : b < 10) (hy : y < 6) : ∀ (n i : Nat) (x o1 : Int32) (z : Value) (M1 : am_M), i + n = b + 1 - a → a ≤ b → x = nI (a + i) → o1 = (pm r a y v i).2 → M1 = am_upR M 5 (pm r a y v i).1 → am_J X (am_eq (some (.int (pm r a y v (b + 1 - a)).2)) (am_up (am_upR M 5 (pm r a y v (b + 1 - a)).1) 1 11 (M 1 11 + 1)) N) 15 6 [.ref 1, .int (nI a), .int (nI b), .int (nI y), .int (2 : Int32), .int v, .int o1, .int x, z] [] (M1) N := by
  intro n
  induction n with
  | zero =>
    intro i x o1 z M1 hn hab ex eo em
    subst em
    have e : i = b + 1 - a := by omega
    subst e
    subst eo
    have hx : nI b < x := by rw [ex]; exact nI_lt (by omega) (by omega)
    refine J_b 2 am_d15 rfl ?_
    refine J_icmp_gt 56 (am_d15 rfl) rfl (fun h9 => ?_) (fun h9 => absurd (hx) h9)
    refine J_b 5 am_d15 rfl ?_
    refine J_puti (am_d15 rfl) rfl ?_
    refine J_b 1 am_d15 rfl ?_
    exact J_iret (am_d15 rfl) rfl rfl ⟨rfl, rfl, rfl⟩
  | succ n ih =>
    intro i x o1 z M1 hn hab ex eo em
    subst em
    have hx : x = nI (a + i) := ex
    have hp := pl_nI (y := y) hx
    have hc : (nI (6 * (a + i) + y)).toNatClampNeg = 6 * (a + i) + y := nI_c (by omega)
    have hv : vp_in (nI (6 * (a + i) + y)) 60 := vp_in_nI (by omega) (by decide)
    have hlt : ¬ nI b < x := by rw [hx]; exact nI_nlt (by omega) (by omega)
    refine J_b 2 am_d15 rfl ?_
    refine J_icmp_gt 56 (am_d15 rfl) rfl (fun h9 => absurd h9 hlt) (fun h9 => ?_)
    refine J_b 2 am_d15 rfl ?_
    refine J_S2s 16 (am_d15 rfl) rfl rfl (sp16) ?_
    rw [hp]
    refine J_b 4 am_d15 rfl ?_
    refine J_aaldk 5 (am_d15 rfl) rfl (am_vi rfl) rfl ?_
    refine J_b 1 am_d15 rfl ?_
    refine J_iald (am_d15 rfl) rfl (hv) ?_
    refine J_b 1 am_d15 rfl ?_
    refine J_icmp_eq 50 (am_d15 rfl) rfl (fun h32 => ?_) (fun h32 => ?_)
    · refine J_b 2 am_d15 rfl ?_
      refine ih (i + 1) _ _ _ _ (by omega) hab (by rw [hx]; exact nI_1 (a + i)) ?_ ?_
      · show o1 = (pm r a y v i).2 + (if (pm r a y v i).1 (6 * (a + i) + y) = v then 0 else 1)
        rw [if_pos (by rw [hc] at h32; exact h32), eo]
        exact (Int32.add_zero _).symm
      · show am_upR M 5 (pm r a y v i).1 = am_upR M 5 (fun j => if j = 6 * (a + i) + y then v else (pm r a y v i).1 j)
        rw [pm_same (by rw [hc] at h32; exact h32)]
    · refine J_b 3 am_d15 rfl ?_
      refine J_aaldk 5 (am_d15 rfl) rfl (am_vi rfl) rfl ?_
      refine J_b 2 am_d15 rfl ?_
      refine J_iast (am_d15 rfl) rfl (hv) ?_
      refine J_b 3 am_d15 rfl ?_
      refine ih (i + 1) _ _ _ _ (by omega) hab (by rw [hx]; exact nI_1 (a + i)) ?_ ?_
      · show o1 + 1 = (pm r a y v i).2 + (if (pm r a y v i).1 (6 * (a + i) + y) = v then 0 else 1)
        rw [if_neg (by rw [hc] at h32; exact h32), eo]
      · rw [upR_up, hc]
        rfl
theorem sp15_2 {X : am_X} {M : am_M} {N : am_N} {a b y : Nat} {v : Int32} (hb : b < 10) (hy : y < 6) (hab : a ≤ b) : am_J X (am_eq (some (.int (pm (M 5) a y v (b + 1 - a)).2)) (am_up (am_upR M 5 (pm (M 5) a y v (b + 1 - a)).1) 1 11 (M 1 11 + 1)) N) 15 0 (am_en 15 [.ref 1, .int (nI a), .int (nI b), .int (nI y), .int (2 : Int32), .int v]) [] M N := by
  refine J_en (L := [.ref 1, .int (nI a), .int (nI b), .int (nI y), .int (2 : Int32), .int v, .retAddr 0, .retAddr 0, .retAddr 0]) rfl ?_
  refine J_b 4 am_d15 rfl ?_
  exact lp15_2 rfl hb hy (b + 1 - a) 0 _ _ _ _ (by omega) hab rfl rfl upR_id.symm
theorem sp142_2 {X : am_X} {M : am_M} {N : am_N} {p : Nat} (hp : p < 60) : am_J X (am_eq (some (.int (M 123 p))) (M) N) 142 0 (am_en 142 [.ref 120, .int (nI p), .int (2 : Int32)]) [] M N := by
  refine J_en (L := [.ref 120, .int (nI p), .int (2 : Int32)]) rfl ?_
  refine J_b 1 am_d142 rfl ?_
  refine J_if_ne 13 (am_d142 rfl) rfl (fun h1 => ?_) (fun h1 => absurd h1 (by decide))
  refine J_b 2 am_d142 rfl ?_
  refine J_icmp_ne 27 (am_d142 rfl) rfl (fun h15 => ?_) (fun h15 => absurd h15 (by decide))
  refine J_b 2 am_d142 rfl ?_
  refine J_icmp_ne 41 (am_d142 rfl) rfl (fun h29 => absurd rfl h29) (fun h29 => ?_)
  refine J_b 3 am_d142 rfl ?_
  refine J_iald (am_d142 rfl) rfl (vp_in_nI hp (by decide)) ?_
  refine J_b 1 am_d142 rfl ?_
  exact J_iret (am_d142 rfl) rfl rfl ⟨by rw [nI_c (by omega)], rfl, rfl⟩
theorem sp143_2 {X : am_X} {M : am_M} {N : am_N} {p : Nat} {v : Int32} (hp : p < 60) : am_J X (am_eq (none) (am_up M 123 p v) N) 143 0 (am_en 143 [.ref 120, .int (nI p), .int (2 : Int32), .int v]) [] M N := by
  refine J_en (L := [.ref 120, .int (nI p), .int (2 : Int32), .int v]) rfl ?_
  refine J_b 1 am_d143 rfl ?_
  refine J_if_ne 14 (am_d143 rfl) rfl (fun h1 => ?_) (fun h1 => absurd h1 (by decide))
  refine J_b 2 am_d143 rfl ?_
  refine J_icmp_ne 29 (am_d143 rfl) rfl (fun h16 => ?_) (fun h16 => absurd h16 (by decide))
  refine J_b 2 am_d143 rfl ?_
  refine J_icmp_ne 44 (am_d143 rfl) rfl (fun h31 => absurd rfl h31) (fun h31 => ?_)
  refine J_b 4 am_d143 rfl ?_
  refine J_iast (am_d143 rfl) rfl (vp_in_nI hp (by decide)) ?_
  refine J_b 1 am_d143 rfl ?_
  exact J_ret (am_d143 rfl) rfl ⟨rfl, by rw [nI_c (by omega)], rfl⟩
theorem lp15_3 {X : am_X} {M : am_M} {N : am_N} {r : Nat → Int32} {a b y : Nat} {v : Int32} (hr : M 6 = r) (hb : b < 10) (hy : y < 6) : ∀ (n i : Nat) (x o1 : Int32) (z : Value) (M1 : am_M), i + n = b + 1 - a → a ≤ b → x = nI (a + i) → o1 = (pm r a y v i).2 → M1 = am_upR M 6 (pm r a y v i).1 → am_J X (am_eq (some (.int (pm r a y v (b + 1 - a)).2)) (am_up (am_upR M 6 (pm r a y v (b + 1 - a)).1) 1 11 (M 1 11 + 1)) N) 15 6 [.ref 1, .int (nI a), .int (nI b), .int (nI y), .int (3 : Int32), .int v, .int o1, .int x, z] [] (M1) N := by
  intro n
  induction n with
  | zero =>
    intro i x o1 z M1 hn hab ex eo em
    subst em
    have e : i = b + 1 - a := by omega
    subst e
    subst eo
    have hx : nI b < x := by rw [ex]; exact nI_lt (by omega) (by omega)
    refine J_b 2 am_d15 rfl ?_
    refine J_icmp_gt 56 (am_d15 rfl) rfl (fun h9 => ?_) (fun h9 => absurd (hx) h9)
    refine J_b 5 am_d15 rfl ?_
    refine J_puti (am_d15 rfl) rfl ?_
    refine J_b 1 am_d15 rfl ?_
    exact J_iret (am_d15 rfl) rfl rfl ⟨rfl, rfl, rfl⟩
  | succ n ih =>
    intro i x o1 z M1 hn hab ex eo em
    subst em
    have hx : x = nI (a + i) := ex
    have hp := pl_nI (y := y) hx
    have hc : (nI (6 * (a + i) + y)).toNatClampNeg = 6 * (a + i) + y := nI_c (by omega)
    have hv : vp_in (nI (6 * (a + i) + y)) 60 := vp_in_nI (by omega) (by decide)
    have hlt : ¬ nI b < x := by rw [hx]; exact nI_nlt (by omega) (by omega)
    refine J_b 2 am_d15 rfl ?_
    refine J_icmp_gt 56 (am_d15 rfl) rfl (fun h9 => absurd h9 hlt) (fun h9 => ?_)
    refine J_b 2 am_d15 rfl ?_
    refine J_S2s 16 (am_d15 rfl) rfl rfl (sp16) ?_
    rw [hp]
    refine J_b 4 am_d15 rfl ?_
    refine J_aaldk 6 (am_d15 rfl) rfl (am_vi rfl) rfl ?_
    refine J_b 1 am_d15 rfl ?_
    refine J_iald (am_d15 rfl) rfl (hv) ?_
    refine J_b 1 am_d15 rfl ?_
    refine J_icmp_eq 50 (am_d15 rfl) rfl (fun h32 => ?_) (fun h32 => ?_)
    · refine J_b 2 am_d15 rfl ?_
      refine ih (i + 1) _ _ _ _ (by omega) hab (by rw [hx]; exact nI_1 (a + i)) ?_ ?_
      · show o1 = (pm r a y v i).2 + (if (pm r a y v i).1 (6 * (a + i) + y) = v then 0 else 1)
        rw [if_pos (by rw [hc] at h32; exact h32), eo]
        exact (Int32.add_zero _).symm
      · show am_upR M 6 (pm r a y v i).1 = am_upR M 6 (fun j => if j = 6 * (a + i) + y then v else (pm r a y v i).1 j)
        rw [pm_same (by rw [hc] at h32; exact h32)]
    · refine J_b 3 am_d15 rfl ?_
      refine J_aaldk 6 (am_d15 rfl) rfl (am_vi rfl) rfl ?_
      refine J_b 2 am_d15 rfl ?_
      refine J_iast (am_d15 rfl) rfl (hv) ?_
      refine J_b 3 am_d15 rfl ?_
      refine ih (i + 1) _ _ _ _ (by omega) hab (by rw [hx]; exact nI_1 (a + i)) ?_ ?_
      · show o1 + 1 = (pm r a y v i).2 + (if (pm r a y v i).1 (6 * (a + i) + y) = v then 0 else 1)
        rw [if_neg (by rw [hc] at h32; exact h32), eo]
      · rw [upR_up, hc]
        rfl
theorem sp15_3 {X : am_X} {M : am_M} {N : am_N} {a b y : Nat} {v : Int32} (hb : b < 10) (hy : y < 6) (hab : a ≤ b) : am_J X (am_eq (some (.int (pm (M 6) a y v (b + 1 - a)).2)) (am_up (am_upR M 6 (pm (M 6) a y v (b + 1 - a)).1) 1 11 (M 1 11 + 1)) N) 15 0 (am_en 15 [.ref 1, .int (nI a), .int (nI b), .int (nI y), .int (3 : Int32), .int v]) [] M N := by
  refine J_en (L := [.ref 1, .int (nI a), .int (nI b), .int (nI y), .int (3 : Int32), .int v, .retAddr 0, .retAddr 0, .retAddr 0]) rfl ?_
  refine J_b 4 am_d15 rfl ?_
  exact lp15_3 rfl hb hy (b + 1 - a) 0 _ _ _ _ (by omega) hab rfl rfl upR_id.symm
theorem sp142_3 {X : am_X} {M : am_M} {N : am_N} {p : Nat} (hp : p < 60) : am_J X (am_eq (some (.int (M 124 p))) (M) N) 142 0 (am_en 142 [.ref 120, .int (nI p), .int (3 : Int32)]) [] M N := by
  refine J_en (L := [.ref 120, .int (nI p), .int (3 : Int32)]) rfl ?_
  refine J_b 1 am_d142 rfl ?_
  refine J_if_ne 13 (am_d142 rfl) rfl (fun h1 => ?_) (fun h1 => absurd h1 (by decide))
  refine J_b 2 am_d142 rfl ?_
  refine J_icmp_ne 27 (am_d142 rfl) rfl (fun h15 => ?_) (fun h15 => absurd h15 (by decide))
  refine J_b 2 am_d142 rfl ?_
  refine J_icmp_ne 41 (am_d142 rfl) rfl (fun h29 => ?_) (fun h29 => absurd h29 (by decide))
  refine J_b 2 am_d142 rfl ?_
  refine J_icmp_ne 55 (am_d142 rfl) rfl (fun h43 => absurd rfl h43) (fun h43 => ?_)
  refine J_b 3 am_d142 rfl ?_
  refine J_iald (am_d142 rfl) rfl (vp_in_nI hp (by decide)) ?_
  refine J_b 1 am_d142 rfl ?_
  exact J_iret (am_d142 rfl) rfl rfl ⟨by rw [nI_c (by omega)], rfl, rfl⟩
theorem sp143_3 {X : am_X} {M : am_M} {N : am_N} {p : Nat} {v : Int32} (hp : p < 60) : am_J X (am_eq (none) (am_up M 124 p v) N) 143 0 (am_en 143 [.ref 120, .int (nI p), .int (3 : Int32), .int v]) [] M N := by
  refine J_en (L := [.ref 120, .int (nI p), .int (3 : Int32), .int v]) rfl ?_
  refine J_b 1 am_d143 rfl ?_
  refine J_if_ne 14 (am_d143 rfl) rfl (fun h1 => ?_) (fun h1 => absurd h1 (by decide))
  refine J_b 2 am_d143 rfl ?_
  refine J_icmp_ne 29 (am_d143 rfl) rfl (fun h16 => ?_) (fun h16 => absurd h16 (by decide))
  refine J_b 2 am_d143 rfl ?_
  refine J_icmp_ne 44 (am_d143 rfl) rfl (fun h31 => ?_) (fun h31 => absurd h31 (by decide))
  refine J_b 2 am_d143 rfl ?_
  refine J_icmp_ne 59 (am_d143 rfl) rfl (fun h46 => absurd rfl h46) (fun h46 => ?_)
  refine J_b 4 am_d143 rfl ?_
  refine J_iast (am_d143 rfl) rfl (vp_in_nI hp (by decide)) ?_
  refine J_b 1 am_d143 rfl ?_
  exact J_ret (am_d143 rfl) rfl ⟨rfl, by rw [nI_c (by omega)], rfl⟩
theorem lp15_4 {X : am_X} {M : am_M} {N : am_N} {r : Nat → Int32} {a b y : Nat} {v : Int32} (hr : M 7 = r) (hb : b < 10) (hy : y < 6) : ∀ (n i : Nat) (x o1 : Int32) (z : Value) (M1 : am_M), i + n = b + 1 - a → a ≤ b → x = nI (a + i) → o1 = (pm r a y v i).2 → M1 = am_upR M 7 (pm r a y v i).1 → am_J X (am_eq (some (.int (pm r a y v (b + 1 - a)).2)) (am_up (am_upR M 7 (pm r a y v (b + 1 - a)).1) 1 11 (M 1 11 + 1)) N) 15 6 [.ref 1, .int (nI a), .int (nI b), .int (nI y), .int (4 : Int32), .int v, .int o1, .int x, z] [] (M1) N := by
  intro n
  induction n with
  | zero =>
    intro i x o1 z M1 hn hab ex eo em
    subst em
    have e : i = b + 1 - a := by omega
    subst e
    subst eo
    have hx : nI b < x := by rw [ex]; exact nI_lt (by omega) (by omega)
    refine J_b 2 am_d15 rfl ?_
    refine J_icmp_gt 56 (am_d15 rfl) rfl (fun h9 => ?_) (fun h9 => absurd (hx) h9)
    refine J_b 5 am_d15 rfl ?_
    refine J_puti (am_d15 rfl) rfl ?_
    refine J_b 1 am_d15 rfl ?_
    exact J_iret (am_d15 rfl) rfl rfl ⟨rfl, rfl, rfl⟩
  | succ n ih =>
    intro i x o1 z M1 hn hab ex eo em
    subst em
    have hx : x = nI (a + i) := ex
    have hp := pl_nI (y := y) hx
    have hc : (nI (6 * (a + i) + y)).toNatClampNeg = 6 * (a + i) + y := nI_c (by omega)
    have hv : vp_in (nI (6 * (a + i) + y)) 60 := vp_in_nI (by omega) (by decide)
    have hlt : ¬ nI b < x := by rw [hx]; exact nI_nlt (by omega) (by omega)
    refine J_b 2 am_d15 rfl ?_
    refine J_icmp_gt 56 (am_d15 rfl) rfl (fun h9 => absurd h9 hlt) (fun h9 => ?_)
    refine J_b 2 am_d15 rfl ?_
    refine J_S2s 16 (am_d15 rfl) rfl rfl (sp16) ?_
    rw [hp]
    refine J_b 4 am_d15 rfl ?_
    refine J_aaldk 7 (am_d15 rfl) rfl (am_vi rfl) rfl ?_
    refine J_b 1 am_d15 rfl ?_
    refine J_iald (am_d15 rfl) rfl (hv) ?_
    refine J_b 1 am_d15 rfl ?_
    refine J_icmp_eq 50 (am_d15 rfl) rfl (fun h32 => ?_) (fun h32 => ?_)
    · refine J_b 2 am_d15 rfl ?_
      refine ih (i + 1) _ _ _ _ (by omega) hab (by rw [hx]; exact nI_1 (a + i)) ?_ ?_
      · show o1 = (pm r a y v i).2 + (if (pm r a y v i).1 (6 * (a + i) + y) = v then 0 else 1)
        rw [if_pos (by rw [hc] at h32; exact h32), eo]
        exact (Int32.add_zero _).symm
      · show am_upR M 7 (pm r a y v i).1 = am_upR M 7 (fun j => if j = 6 * (a + i) + y then v else (pm r a y v i).1 j)
        rw [pm_same (by rw [hc] at h32; exact h32)]
    · refine J_b 3 am_d15 rfl ?_
      refine J_aaldk 7 (am_d15 rfl) rfl (am_vi rfl) rfl ?_
      refine J_b 2 am_d15 rfl ?_
      refine J_iast (am_d15 rfl) rfl (hv) ?_
      refine J_b 3 am_d15 rfl ?_
      refine ih (i + 1) _ _ _ _ (by omega) hab (by rw [hx]; exact nI_1 (a + i)) ?_ ?_
      · show o1 + 1 = (pm r a y v i).2 + (if (pm r a y v i).1 (6 * (a + i) + y) = v then 0 else 1)
        rw [if_neg (by rw [hc] at h32; exact h32), eo]
      · rw [upR_up, hc]
        rfl
theorem sp15_4 {X : am_X} {M : am_M} {N : am_N} {a b y : Nat} {v : Int32} (hb : b < 10) (hy : y < 6) (hab : a ≤ b) : am_J X (am_eq (some (.int (pm (M 7) a y v (b + 1 - a)).2)) (am_up (am_upR M 7 (pm (M 7) a y v (b + 1 - a)).1) 1 11 (M 1 11 + 1)) N) 15 0 (am_en 15 [.ref 1, .int (nI a), .int (nI b), .int (nI y), .int (4 : Int32), .int v]) [] M N := by
  refine J_en (L := [.ref 1, .int (nI a), .int (nI b), .int (nI y), .int (4 : Int32), .int v, .retAddr 0, .retAddr 0, .retAddr 0]) rfl ?_
  refine J_b 4 am_d15 rfl ?_
  exact lp15_4 rfl hb hy (b + 1 - a) 0 _ _ _ _ (by omega) hab rfl rfl upR_id.symm
theorem sp142_4 {X : am_X} {M : am_M} {N : am_N} {p : Nat} (hp : p < 60) : am_J X (am_eq (some (.int (M 125 p))) (M) N) 142 0 (am_en 142 [.ref 120, .int (nI p), .int (4 : Int32)]) [] M N := by
  refine J_en (L := [.ref 120, .int (nI p), .int (4 : Int32)]) rfl ?_
  refine J_b 1 am_d142 rfl ?_
  refine J_if_ne 13 (am_d142 rfl) rfl (fun h1 => ?_) (fun h1 => absurd h1 (by decide))
  refine J_b 2 am_d142 rfl ?_
  refine J_icmp_ne 27 (am_d142 rfl) rfl (fun h15 => ?_) (fun h15 => absurd h15 (by decide))
  refine J_b 2 am_d142 rfl ?_
  refine J_icmp_ne 41 (am_d142 rfl) rfl (fun h29 => ?_) (fun h29 => absurd h29 (by decide))
  refine J_b 2 am_d142 rfl ?_
  refine J_icmp_ne 55 (am_d142 rfl) rfl (fun h43 => ?_) (fun h43 => absurd h43 (by decide))
  refine J_b 3 am_d142 rfl ?_
  refine J_iald (am_d142 rfl) rfl (vp_in_nI hp (by decide)) ?_
  exact J_iret (am_d142 rfl) rfl rfl ⟨by rw [nI_c (by omega)], rfl, rfl⟩
theorem sp143_4 {X : am_X} {M : am_M} {N : am_N} {p : Nat} {v : Int32} (hp : p < 60) : am_J X (am_eq (none) (am_up M 125 p v) N) 143 0 (am_en 143 [.ref 120, .int (nI p), .int (4 : Int32), .int v]) [] M N := by
  refine J_en (L := [.ref 120, .int (nI p), .int (4 : Int32), .int v]) rfl ?_
  refine J_b 1 am_d143 rfl ?_
  refine J_if_ne 14 (am_d143 rfl) rfl (fun h1 => ?_) (fun h1 => absurd h1 (by decide))
  refine J_b 2 am_d143 rfl ?_
  refine J_icmp_ne 29 (am_d143 rfl) rfl (fun h16 => ?_) (fun h16 => absurd h16 (by decide))
  refine J_b 2 am_d143 rfl ?_
  refine J_icmp_ne 44 (am_d143 rfl) rfl (fun h31 => ?_) (fun h31 => absurd h31 (by decide))
  refine J_b 2 am_d143 rfl ?_
  refine J_icmp_ne 59 (am_d143 rfl) rfl (fun h46 => ?_) (fun h46 => absurd h46 (by decide))
  refine J_b 4 am_d143 rfl ?_
  refine J_iast (am_d143 rfl) rfl (vp_in_nI hp (by decide)) ?_
  exact J_ret (am_d143 rfl) rfl ⟨rfl, by rw [nI_c (by omega)], rfl⟩
end
section
/-! ===== paint, cell: the methods and the pairs ===== -/
theorem J_gsM {X : am_X} {Q : am_Q} {i pc : Nat} {L S : am_V} {M : am_M} {N : am_N} (ho : am_ow i = 10) (d : am_in i pc = some (.getstatic 101, 3)) (kk : am_J X Q i (pc + 3) L (.ref 1000001 :: S) M N) : am_J X Q i pc L S M N := sw_gsM ho d kk
theorem J_tM {X : am_X} {Q : am_Q} {i pc : Nat} {L S : am_V} {M : am_M} {N : am_N} {x : Int32} (d : am_in i pc = some (.iaload, 1)) (hi : vp_in x 5) (kk : am_J X Q i (pc + 1) L (.int (am_mom.getD x.toNatClampNeg 0) :: S) M N) : am_J X Q i pc L (.int x :: .ref 1000001 :: S) M N := sw_tM d hi kk
theorem sp11a {X : am_X} {M : am_M} {N : am_N} {x0 x1 y w v : Int32} (h1 : ¬ (((0 ≤ x0.toInt ∧ x0.toInt < 10) ∧ (0 ≤ x1.toInt ∧ x1.toInt < 10) ∧ 0 ≤ y.toInt ∧ y.toInt < 6) ∧ x0.toInt ≤ x1.toInt ∧ 0 ≤ w.toInt ∧ w.toInt < 5)) : am_J X (am_eq (some (.int (-1))) (M) N) 11 0 (am_en 11 [.ref 0, .int x0, .int x1, .int y, .int w, .int v]) [] M N := by
  refine J_en (L := [.ref 0, .int x0, .int x1, .int y, .int w, .int v]) rfl ?_
  refine J_b 2 am_d11 rfl ?_
  refine J_S2s 12 (am_d11 rfl) rfl rfl (sp12) ?_
  refine J_if_eq 30 (am_d11 rfl) rfl (fun h5 => ?_) (fun h5 => ?_)
  · refine J_b 1 am_d11 rfl ?_
    exact J_iret (am_d11 rfl) rfl rfl ⟨rfl, rfl, rfl⟩
  · refine J_b 2 am_d11 rfl ?_
    refine J_S2s 12 (am_d11 rfl) rfl rfl (sp12) ?_
    refine J_if_eq 30 (am_d11 rfl) rfl (fun h13 => ?_) (fun h13 => ?_)
    · refine J_b 1 am_d11 rfl ?_
      exact J_iret (am_d11 rfl) rfl rfl ⟨rfl, rfl, rfl⟩
    · refine J_b 2 am_d11 rfl ?_
      refine J_icmp_gt 30 (am_d11 rfl) rfl (fun h18 => ?_) (fun h18 => ?_)
      · refine J_b 1 am_d11 rfl ?_
        exact J_iret (am_d11 rfl) rfl rfl ⟨rfl, rfl, rfl⟩
      · refine J_b 2 am_d11 rfl ?_
        refine J_S2s 13 (am_d11 rfl) rfl rfl (sp13) ?_
        refine J_if_ne 32 (am_d11 rfl) rfl (fun h27 => ?_) (fun h27 => ?_)
        · exact absurd (show ((0 ≤ x0.toInt ∧ x0.toInt < 10) ∧ (0 ≤ x1.toInt ∧ x1.toInt < 10) ∧ 0 ≤ y.toInt ∧ y.toInt < 6) ∧ x0.toInt ≤ x1.toInt ∧ 0 ≤ w.toInt ∧ w.toInt < 5 by simp [am_bi0, am_bi1, Int32.lt_iff_toInt_lt, Int32.le_iff_toInt_le] at * <;> omega) h1
        · refine J_b 1 am_d11 rfl ?_
          exact J_iret (am_d11 rfl) rfl rfl ⟨rfl, rfl, rfl⟩
theorem sp138a {X : am_X} {M : am_M} {N : am_N} {x0 x1 y w v : Int32} (h1 : ¬ (((0 ≤ x0.toInt ∧ x0.toInt < 10) ∧ (0 ≤ x1.toInt ∧ x1.toInt < 10) ∧ 0 ≤ y.toInt ∧ y.toInt < 6) ∧ x0.toInt ≤ x1.toInt ∧ 0 ≤ w.toInt ∧ w.toInt < 5)) : am_J X (am_eq (some (.int (-1))) (M) N) 138 0 (am_en 138 [.ref 120, .int x0, .int x1, .int y, .int w, .int v]) [] M N := by
  refine J_en (L := [.ref 120, .int x0, .int x1, .int y, .int w, .int v, .retAddr 0, .retAddr 0]) rfl ?_
  refine J_b 2 am_d138 rfl ?_
  refine J_S2s 139 (am_d138 rfl) rfl rfl (sp139) ?_
  refine J_if_eq 34 (am_d138 rfl) rfl (fun h5 => ?_) (fun h5 => ?_)
  · refine J_b 1 am_d138 rfl ?_
    exact J_iret (am_d138 rfl) rfl rfl ⟨rfl, rfl, rfl⟩
  · refine J_b 2 am_d138 rfl ?_
    refine J_S2s 139 (am_d138 rfl) rfl rfl (sp139) ?_
    refine J_if_eq 34 (am_d138 rfl) rfl (fun h13 => ?_) (fun h13 => ?_)
    · refine J_b 1 am_d138 rfl ?_
      exact J_iret (am_d138 rfl) rfl rfl ⟨rfl, rfl, rfl⟩
    · refine J_b 2 am_d138 rfl ?_
      refine J_icmp_gt 34 (am_d138 rfl) rfl (fun h18 => ?_) (fun h18 => ?_)
      · refine J_b 1 am_d138 rfl ?_
        exact J_iret (am_d138 rfl) rfl rfl ⟨rfl, rfl, rfl⟩
      · refine J_b 4 am_d138 rfl ?_
        refine J_S3s 140 (am_d138 rfl) rfl rfl (sp140) ?_
        refine J_if_ne 36 (am_d138 rfl) rfl (fun h31 => ?_) (fun h31 => ?_)
        · exact absurd (show ((0 ≤ x0.toInt ∧ x0.toInt < 10) ∧ (0 ≤ x1.toInt ∧ x1.toInt < 10) ∧ 0 ≤ y.toInt ∧ y.toInt < 6) ∧ x0.toInt ≤ x1.toInt ∧ 0 ≤ w.toInt ∧ w.toInt < 5 by simp [am_bi0, am_bi1, Int32.lt_iff_toInt_lt, Int32.le_iff_toInt_le] at * <;> omega) h1
        · refine J_b 1 am_d138 rfl ?_
          exact J_iret (am_d138 rfl) rfl rfl ⟨rfl, rfl, rfl⟩
theorem sp11b_0 {X : am_X} {M : am_M} {N : am_N} {a b y : Nat} {v : Int32} (hb : b < 10) (hy : y < 6) (hab : a ≤ b) (h2 : ¬ (0 ≤ v.toInt ∧ v.toInt ≤ 2)) : am_J X (am_eq (some (.int (-2))) (M) N) 11 0 (am_en 11 [.ref 0, .int (nI a), .int (nI b), .int (nI y), .int (0 : Int32), .int v]) [] M N := by
  have ia := nI_i (n := a) (by omega)
  have ib := nI_i (n := b) (by omega)
  have iy := nI_i (n := y) (by omega)
  refine J_en (L := [.ref 0, .int (nI a), .int (nI b), .int (nI y), .int (0 : Int32), .int v]) rfl ?_
  refine J_b 2 am_d11 rfl ?_
  refine J_S2s 12 (am_d11 rfl) rfl rfl (sp12) ?_
  refine J_if_eq 30 (am_d11 rfl) rfl (fun h5 => (by exfalso; simp [am_bi0, am_bi1, Int32.lt_iff_toInt_lt, Int32.le_iff_toInt_le, ia, ib, iy] at * <;> omega)) (fun h5 => ?_)
  refine J_b 2 am_d11 rfl ?_
  refine J_S2s 12 (am_d11 rfl) rfl rfl (sp12) ?_
  refine J_if_eq 30 (am_d11 rfl) rfl (fun h13 => (by exfalso; simp [am_bi0, am_bi1, Int32.lt_iff_toInt_lt, Int32.le_iff_toInt_le, ia, ib, iy] at * <;> omega)) (fun h13 => ?_)
  refine J_b 2 am_d11 rfl ?_
  refine J_icmp_gt 30 (am_d11 rfl) rfl (fun h18 => (by exfalso; simp [am_bi0, am_bi1, Int32.lt_iff_toInt_lt, Int32.le_iff_toInt_le, ia, ib, iy] at * <;> omega)) (fun h18 => ?_)
  refine J_b 2 am_d11 rfl ?_
  refine J_S2s 13 (am_d11 rfl) rfl rfl (sp13) ?_
  refine J_if_ne 32 (am_d11 rfl) rfl (fun h27 => ?_) (fun h27 => (by exfalso; simp [am_bi0, am_bi1, Int32.lt_iff_toInt_lt, Int32.le_iff_toInt_le, ia, ib, iy] at * <;> omega))
  refine J_b 2 am_d11 rfl ?_
  refine J_gsM rfl (am_d11 rfl) ?_
  refine J_b 1 am_d11 rfl ?_
  refine J_tM (am_d11 rfl) (am_vi rfl) ?_
  refine J_S3s 14 (am_d11 rfl) rfl rfl (sp14) ?_
  refine J_if_ne 50 (am_d11 rfl) rfl (fun h44 => (by exfalso; simp [am_bi0, am_bi1, am_mom, Int32.lt_iff_toInt_lt, Int32.le_iff_toInt_le] at * <;> omega)) (fun h44 => ?_)
  refine J_b 1 am_d11 rfl ?_
  exact J_iret (am_d11 rfl) rfl rfl ⟨rfl, rfl, rfl⟩
theorem sp138b_0 {X : am_X} {M : am_M} {N : am_N} {a b y : Nat} {v : Int32} (hb : b < 10) (hy : y < 6) (hab : a ≤ b) (h2 : ¬ (0 ≤ v.toInt ∧ v.toInt ≤ 2)) : am_J X (am_eq (some (.int (-2))) (M) N) 138 0 (am_en 138 [.ref 120, .int (nI a), .int (nI b), .int (nI y), .int (0 : Int32), .int v]) [] M N := by
  have ia := nI_i (n := a) (by omega)
  have ib := nI_i (n := b) (by omega)
  have iy := nI_i (n := y) (by omega)
  refine J_en (L := [.ref 120, .int (nI a), .int (nI b), .int (nI y), .int (0 : Int32), .int v, .retAddr 0, .retAddr 0]) rfl ?_
  refine J_b 2 am_d138 rfl ?_
  refine J_S2s 139 (am_d138 rfl) rfl rfl (sp139) ?_
  refine J_if_eq 34 (am_d138 rfl) rfl (fun h5 => (by exfalso; simp [am_bi0, am_bi1, Int32.lt_iff_toInt_lt, Int32.le_iff_toInt_le, ia, ib, iy] at * <;> omega)) (fun h5 => ?_)
  refine J_b 2 am_d138 rfl ?_
  refine J_S2s 139 (am_d138 rfl) rfl rfl (sp139) ?_
  refine J_if_eq 34 (am_d138 rfl) rfl (fun h13 => (by exfalso; simp [am_bi0, am_bi1, Int32.lt_iff_toInt_lt, Int32.le_iff_toInt_le, ia, ib, iy] at * <;> omega)) (fun h13 => ?_)
  refine J_b 2 am_d138 rfl ?_
  refine J_icmp_gt 34 (am_d138 rfl) rfl (fun h18 => (by exfalso; simp [am_bi0, am_bi1, Int32.lt_iff_toInt_lt, Int32.le_iff_toInt_le, ia, ib, iy] at * <;> omega)) (fun h18 => ?_)
  refine J_b 4 am_d138 rfl ?_
  refine J_S3s 140 (am_d138 rfl) rfl rfl (sp140) ?_
  refine J_if_ne 36 (am_d138 rfl) rfl (fun h31 => ?_) (fun h31 => (by exfalso; simp [am_bi0, am_bi1, Int32.lt_iff_toInt_lt, Int32.le_iff_toInt_le, ia, ib, iy] at * <;> omega))
  refine J_b 4 am_d138 rfl ?_
  refine J_S1s 141 (am_d138 rfl) rfl rfl (sp141) ?_
  refine J_b 1 am_d138 rfl ?_
  refine J_S3s 140 (am_d138 rfl) rfl rfl (sp140) ?_
  refine J_if_ne 55 (am_d138 rfl) rfl (fun h49 => (by exfalso; simp [am_bi0, am_bi1, am_mom, Int32.lt_iff_toInt_lt, Int32.le_iff_toInt_le] at * <;> omega)) (fun h49 => ?_)
  refine J_b 1 am_d138 rfl ?_
  exact J_iret (am_d138 rfl) rfl rfl ⟨rfl, rfl, rfl⟩
theorem sp11s_0 {X : am_X} {M : am_M} {N : am_N} {a b y : Nat} {v : Int32} (hb : b < 10) (hy : y < 6) (hab : a ≤ b) (h2 : 0 ≤ v.toInt ∧ v.toInt ≤ 2) (hc : ¬ M 18 7 ≤ 0) : am_J X (am_eq (some (.int (-3))) (M) N) 11 0 (am_en 11 [.ref 0, .int (nI a), .int (nI b), .int (nI y), .int (0 : Int32), .int v]) [] M N := by
  have ia := nI_i (n := a) (by omega)
  have ib := nI_i (n := b) (by omega)
  have iy := nI_i (n := y) (by omega)
  refine J_en (L := [.ref 0, .int (nI a), .int (nI b), .int (nI y), .int (0 : Int32), .int v]) rfl ?_
  refine J_b 2 am_d11 rfl ?_
  refine J_S2s 12 (am_d11 rfl) rfl rfl (sp12) ?_
  refine J_if_eq 30 (am_d11 rfl) rfl (fun h5 => (by exfalso; simp [am_bi0, am_bi1, Int32.lt_iff_toInt_lt, Int32.le_iff_toInt_le, ia, ib, iy] at * <;> omega)) (fun h5 => ?_)
  refine J_b 2 am_d11 rfl ?_
  refine J_S2s 12 (am_d11 rfl) rfl rfl (sp12) ?_
  refine J_if_eq 30 (am_d11 rfl) rfl (fun h13 => (by exfalso; simp [am_bi0, am_bi1, Int32.lt_iff_toInt_lt, Int32.le_iff_toInt_le, ia, ib, iy] at * <;> omega)) (fun h13 => ?_)
  refine J_b 2 am_d11 rfl ?_
  refine J_icmp_gt 30 (am_d11 rfl) rfl (fun h18 => (by exfalso; simp [am_bi0, am_bi1, Int32.lt_iff_toInt_lt, Int32.le_iff_toInt_le, ia, ib, iy] at * <;> omega)) (fun h18 => ?_)
  refine J_b 2 am_d11 rfl ?_
  refine J_S2s 13 (am_d11 rfl) rfl rfl (sp13) ?_
  refine J_if_ne 32 (am_d11 rfl) rfl (fun h27 => ?_) (fun h27 => (by exfalso; simp [am_bi0, am_bi1, Int32.lt_iff_toInt_lt, Int32.le_iff_toInt_le, ia, ib, iy] at * <;> omega))
  refine J_b 2 am_d11 rfl ?_
  refine J_gsM rfl (am_d11 rfl) ?_
  refine J_b 1 am_d11 rfl ?_
  refine J_tM (am_d11 rfl) (am_vi rfl) ?_
  refine J_S3s 14 (am_d11 rfl) rfl rfl (sp14) ?_
  refine J_if_ne 50 (am_d11 rfl) rfl (fun h44 => ?_) (fun h44 => (by exfalso; simp [am_bi0, am_bi1, am_mom, Int32.lt_iff_toInt_lt, Int32.le_iff_toInt_le] at * <;> omega))
  refine J_b 1 am_d11 rfl ?_
  refine J_if_ne 68 (am_d11 rfl) rfl (fun h52 => absurd rfl h52) (fun h52 => ?_)
  refine J_b 3 am_d11 rfl ?_
  refine J_if_le 68 (am_d11 rfl) rfl (fun h62 => absurd h62 hc) (fun h62 => ?_)
  refine J_b 1 am_d11 rfl ?_
  exact J_iret (am_d11 rfl) rfl rfl ⟨rfl, rfl, rfl⟩
theorem sp138s_0 {X : am_X} {M : am_M} {N : am_N} {a b y : Nat} {v : Int32} (hb : b < 10) (hy : y < 6) (hab : a ≤ b) (h2 : 0 ≤ v.toInt ∧ v.toInt ≤ 2) (hc : ¬ M 120 22 ≤ 0) : am_J X (am_eq (some (.int (-3))) (M) N) 138 0 (am_en 138 [.ref 120, .int (nI a), .int (nI b), .int (nI y), .int (0 : Int32), .int v]) [] M N := by
  have ia := nI_i (n := a) (by omega)
  have ib := nI_i (n := b) (by omega)
  have iy := nI_i (n := y) (by omega)
  refine J_en (L := [.ref 120, .int (nI a), .int (nI b), .int (nI y), .int (0 : Int32), .int v, .retAddr 0, .retAddr 0]) rfl ?_
  refine J_b 2 am_d138 rfl ?_
  refine J_S2s 139 (am_d138 rfl) rfl rfl (sp139) ?_
  refine J_if_eq 34 (am_d138 rfl) rfl (fun h5 => (by exfalso; simp [am_bi0, am_bi1, Int32.lt_iff_toInt_lt, Int32.le_iff_toInt_le, ia, ib, iy] at * <;> omega)) (fun h5 => ?_)
  refine J_b 2 am_d138 rfl ?_
  refine J_S2s 139 (am_d138 rfl) rfl rfl (sp139) ?_
  refine J_if_eq 34 (am_d138 rfl) rfl (fun h13 => (by exfalso; simp [am_bi0, am_bi1, Int32.lt_iff_toInt_lt, Int32.le_iff_toInt_le, ia, ib, iy] at * <;> omega)) (fun h13 => ?_)
  refine J_b 2 am_d138 rfl ?_
  refine J_icmp_gt 34 (am_d138 rfl) rfl (fun h18 => (by exfalso; simp [am_bi0, am_bi1, Int32.lt_iff_toInt_lt, Int32.le_iff_toInt_le, ia, ib, iy] at * <;> omega)) (fun h18 => ?_)
  refine J_b 4 am_d138 rfl ?_
  refine J_S3s 140 (am_d138 rfl) rfl rfl (sp140) ?_
  refine J_if_ne 36 (am_d138 rfl) rfl (fun h31 => ?_) (fun h31 => (by exfalso; simp [am_bi0, am_bi1, Int32.lt_iff_toInt_lt, Int32.le_iff_toInt_le, ia, ib, iy] at * <;> omega))
  refine J_b 4 am_d138 rfl ?_
  refine J_S1s 141 (am_d138 rfl) rfl rfl (sp141) ?_
  refine J_b 1 am_d138 rfl ?_
  refine J_S3s 140 (am_d138 rfl) rfl rfl (sp140) ?_
  refine J_if_ne 55 (am_d138 rfl) rfl (fun h49 => ?_) (fun h49 => (by exfalso; simp [am_bi0, am_bi1, am_mom, Int32.lt_iff_toInt_lt, Int32.le_iff_toInt_le] at * <;> omega))
  refine J_b 1 am_d138 rfl ?_
  refine J_if_ne 70 (am_d138 rfl) rfl (fun h57 => absurd rfl h57) (fun h57 => ?_)
  refine J_b 2 am_d138 rfl ?_
  refine J_if_le 70 (am_d138 rfl) rfl (fun h64 => absurd h64 hc) (fun h64 => ?_)
  refine J_b 1 am_d138 rfl ?_
  exact J_iret (am_d138 rfl) rfl rfl ⟨rfl, rfl, rfl⟩
theorem sp11c_0 {X : am_X} {M : am_M} {N : am_N} {a b y : Nat} {v : Int32} (hb : b < 10) (hy : y < 6) (hab : a ≤ b) (h2 : 0 ≤ v.toInt ∧ v.toInt ≤ 2) (hc : M 18 7 ≤ 0) : am_J X (am_eq (some (.int (pm (M 3) a y v (b + 1 - a)).2)) (am_up (am_upR M 3 (pm (M 3) a y v (b + 1 - a)).1) 1 11 (M 1 11 + 1)) N) 11 0 (am_en 11 [.ref 0, .int (nI a), .int (nI b), .int (nI y), .int (0 : Int32), .int v]) [] M N := by
  have ia := nI_i (n := a) (by omega)
  have ib := nI_i (n := b) (by omega)
  have iy := nI_i (n := y) (by omega)
  refine J_en (L := [.ref 0, .int (nI a), .int (nI b), .int (nI y), .int (0 : Int32), .int v]) rfl ?_
  refine J_b 2 am_d11 rfl ?_
  refine J_S2s 12 (am_d11 rfl) rfl rfl (sp12) ?_
  refine J_if_eq 30 (am_d11 rfl) rfl (fun h5 => (by exfalso; simp [am_bi0, am_bi1, Int32.lt_iff_toInt_lt, Int32.le_iff_toInt_le, ia, ib, iy] at * <;> omega)) (fun h5 => ?_)
  refine J_b 2 am_d11 rfl ?_
  refine J_S2s 12 (am_d11 rfl) rfl rfl (sp12) ?_
  refine J_if_eq 30 (am_d11 rfl) rfl (fun h13 => (by exfalso; simp [am_bi0, am_bi1, Int32.lt_iff_toInt_lt, Int32.le_iff_toInt_le, ia, ib, iy] at * <;> omega)) (fun h13 => ?_)
  refine J_b 2 am_d11 rfl ?_
  refine J_icmp_gt 30 (am_d11 rfl) rfl (fun h18 => (by exfalso; simp [am_bi0, am_bi1, Int32.lt_iff_toInt_lt, Int32.le_iff_toInt_le, ia, ib, iy] at * <;> omega)) (fun h18 => ?_)
  refine J_b 2 am_d11 rfl ?_
  refine J_S2s 13 (am_d11 rfl) rfl rfl (sp13) ?_
  refine J_if_ne 32 (am_d11 rfl) rfl (fun h27 => ?_) (fun h27 => (by exfalso; simp [am_bi0, am_bi1, Int32.lt_iff_toInt_lt, Int32.le_iff_toInt_le, ia, ib, iy] at * <;> omega))
  refine J_b 2 am_d11 rfl ?_
  refine J_gsM rfl (am_d11 rfl) ?_
  refine J_b 1 am_d11 rfl ?_
  refine J_tM (am_d11 rfl) (am_vi rfl) ?_
  refine J_S3s 14 (am_d11 rfl) rfl rfl (sp14) ?_
  refine J_if_ne 50 (am_d11 rfl) rfl (fun h44 => ?_) (fun h44 => (by exfalso; simp [am_bi0, am_bi1, am_mom, Int32.lt_iff_toInt_lt, Int32.le_iff_toInt_le] at * <;> omega))
  refine J_b 1 am_d11 rfl ?_
  refine J_if_ne 68 (am_d11 rfl) rfl (fun h52 => absurd rfl h52) (fun h52 => ?_)
  refine J_b 3 am_d11 rfl ?_
  refine J_if_le 68 (am_d11 rfl) rfl (fun h62 => ?_) (fun h62 => absurd (hc) h62)
  refine J_b 7 am_d11 rfl ?_
  refine J_V5s 15 (am_d11 rfl) rfl rfl (sp15_0 hb hy hab) ?_
  exact J_iret (am_d11 rfl) rfl rfl ⟨rfl, rfl, rfl⟩
theorem lp138_0 {X : am_X} {M : am_M} {N : am_N} {r : Nat → Int32} {a b y : Nat} {v : Int32} (hb : b < 10) (hy : y < 6) : ∀ (n i : Nat) (x o1 : Int32) (M1 : am_M), i + n = b + 1 - a → a ≤ b → x = nI (a + i) → o1 = (pm r a y v i).2 → M1 = am_upR M 121 (pm r a y v i).1 → am_J X (am_eq (some (.int (pm r a y v (b + 1 - a)).2)) (am_upR M 121 (pm r a y v (b + 1 - a)).1) N) 138 76 [.ref 120, .int (nI a), .int (nI b), .int (nI y), .int (0 : Int32), .int v, .int o1, .int x] [] M1 N := by
  intro n
  induction n with
  | zero =>
    intro i x o1 M1 hn hab ex eo em
    subst em
    have e : i = b + 1 - a := by omega
    subst e
    subst eo
    have hx : nI b < x := by rw [ex]; exact nI_lt (by omega) (by omega)
    refine J_b 2 am_d138 rfl ?_
    refine J_icmp_gt 131 (am_d138 rfl) rfl (fun h79 => ?_) (fun h79 => absurd (hx) h79)
    refine J_b 1 am_d138 rfl ?_
    exact J_iret (am_d138 rfl) rfl rfl ⟨rfl, rfl, rfl⟩
  | succ n ih =>
    intro i x o1 M1 hn hab ex eo em
    subst em
    have hp : (Int8.ofInt 6).toInt32 * x + nI y = nI (6 * (a + i) + y) := pl_nI ex
    have hlt : ¬ nI b < x := by rw [ex]; exact nI_nlt (by omega) (by omega)
    refine J_b 2 am_d138 rfl ?_
    refine J_icmp_gt 131 (am_d138 rfl) rfl (fun h79 => absurd h79 hlt) (fun h79 => ?_)
    refine J_b 7 am_d138 rfl ?_
    rw [hp]
    refine J_b 1 am_d138 rfl ?_
    refine J_V2s 142 (am_d138 rfl) rfl rfl (sp142_0 (by omega)) ?_
    refine J_b 1 am_d138 rfl ?_
    refine J_icmp_eq 106 (am_d138 rfl) rfl (fun h99 => ?_) (fun h99 => ?_)
    · refine J_b 9 am_d138 rfl ?_
      rw [hp]
      refine J_b 1 am_d138 rfl ?_
      refine J_b 1 am_d138 rfl ?_
      refine J_V3n 143 (am_d138 rfl) rfl rfl (sp143_0 (by omega)) ?_
      refine J_b 2 am_d138 rfl ?_
      refine ih (i + 1) _ _ _ (by omega) hab (by rw [ex]; exact nI_1 (a + i)) ?_ ?_
      · show o1 + 0 = (pm r a y v i).2 + (if (pm r a y v i).1 (6 * (a + i) + y) = v then 0 else 1)
        rw [if_pos (show (pm r a y v i).1 (6 * (a + i) + y) = v from h99), eo]
      · rw [upR_up]
        rfl
    · refine J_b 10 am_d138 rfl ?_
      rw [hp]
      refine J_b 1 am_d138 rfl ?_
      refine J_b 1 am_d138 rfl ?_
      refine J_V3n 143 (am_d138 rfl) rfl rfl (sp143_0 (by omega)) ?_
      refine J_b 2 am_d138 rfl ?_
      refine ih (i + 1) _ _ _ (by omega) hab (by rw [ex]; exact nI_1 (a + i)) ?_ ?_
      · show o1 + 1 = (pm r a y v i).2 + (if (pm r a y v i).1 (6 * (a + i) + y) = v then 0 else 1)
        rw [if_neg (show ¬ (pm r a y v i).1 (6 * (a + i) + y) = v from h99), eo]
      · rw [upR_up]
        rfl
theorem sp138c_0 {X : am_X} {M : am_M} {N : am_N} {a b y : Nat} {v : Int32} (hb : b < 10) (hy : y < 6) (hab : a ≤ b) (h2 : 0 ≤ v.toInt ∧ v.toInt ≤ 2) (hc : M 120 22 ≤ 0) : am_J X (am_eq (some (.int (pm (M 121) a y v (b + 1 - a)).2)) (am_upR M 121 (pm (M 121) a y v (b + 1 - a)).1) N) 138 0 (am_en 138 [.ref 120, .int (nI a), .int (nI b), .int (nI y), .int (0 : Int32), .int v]) [] M N := by
  have ia := nI_i (n := a) (by omega)
  have ib := nI_i (n := b) (by omega)
  have iy := nI_i (n := y) (by omega)
  refine J_en (L := [.ref 120, .int (nI a), .int (nI b), .int (nI y), .int (0 : Int32), .int v, .retAddr 0, .retAddr 0]) rfl ?_
  refine J_b 2 am_d138 rfl ?_
  refine J_S2s 139 (am_d138 rfl) rfl rfl (sp139) ?_
  refine J_if_eq 34 (am_d138 rfl) rfl (fun h5 => (by exfalso; simp [am_bi0, am_bi1, Int32.lt_iff_toInt_lt, Int32.le_iff_toInt_le, ia, ib, iy] at * <;> omega)) (fun h5 => ?_)
  refine J_b 2 am_d138 rfl ?_
  refine J_S2s 139 (am_d138 rfl) rfl rfl (sp139) ?_
  refine J_if_eq 34 (am_d138 rfl) rfl (fun h13 => (by exfalso; simp [am_bi0, am_bi1, Int32.lt_iff_toInt_lt, Int32.le_iff_toInt_le, ia, ib, iy] at * <;> omega)) (fun h13 => ?_)
  refine J_b 2 am_d138 rfl ?_
  refine J_icmp_gt 34 (am_d138 rfl) rfl (fun h18 => (by exfalso; simp [am_bi0, am_bi1, Int32.lt_iff_toInt_lt, Int32.le_iff_toInt_le, ia, ib, iy] at * <;> omega)) (fun h18 => ?_)
  refine J_b 4 am_d138 rfl ?_
  refine J_S3s 140 (am_d138 rfl) rfl rfl (sp140) ?_
  refine J_if_ne 36 (am_d138 rfl) rfl (fun h31 => ?_) (fun h31 => (by exfalso; simp [am_bi0, am_bi1, Int32.lt_iff_toInt_lt, Int32.le_iff_toInt_le, ia, ib, iy] at * <;> omega))
  refine J_b 4 am_d138 rfl ?_
  refine J_S1s 141 (am_d138 rfl) rfl rfl (sp141) ?_
  refine J_b 1 am_d138 rfl ?_
  refine J_S3s 140 (am_d138 rfl) rfl rfl (sp140) ?_
  refine J_if_ne 55 (am_d138 rfl) rfl (fun h49 => ?_) (fun h49 => (by exfalso; simp [am_bi0, am_bi1, am_mom, Int32.lt_iff_toInt_lt, Int32.le_iff_toInt_le] at * <;> omega))
  refine J_b 1 am_d138 rfl ?_
  refine J_if_ne 70 (am_d138 rfl) rfl (fun h57 => absurd rfl h57) (fun h57 => ?_)
  refine J_b 2 am_d138 rfl ?_
  refine J_if_le 70 (am_d138 rfl) rfl (fun h64 => ?_) (fun h64 => absurd (hc) h64)
  refine J_b 4 am_d138 rfl ?_
  exact lp138_0 hb hy (b + 1 - a) 0 _ _ _ (by omega) hab rfl rfl upR_id.symm
theorem sp17c_0 {X : am_X} {M : am_M} {N : am_N} {a y : Nat} (ha : a < 10) (hy : y < 6) : am_J X (am_eq (some (.int (M 3 (6 * a + y)))) (M) N) 17 0 (am_en 17 [.ref 0, .int (nI a), .int (nI y), .int (0 : Int32)]) [] M N := by
  have ia := nI_i (n := a) (by omega)
  have iy := nI_i (n := y) (by omega)
  have hp := pl_nI (y := y) (rfl : nI a = nI a)
  have hp8 : (Int8.ofInt 6).toInt32 * nI a + nI y = nI (6 * a + y) := hp
  refine J_en (L := [.ref 0, .int (nI a), .int (nI y), .int (0 : Int32)]) rfl ?_
  refine J_b 2 am_d17 rfl ?_
  refine J_S2s 12 (am_d17 rfl) rfl rfl (sp12) ?_
  refine J_if_eq 16 (am_d17 rfl) rfl (fun h5 => (by exfalso; simp [am_bi0, am_bi1, ia, iy] at * <;> omega)) (fun h5 => ?_)
  refine J_b 2 am_d17 rfl ?_
  refine J_S2s 13 (am_d17 rfl) rfl rfl (sp13) ?_
  refine J_if_ne 18 (am_d17 rfl) rfl (fun h13 => ?_) (fun h13 => (by exfalso; simp [am_bi0, am_bi1, ia, iy] at * <;> omega))
  refine J_b 4 am_d17 rfl ?_
  refine J_aaldk 3 (am_d17 rfl) rfl (am_vi rfl) rfl ?_
  refine J_b 2 am_d17 rfl ?_
  refine J_S2s 16 (am_d17 rfl) rfl rfl (sp16) ?_
  rw [hp]
  refine J_iald (am_d17 rfl) rfl (vp_in_nI (by omega) (by decide)) ?_
  exact J_iret (am_d17 rfl) rfl rfl ⟨by rw [nI_c (by omega)], rfl, rfl⟩
theorem sp144c_0 {X : am_X} {M : am_M} {N : am_N} {a y : Nat} (ha : a < 10) (hy : y < 6) : am_J X (am_eq (some (.int (M 121 (6 * a + y)))) (M) N) 144 0 (am_en 144 [.ref 120, .int (nI a), .int (nI y), .int (0 : Int32)]) [] M N := by
  have ia := nI_i (n := a) (by omega)
  have iy := nI_i (n := y) (by omega)
  have hp := pl_nI (y := y) (rfl : nI a = nI a)
  have hp8 : (Int8.ofInt 6).toInt32 * nI a + nI y = nI (6 * a + y) := hp
  refine J_en (L := [.ref 120, .int (nI a), .int (nI y), .int (0 : Int32)]) rfl ?_
  refine J_b 2 am_d144 rfl ?_
  refine J_S2s 139 (am_d144 rfl) rfl rfl (sp139) ?_
  refine J_if_eq 34 (am_d144 rfl) rfl (fun h5 => (by exfalso; simp [am_bi0, am_bi1, ia, iy] at * <;> omega)) (fun h5 => ?_)
  refine J_b 4 am_d144 rfl ?_
  refine J_S3s 140 (am_d144 rfl) rfl rfl (sp140) ?_
  refine J_if_eq 34 (am_d144 rfl) rfl (fun h17 => (by exfalso; simp [am_bi0, am_bi1, ia, iy] at * <;> omega)) (fun h17 => ?_)
  refine J_b 6 am_d144 rfl ?_
  rw [hp8]
  refine J_b 1 am_d144 rfl ?_
  refine J_V2s 142 (am_d144 rfl) rfl rfl (sp142_0 (by omega)) ?_
  refine J_b 1 am_d144 rfl ?_
  exact J_iret (am_d144 rfl) rfl rfl ⟨rfl, rfl, rfl⟩
theorem sp11b_1 {X : am_X} {M : am_M} {N : am_N} {a b y : Nat} {v : Int32} (hb : b < 10) (hy : y < 6) (hab : a ≤ b) (h2 : ¬ (0 ≤ v.toInt ∧ v.toInt ≤ 2)) : am_J X (am_eq (some (.int (-2))) (M) N) 11 0 (am_en 11 [.ref 0, .int (nI a), .int (nI b), .int (nI y), .int (1 : Int32), .int v]) [] M N := by
  have ia := nI_i (n := a) (by omega)
  have ib := nI_i (n := b) (by omega)
  have iy := nI_i (n := y) (by omega)
  refine J_en (L := [.ref 0, .int (nI a), .int (nI b), .int (nI y), .int (1 : Int32), .int v]) rfl ?_
  refine J_b 2 am_d11 rfl ?_
  refine J_S2s 12 (am_d11 rfl) rfl rfl (sp12) ?_
  refine J_if_eq 30 (am_d11 rfl) rfl (fun h5 => (by exfalso; simp [am_bi0, am_bi1, Int32.lt_iff_toInt_lt, Int32.le_iff_toInt_le, ia, ib, iy] at * <;> omega)) (fun h5 => ?_)
  refine J_b 2 am_d11 rfl ?_
  refine J_S2s 12 (am_d11 rfl) rfl rfl (sp12) ?_
  refine J_if_eq 30 (am_d11 rfl) rfl (fun h13 => (by exfalso; simp [am_bi0, am_bi1, Int32.lt_iff_toInt_lt, Int32.le_iff_toInt_le, ia, ib, iy] at * <;> omega)) (fun h13 => ?_)
  refine J_b 2 am_d11 rfl ?_
  refine J_icmp_gt 30 (am_d11 rfl) rfl (fun h18 => (by exfalso; simp [am_bi0, am_bi1, Int32.lt_iff_toInt_lt, Int32.le_iff_toInt_le, ia, ib, iy] at * <;> omega)) (fun h18 => ?_)
  refine J_b 2 am_d11 rfl ?_
  refine J_S2s 13 (am_d11 rfl) rfl rfl (sp13) ?_
  refine J_if_ne 32 (am_d11 rfl) rfl (fun h27 => ?_) (fun h27 => (by exfalso; simp [am_bi0, am_bi1, Int32.lt_iff_toInt_lt, Int32.le_iff_toInt_le, ia, ib, iy] at * <;> omega))
  refine J_b 2 am_d11 rfl ?_
  refine J_gsM rfl (am_d11 rfl) ?_
  refine J_b 1 am_d11 rfl ?_
  refine J_tM (am_d11 rfl) (am_vi rfl) ?_
  refine J_S3s 14 (am_d11 rfl) rfl rfl (sp14) ?_
  refine J_if_ne 50 (am_d11 rfl) rfl (fun h44 => (by exfalso; simp [am_bi0, am_bi1, am_mom, Int32.lt_iff_toInt_lt, Int32.le_iff_toInt_le] at * <;> omega)) (fun h44 => ?_)
  refine J_b 1 am_d11 rfl ?_
  exact J_iret (am_d11 rfl) rfl rfl ⟨rfl, rfl, rfl⟩
theorem sp138b_1 {X : am_X} {M : am_M} {N : am_N} {a b y : Nat} {v : Int32} (hb : b < 10) (hy : y < 6) (hab : a ≤ b) (h2 : ¬ (0 ≤ v.toInt ∧ v.toInt ≤ 2)) : am_J X (am_eq (some (.int (-2))) (M) N) 138 0 (am_en 138 [.ref 120, .int (nI a), .int (nI b), .int (nI y), .int (1 : Int32), .int v]) [] M N := by
  have ia := nI_i (n := a) (by omega)
  have ib := nI_i (n := b) (by omega)
  have iy := nI_i (n := y) (by omega)
  refine J_en (L := [.ref 120, .int (nI a), .int (nI b), .int (nI y), .int (1 : Int32), .int v, .retAddr 0, .retAddr 0]) rfl ?_
  refine J_b 2 am_d138 rfl ?_
  refine J_S2s 139 (am_d138 rfl) rfl rfl (sp139) ?_
  refine J_if_eq 34 (am_d138 rfl) rfl (fun h5 => (by exfalso; simp [am_bi0, am_bi1, Int32.lt_iff_toInt_lt, Int32.le_iff_toInt_le, ia, ib, iy] at * <;> omega)) (fun h5 => ?_)
  refine J_b 2 am_d138 rfl ?_
  refine J_S2s 139 (am_d138 rfl) rfl rfl (sp139) ?_
  refine J_if_eq 34 (am_d138 rfl) rfl (fun h13 => (by exfalso; simp [am_bi0, am_bi1, Int32.lt_iff_toInt_lt, Int32.le_iff_toInt_le, ia, ib, iy] at * <;> omega)) (fun h13 => ?_)
  refine J_b 2 am_d138 rfl ?_
  refine J_icmp_gt 34 (am_d138 rfl) rfl (fun h18 => (by exfalso; simp [am_bi0, am_bi1, Int32.lt_iff_toInt_lt, Int32.le_iff_toInt_le, ia, ib, iy] at * <;> omega)) (fun h18 => ?_)
  refine J_b 4 am_d138 rfl ?_
  refine J_S3s 140 (am_d138 rfl) rfl rfl (sp140) ?_
  refine J_if_ne 36 (am_d138 rfl) rfl (fun h31 => ?_) (fun h31 => (by exfalso; simp [am_bi0, am_bi1, Int32.lt_iff_toInt_lt, Int32.le_iff_toInt_le, ia, ib, iy] at * <;> omega))
  refine J_b 4 am_d138 rfl ?_
  refine J_S1s 141 (am_d138 rfl) rfl rfl (sp141) ?_
  refine J_b 1 am_d138 rfl ?_
  refine J_S3s 140 (am_d138 rfl) rfl rfl (sp140) ?_
  refine J_if_ne 55 (am_d138 rfl) rfl (fun h49 => (by exfalso; simp [am_bi0, am_bi1, am_mom, Int32.lt_iff_toInt_lt, Int32.le_iff_toInt_le] at * <;> omega)) (fun h49 => ?_)
  refine J_b 1 am_d138 rfl ?_
  exact J_iret (am_d138 rfl) rfl rfl ⟨rfl, rfl, rfl⟩
theorem sp11c_1 {X : am_X} {M : am_M} {N : am_N} {a b y : Nat} {v : Int32} (hb : b < 10) (hy : y < 6) (hab : a ≤ b) (h2 : 0 ≤ v.toInt ∧ v.toInt ≤ 2) : am_J X (am_eq (some (.int (pm (M 4) a y v (b + 1 - a)).2)) (am_up (am_upR M 4 (pm (M 4) a y v (b + 1 - a)).1) 1 11 (M 1 11 + 1)) N) 11 0 (am_en 11 [.ref 0, .int (nI a), .int (nI b), .int (nI y), .int (1 : Int32), .int v]) [] M N := by
  have ia := nI_i (n := a) (by omega)
  have ib := nI_i (n := b) (by omega)
  have iy := nI_i (n := y) (by omega)
  refine J_en (L := [.ref 0, .int (nI a), .int (nI b), .int (nI y), .int (1 : Int32), .int v]) rfl ?_
  refine J_b 2 am_d11 rfl ?_
  refine J_S2s 12 (am_d11 rfl) rfl rfl (sp12) ?_
  refine J_if_eq 30 (am_d11 rfl) rfl (fun h5 => (by exfalso; simp [am_bi0, am_bi1, Int32.lt_iff_toInt_lt, Int32.le_iff_toInt_le, ia, ib, iy] at * <;> omega)) (fun h5 => ?_)
  refine J_b 2 am_d11 rfl ?_
  refine J_S2s 12 (am_d11 rfl) rfl rfl (sp12) ?_
  refine J_if_eq 30 (am_d11 rfl) rfl (fun h13 => (by exfalso; simp [am_bi0, am_bi1, Int32.lt_iff_toInt_lt, Int32.le_iff_toInt_le, ia, ib, iy] at * <;> omega)) (fun h13 => ?_)
  refine J_b 2 am_d11 rfl ?_
  refine J_icmp_gt 30 (am_d11 rfl) rfl (fun h18 => (by exfalso; simp [am_bi0, am_bi1, Int32.lt_iff_toInt_lt, Int32.le_iff_toInt_le, ia, ib, iy] at * <;> omega)) (fun h18 => ?_)
  refine J_b 2 am_d11 rfl ?_
  refine J_S2s 13 (am_d11 rfl) rfl rfl (sp13) ?_
  refine J_if_ne 32 (am_d11 rfl) rfl (fun h27 => ?_) (fun h27 => (by exfalso; simp [am_bi0, am_bi1, Int32.lt_iff_toInt_lt, Int32.le_iff_toInt_le, ia, ib, iy] at * <;> omega))
  refine J_b 2 am_d11 rfl ?_
  refine J_gsM rfl (am_d11 rfl) ?_
  refine J_b 1 am_d11 rfl ?_
  refine J_tM (am_d11 rfl) (am_vi rfl) ?_
  refine J_S3s 14 (am_d11 rfl) rfl rfl (sp14) ?_
  refine J_if_ne 50 (am_d11 rfl) rfl (fun h44 => ?_) (fun h44 => (by exfalso; simp [am_bi0, am_bi1, am_mom, Int32.lt_iff_toInt_lt, Int32.le_iff_toInt_le] at * <;> omega))
  refine J_b 1 am_d11 rfl ?_
  refine J_if_ne 68 (am_d11 rfl) rfl (fun h52 => ?_) (fun h52 => absurd h52 (by decide))
  refine J_b 7 am_d11 rfl ?_
  refine J_V5s 15 (am_d11 rfl) rfl rfl (sp15_1 hb hy hab) ?_
  exact J_iret (am_d11 rfl) rfl rfl ⟨rfl, rfl, rfl⟩
theorem lp138_1 {X : am_X} {M : am_M} {N : am_N} {r : Nat → Int32} {a b y : Nat} {v : Int32} (hb : b < 10) (hy : y < 6) : ∀ (n i : Nat) (x o1 : Int32) (M1 : am_M), i + n = b + 1 - a → a ≤ b → x = nI (a + i) → o1 = (pm r a y v i).2 → M1 = am_upR M 122 (pm r a y v i).1 → am_J X (am_eq (some (.int (pm r a y v (b + 1 - a)).2)) (am_upR M 122 (pm r a y v (b + 1 - a)).1) N) 138 76 [.ref 120, .int (nI a), .int (nI b), .int (nI y), .int (1 : Int32), .int v, .int o1, .int x] [] M1 N := by
  intro n
  induction n with
  | zero =>
    intro i x o1 M1 hn hab ex eo em
    subst em
    have e : i = b + 1 - a := by omega
    subst e
    subst eo
    have hx : nI b < x := by rw [ex]; exact nI_lt (by omega) (by omega)
    refine J_b 2 am_d138 rfl ?_
    refine J_icmp_gt 131 (am_d138 rfl) rfl (fun h79 => ?_) (fun h79 => absurd (hx) h79)
    refine J_b 1 am_d138 rfl ?_
    exact J_iret (am_d138 rfl) rfl rfl ⟨rfl, rfl, rfl⟩
  | succ n ih =>
    intro i x o1 M1 hn hab ex eo em
    subst em
    have hp : (Int8.ofInt 6).toInt32 * x + nI y = nI (6 * (a + i) + y) := pl_nI ex
    have hlt : ¬ nI b < x := by rw [ex]; exact nI_nlt (by omega) (by omega)
    refine J_b 2 am_d138 rfl ?_
    refine J_icmp_gt 131 (am_d138 rfl) rfl (fun h79 => absurd h79 hlt) (fun h79 => ?_)
    refine J_b 7 am_d138 rfl ?_
    rw [hp]
    refine J_b 1 am_d138 rfl ?_
    refine J_V2s 142 (am_d138 rfl) rfl rfl (sp142_1 (by omega)) ?_
    refine J_b 1 am_d138 rfl ?_
    refine J_icmp_eq 106 (am_d138 rfl) rfl (fun h99 => ?_) (fun h99 => ?_)
    · refine J_b 9 am_d138 rfl ?_
      rw [hp]
      refine J_b 1 am_d138 rfl ?_
      refine J_b 1 am_d138 rfl ?_
      refine J_V3n 143 (am_d138 rfl) rfl rfl (sp143_1 (by omega)) ?_
      refine J_b 2 am_d138 rfl ?_
      refine ih (i + 1) _ _ _ (by omega) hab (by rw [ex]; exact nI_1 (a + i)) ?_ ?_
      · show o1 + 0 = (pm r a y v i).2 + (if (pm r a y v i).1 (6 * (a + i) + y) = v then 0 else 1)
        rw [if_pos (show (pm r a y v i).1 (6 * (a + i) + y) = v from h99), eo]
      · rw [upR_up]
        rfl
    · refine J_b 10 am_d138 rfl ?_
      rw [hp]
      refine J_b 1 am_d138 rfl ?_
      refine J_b 1 am_d138 rfl ?_
      refine J_V3n 143 (am_d138 rfl) rfl rfl (sp143_1 (by omega)) ?_
      refine J_b 2 am_d138 rfl ?_
      refine ih (i + 1) _ _ _ (by omega) hab (by rw [ex]; exact nI_1 (a + i)) ?_ ?_
      · show o1 + 1 = (pm r a y v i).2 + (if (pm r a y v i).1 (6 * (a + i) + y) = v then 0 else 1)
        rw [if_neg (show ¬ (pm r a y v i).1 (6 * (a + i) + y) = v from h99), eo]
      · rw [upR_up]
        rfl
theorem sp138c_1 {X : am_X} {M : am_M} {N : am_N} {a b y : Nat} {v : Int32} (hb : b < 10) (hy : y < 6) (hab : a ≤ b) (h2 : 0 ≤ v.toInt ∧ v.toInt ≤ 2) : am_J X (am_eq (some (.int (pm (M 122) a y v (b + 1 - a)).2)) (am_upR M 122 (pm (M 122) a y v (b + 1 - a)).1) N) 138 0 (am_en 138 [.ref 120, .int (nI a), .int (nI b), .int (nI y), .int (1 : Int32), .int v]) [] M N := by
  have ia := nI_i (n := a) (by omega)
  have ib := nI_i (n := b) (by omega)
  have iy := nI_i (n := y) (by omega)
  refine J_en (L := [.ref 120, .int (nI a), .int (nI b), .int (nI y), .int (1 : Int32), .int v, .retAddr 0, .retAddr 0]) rfl ?_
  refine J_b 2 am_d138 rfl ?_
  refine J_S2s 139 (am_d138 rfl) rfl rfl (sp139) ?_
  refine J_if_eq 34 (am_d138 rfl) rfl (fun h5 => (by exfalso; simp [am_bi0, am_bi1, Int32.lt_iff_toInt_lt, Int32.le_iff_toInt_le, ia, ib, iy] at * <;> omega)) (fun h5 => ?_)
  refine J_b 2 am_d138 rfl ?_
  refine J_S2s 139 (am_d138 rfl) rfl rfl (sp139) ?_
  refine J_if_eq 34 (am_d138 rfl) rfl (fun h13 => (by exfalso; simp [am_bi0, am_bi1, Int32.lt_iff_toInt_lt, Int32.le_iff_toInt_le, ia, ib, iy] at * <;> omega)) (fun h13 => ?_)
  refine J_b 2 am_d138 rfl ?_
  refine J_icmp_gt 34 (am_d138 rfl) rfl (fun h18 => (by exfalso; simp [am_bi0, am_bi1, Int32.lt_iff_toInt_lt, Int32.le_iff_toInt_le, ia, ib, iy] at * <;> omega)) (fun h18 => ?_)
  refine J_b 4 am_d138 rfl ?_
  refine J_S3s 140 (am_d138 rfl) rfl rfl (sp140) ?_
  refine J_if_ne 36 (am_d138 rfl) rfl (fun h31 => ?_) (fun h31 => (by exfalso; simp [am_bi0, am_bi1, Int32.lt_iff_toInt_lt, Int32.le_iff_toInt_le, ia, ib, iy] at * <;> omega))
  refine J_b 4 am_d138 rfl ?_
  refine J_S1s 141 (am_d138 rfl) rfl rfl (sp141) ?_
  refine J_b 1 am_d138 rfl ?_
  refine J_S3s 140 (am_d138 rfl) rfl rfl (sp140) ?_
  refine J_if_ne 55 (am_d138 rfl) rfl (fun h49 => ?_) (fun h49 => (by exfalso; simp [am_bi0, am_bi1, am_mom, Int32.lt_iff_toInt_lt, Int32.le_iff_toInt_le] at * <;> omega))
  refine J_b 1 am_d138 rfl ?_
  refine J_if_ne 70 (am_d138 rfl) rfl (fun h57 => ?_) (fun h57 => absurd h57 (by decide))
  refine J_b 4 am_d138 rfl ?_
  exact lp138_1 hb hy (b + 1 - a) 0 _ _ _ (by omega) hab rfl rfl upR_id.symm
theorem sp17c_1 {X : am_X} {M : am_M} {N : am_N} {a y : Nat} (ha : a < 10) (hy : y < 6) : am_J X (am_eq (some (.int (M 4 (6 * a + y)))) (M) N) 17 0 (am_en 17 [.ref 0, .int (nI a), .int (nI y), .int (1 : Int32)]) [] M N := by
  have ia := nI_i (n := a) (by omega)
  have iy := nI_i (n := y) (by omega)
  have hp := pl_nI (y := y) (rfl : nI a = nI a)
  have hp8 : (Int8.ofInt 6).toInt32 * nI a + nI y = nI (6 * a + y) := hp
  refine J_en (L := [.ref 0, .int (nI a), .int (nI y), .int (1 : Int32)]) rfl ?_
  refine J_b 2 am_d17 rfl ?_
  refine J_S2s 12 (am_d17 rfl) rfl rfl (sp12) ?_
  refine J_if_eq 16 (am_d17 rfl) rfl (fun h5 => (by exfalso; simp [am_bi0, am_bi1, ia, iy] at * <;> omega)) (fun h5 => ?_)
  refine J_b 2 am_d17 rfl ?_
  refine J_S2s 13 (am_d17 rfl) rfl rfl (sp13) ?_
  refine J_if_ne 18 (am_d17 rfl) rfl (fun h13 => ?_) (fun h13 => (by exfalso; simp [am_bi0, am_bi1, ia, iy] at * <;> omega))
  refine J_b 4 am_d17 rfl ?_
  refine J_aaldk 4 (am_d17 rfl) rfl (am_vi rfl) rfl ?_
  refine J_b 2 am_d17 rfl ?_
  refine J_S2s 16 (am_d17 rfl) rfl rfl (sp16) ?_
  rw [hp]
  refine J_iald (am_d17 rfl) rfl (vp_in_nI (by omega) (by decide)) ?_
  exact J_iret (am_d17 rfl) rfl rfl ⟨by rw [nI_c (by omega)], rfl, rfl⟩
theorem sp144c_1 {X : am_X} {M : am_M} {N : am_N} {a y : Nat} (ha : a < 10) (hy : y < 6) : am_J X (am_eq (some (.int (M 122 (6 * a + y)))) (M) N) 144 0 (am_en 144 [.ref 120, .int (nI a), .int (nI y), .int (1 : Int32)]) [] M N := by
  have ia := nI_i (n := a) (by omega)
  have iy := nI_i (n := y) (by omega)
  have hp := pl_nI (y := y) (rfl : nI a = nI a)
  have hp8 : (Int8.ofInt 6).toInt32 * nI a + nI y = nI (6 * a + y) := hp
  refine J_en (L := [.ref 120, .int (nI a), .int (nI y), .int (1 : Int32)]) rfl ?_
  refine J_b 2 am_d144 rfl ?_
  refine J_S2s 139 (am_d144 rfl) rfl rfl (sp139) ?_
  refine J_if_eq 34 (am_d144 rfl) rfl (fun h5 => (by exfalso; simp [am_bi0, am_bi1, ia, iy] at * <;> omega)) (fun h5 => ?_)
  refine J_b 4 am_d144 rfl ?_
  refine J_S3s 140 (am_d144 rfl) rfl rfl (sp140) ?_
  refine J_if_eq 34 (am_d144 rfl) rfl (fun h17 => (by exfalso; simp [am_bi0, am_bi1, ia, iy] at * <;> omega)) (fun h17 => ?_)
  refine J_b 6 am_d144 rfl ?_
  rw [hp8]
  refine J_b 1 am_d144 rfl ?_
  refine J_V2s 142 (am_d144 rfl) rfl rfl (sp142_1 (by omega)) ?_
  refine J_b 1 am_d144 rfl ?_
  exact J_iret (am_d144 rfl) rfl rfl ⟨rfl, rfl, rfl⟩
theorem sp11b_2 {X : am_X} {M : am_M} {N : am_N} {a b y : Nat} {v : Int32} (hb : b < 10) (hy : y < 6) (hab : a ≤ b) (h2 : ¬ (0 ≤ v.toInt ∧ v.toInt ≤ 16)) : am_J X (am_eq (some (.int (-2))) (M) N) 11 0 (am_en 11 [.ref 0, .int (nI a), .int (nI b), .int (nI y), .int (2 : Int32), .int v]) [] M N := by
  have ia := nI_i (n := a) (by omega)
  have ib := nI_i (n := b) (by omega)
  have iy := nI_i (n := y) (by omega)
  refine J_en (L := [.ref 0, .int (nI a), .int (nI b), .int (nI y), .int (2 : Int32), .int v]) rfl ?_
  refine J_b 2 am_d11 rfl ?_
  refine J_S2s 12 (am_d11 rfl) rfl rfl (sp12) ?_
  refine J_if_eq 30 (am_d11 rfl) rfl (fun h5 => (by exfalso; simp [am_bi0, am_bi1, Int32.lt_iff_toInt_lt, Int32.le_iff_toInt_le, ia, ib, iy] at * <;> omega)) (fun h5 => ?_)
  refine J_b 2 am_d11 rfl ?_
  refine J_S2s 12 (am_d11 rfl) rfl rfl (sp12) ?_
  refine J_if_eq 30 (am_d11 rfl) rfl (fun h13 => (by exfalso; simp [am_bi0, am_bi1, Int32.lt_iff_toInt_lt, Int32.le_iff_toInt_le, ia, ib, iy] at * <;> omega)) (fun h13 => ?_)
  refine J_b 2 am_d11 rfl ?_
  refine J_icmp_gt 30 (am_d11 rfl) rfl (fun h18 => (by exfalso; simp [am_bi0, am_bi1, Int32.lt_iff_toInt_lt, Int32.le_iff_toInt_le, ia, ib, iy] at * <;> omega)) (fun h18 => ?_)
  refine J_b 2 am_d11 rfl ?_
  refine J_S2s 13 (am_d11 rfl) rfl rfl (sp13) ?_
  refine J_if_ne 32 (am_d11 rfl) rfl (fun h27 => ?_) (fun h27 => (by exfalso; simp [am_bi0, am_bi1, Int32.lt_iff_toInt_lt, Int32.le_iff_toInt_le, ia, ib, iy] at * <;> omega))
  refine J_b 2 am_d11 rfl ?_
  refine J_gsM rfl (am_d11 rfl) ?_
  refine J_b 1 am_d11 rfl ?_
  refine J_tM (am_d11 rfl) (am_vi rfl) ?_
  refine J_S3s 14 (am_d11 rfl) rfl rfl (sp14) ?_
  refine J_if_ne 50 (am_d11 rfl) rfl (fun h44 => (by exfalso; simp [am_bi0, am_bi1, am_mom, Int32.lt_iff_toInt_lt, Int32.le_iff_toInt_le] at * <;> omega)) (fun h44 => ?_)
  refine J_b 1 am_d11 rfl ?_
  exact J_iret (am_d11 rfl) rfl rfl ⟨rfl, rfl, rfl⟩
theorem sp138b_2 {X : am_X} {M : am_M} {N : am_N} {a b y : Nat} {v : Int32} (hb : b < 10) (hy : y < 6) (hab : a ≤ b) (h2 : ¬ (0 ≤ v.toInt ∧ v.toInt ≤ 16)) : am_J X (am_eq (some (.int (-2))) (M) N) 138 0 (am_en 138 [.ref 120, .int (nI a), .int (nI b), .int (nI y), .int (2 : Int32), .int v]) [] M N := by
  have ia := nI_i (n := a) (by omega)
  have ib := nI_i (n := b) (by omega)
  have iy := nI_i (n := y) (by omega)
  refine J_en (L := [.ref 120, .int (nI a), .int (nI b), .int (nI y), .int (2 : Int32), .int v, .retAddr 0, .retAddr 0]) rfl ?_
  refine J_b 2 am_d138 rfl ?_
  refine J_S2s 139 (am_d138 rfl) rfl rfl (sp139) ?_
  refine J_if_eq 34 (am_d138 rfl) rfl (fun h5 => (by exfalso; simp [am_bi0, am_bi1, Int32.lt_iff_toInt_lt, Int32.le_iff_toInt_le, ia, ib, iy] at * <;> omega)) (fun h5 => ?_)
  refine J_b 2 am_d138 rfl ?_
  refine J_S2s 139 (am_d138 rfl) rfl rfl (sp139) ?_
  refine J_if_eq 34 (am_d138 rfl) rfl (fun h13 => (by exfalso; simp [am_bi0, am_bi1, Int32.lt_iff_toInt_lt, Int32.le_iff_toInt_le, ia, ib, iy] at * <;> omega)) (fun h13 => ?_)
  refine J_b 2 am_d138 rfl ?_
  refine J_icmp_gt 34 (am_d138 rfl) rfl (fun h18 => (by exfalso; simp [am_bi0, am_bi1, Int32.lt_iff_toInt_lt, Int32.le_iff_toInt_le, ia, ib, iy] at * <;> omega)) (fun h18 => ?_)
  refine J_b 4 am_d138 rfl ?_
  refine J_S3s 140 (am_d138 rfl) rfl rfl (sp140) ?_
  refine J_if_ne 36 (am_d138 rfl) rfl (fun h31 => ?_) (fun h31 => (by exfalso; simp [am_bi0, am_bi1, Int32.lt_iff_toInt_lt, Int32.le_iff_toInt_le, ia, ib, iy] at * <;> omega))
  refine J_b 4 am_d138 rfl ?_
  refine J_S1s 141 (am_d138 rfl) rfl rfl (sp141) ?_
  refine J_b 1 am_d138 rfl ?_
  refine J_S3s 140 (am_d138 rfl) rfl rfl (sp140) ?_
  refine J_if_ne 55 (am_d138 rfl) rfl (fun h49 => (by exfalso; simp [am_bi0, am_bi1, am_mom, Int32.lt_iff_toInt_lt, Int32.le_iff_toInt_le] at * <;> omega)) (fun h49 => ?_)
  refine J_b 1 am_d138 rfl ?_
  exact J_iret (am_d138 rfl) rfl rfl ⟨rfl, rfl, rfl⟩
theorem sp11c_2 {X : am_X} {M : am_M} {N : am_N} {a b y : Nat} {v : Int32} (hb : b < 10) (hy : y < 6) (hab : a ≤ b) (h2 : 0 ≤ v.toInt ∧ v.toInt ≤ 16) : am_J X (am_eq (some (.int (pm (M 5) a y v (b + 1 - a)).2)) (am_up (am_upR M 5 (pm (M 5) a y v (b + 1 - a)).1) 1 11 (M 1 11 + 1)) N) 11 0 (am_en 11 [.ref 0, .int (nI a), .int (nI b), .int (nI y), .int (2 : Int32), .int v]) [] M N := by
  have ia := nI_i (n := a) (by omega)
  have ib := nI_i (n := b) (by omega)
  have iy := nI_i (n := y) (by omega)
  refine J_en (L := [.ref 0, .int (nI a), .int (nI b), .int (nI y), .int (2 : Int32), .int v]) rfl ?_
  refine J_b 2 am_d11 rfl ?_
  refine J_S2s 12 (am_d11 rfl) rfl rfl (sp12) ?_
  refine J_if_eq 30 (am_d11 rfl) rfl (fun h5 => (by exfalso; simp [am_bi0, am_bi1, Int32.lt_iff_toInt_lt, Int32.le_iff_toInt_le, ia, ib, iy] at * <;> omega)) (fun h5 => ?_)
  refine J_b 2 am_d11 rfl ?_
  refine J_S2s 12 (am_d11 rfl) rfl rfl (sp12) ?_
  refine J_if_eq 30 (am_d11 rfl) rfl (fun h13 => (by exfalso; simp [am_bi0, am_bi1, Int32.lt_iff_toInt_lt, Int32.le_iff_toInt_le, ia, ib, iy] at * <;> omega)) (fun h13 => ?_)
  refine J_b 2 am_d11 rfl ?_
  refine J_icmp_gt 30 (am_d11 rfl) rfl (fun h18 => (by exfalso; simp [am_bi0, am_bi1, Int32.lt_iff_toInt_lt, Int32.le_iff_toInt_le, ia, ib, iy] at * <;> omega)) (fun h18 => ?_)
  refine J_b 2 am_d11 rfl ?_
  refine J_S2s 13 (am_d11 rfl) rfl rfl (sp13) ?_
  refine J_if_ne 32 (am_d11 rfl) rfl (fun h27 => ?_) (fun h27 => (by exfalso; simp [am_bi0, am_bi1, Int32.lt_iff_toInt_lt, Int32.le_iff_toInt_le, ia, ib, iy] at * <;> omega))
  refine J_b 2 am_d11 rfl ?_
  refine J_gsM rfl (am_d11 rfl) ?_
  refine J_b 1 am_d11 rfl ?_
  refine J_tM (am_d11 rfl) (am_vi rfl) ?_
  refine J_S3s 14 (am_d11 rfl) rfl rfl (sp14) ?_
  refine J_if_ne 50 (am_d11 rfl) rfl (fun h44 => ?_) (fun h44 => (by exfalso; simp [am_bi0, am_bi1, am_mom, Int32.lt_iff_toInt_lt, Int32.le_iff_toInt_le] at * <;> omega))
  refine J_b 1 am_d11 rfl ?_
  refine J_if_ne 68 (am_d11 rfl) rfl (fun h52 => ?_) (fun h52 => absurd h52 (by decide))
  refine J_b 7 am_d11 rfl ?_
  refine J_V5s 15 (am_d11 rfl) rfl rfl (sp15_2 hb hy hab) ?_
  exact J_iret (am_d11 rfl) rfl rfl ⟨rfl, rfl, rfl⟩
theorem lp138_2 {X : am_X} {M : am_M} {N : am_N} {r : Nat → Int32} {a b y : Nat} {v : Int32} (hb : b < 10) (hy : y < 6) : ∀ (n i : Nat) (x o1 : Int32) (M1 : am_M), i + n = b + 1 - a → a ≤ b → x = nI (a + i) → o1 = (pm r a y v i).2 → M1 = am_upR M 123 (pm r a y v i).1 → am_J X (am_eq (some (.int (pm r a y v (b + 1 - a)).2)) (am_upR M 123 (pm r a y v (b + 1 - a)).1) N) 138 76 [.ref 120, .int (nI a), .int (nI b), .int (nI y), .int (2 : Int32), .int v, .int o1, .int x] [] M1 N := by
  intro n
  induction n with
  | zero =>
    intro i x o1 M1 hn hab ex eo em
    subst em
    have e : i = b + 1 - a := by omega
    subst e
    subst eo
    have hx : nI b < x := by rw [ex]; exact nI_lt (by omega) (by omega)
    refine J_b 2 am_d138 rfl ?_
    refine J_icmp_gt 131 (am_d138 rfl) rfl (fun h79 => ?_) (fun h79 => absurd (hx) h79)
    refine J_b 1 am_d138 rfl ?_
    exact J_iret (am_d138 rfl) rfl rfl ⟨rfl, rfl, rfl⟩
  | succ n ih =>
    intro i x o1 M1 hn hab ex eo em
    subst em
    have hp : (Int8.ofInt 6).toInt32 * x + nI y = nI (6 * (a + i) + y) := pl_nI ex
    have hlt : ¬ nI b < x := by rw [ex]; exact nI_nlt (by omega) (by omega)
    refine J_b 2 am_d138 rfl ?_
    refine J_icmp_gt 131 (am_d138 rfl) rfl (fun h79 => absurd h79 hlt) (fun h79 => ?_)
    refine J_b 7 am_d138 rfl ?_
    rw [hp]
    refine J_b 1 am_d138 rfl ?_
    refine J_V2s 142 (am_d138 rfl) rfl rfl (sp142_2 (by omega)) ?_
    refine J_b 1 am_d138 rfl ?_
    refine J_icmp_eq 106 (am_d138 rfl) rfl (fun h99 => ?_) (fun h99 => ?_)
    · refine J_b 9 am_d138 rfl ?_
      rw [hp]
      refine J_b 1 am_d138 rfl ?_
      refine J_b 1 am_d138 rfl ?_
      refine J_V3n 143 (am_d138 rfl) rfl rfl (sp143_2 (by omega)) ?_
      refine J_b 2 am_d138 rfl ?_
      refine ih (i + 1) _ _ _ (by omega) hab (by rw [ex]; exact nI_1 (a + i)) ?_ ?_
      · show o1 + 0 = (pm r a y v i).2 + (if (pm r a y v i).1 (6 * (a + i) + y) = v then 0 else 1)
        rw [if_pos (show (pm r a y v i).1 (6 * (a + i) + y) = v from h99), eo]
      · rw [upR_up]
        rfl
    · refine J_b 10 am_d138 rfl ?_
      rw [hp]
      refine J_b 1 am_d138 rfl ?_
      refine J_b 1 am_d138 rfl ?_
      refine J_V3n 143 (am_d138 rfl) rfl rfl (sp143_2 (by omega)) ?_
      refine J_b 2 am_d138 rfl ?_
      refine ih (i + 1) _ _ _ (by omega) hab (by rw [ex]; exact nI_1 (a + i)) ?_ ?_
      · show o1 + 1 = (pm r a y v i).2 + (if (pm r a y v i).1 (6 * (a + i) + y) = v then 0 else 1)
        rw [if_neg (show ¬ (pm r a y v i).1 (6 * (a + i) + y) = v from h99), eo]
      · rw [upR_up]
        rfl
theorem sp138c_2 {X : am_X} {M : am_M} {N : am_N} {a b y : Nat} {v : Int32} (hb : b < 10) (hy : y < 6) (hab : a ≤ b) (h2 : 0 ≤ v.toInt ∧ v.toInt ≤ 16) : am_J X (am_eq (some (.int (pm (M 123) a y v (b + 1 - a)).2)) (am_upR M 123 (pm (M 123) a y v (b + 1 - a)).1) N) 138 0 (am_en 138 [.ref 120, .int (nI a), .int (nI b), .int (nI y), .int (2 : Int32), .int v]) [] M N := by
  have ia := nI_i (n := a) (by omega)
  have ib := nI_i (n := b) (by omega)
  have iy := nI_i (n := y) (by omega)
  refine J_en (L := [.ref 120, .int (nI a), .int (nI b), .int (nI y), .int (2 : Int32), .int v, .retAddr 0, .retAddr 0]) rfl ?_
  refine J_b 2 am_d138 rfl ?_
  refine J_S2s 139 (am_d138 rfl) rfl rfl (sp139) ?_
  refine J_if_eq 34 (am_d138 rfl) rfl (fun h5 => (by exfalso; simp [am_bi0, am_bi1, Int32.lt_iff_toInt_lt, Int32.le_iff_toInt_le, ia, ib, iy] at * <;> omega)) (fun h5 => ?_)
  refine J_b 2 am_d138 rfl ?_
  refine J_S2s 139 (am_d138 rfl) rfl rfl (sp139) ?_
  refine J_if_eq 34 (am_d138 rfl) rfl (fun h13 => (by exfalso; simp [am_bi0, am_bi1, Int32.lt_iff_toInt_lt, Int32.le_iff_toInt_le, ia, ib, iy] at * <;> omega)) (fun h13 => ?_)
  refine J_b 2 am_d138 rfl ?_
  refine J_icmp_gt 34 (am_d138 rfl) rfl (fun h18 => (by exfalso; simp [am_bi0, am_bi1, Int32.lt_iff_toInt_lt, Int32.le_iff_toInt_le, ia, ib, iy] at * <;> omega)) (fun h18 => ?_)
  refine J_b 4 am_d138 rfl ?_
  refine J_S3s 140 (am_d138 rfl) rfl rfl (sp140) ?_
  refine J_if_ne 36 (am_d138 rfl) rfl (fun h31 => ?_) (fun h31 => (by exfalso; simp [am_bi0, am_bi1, Int32.lt_iff_toInt_lt, Int32.le_iff_toInt_le, ia, ib, iy] at * <;> omega))
  refine J_b 4 am_d138 rfl ?_
  refine J_S1s 141 (am_d138 rfl) rfl rfl (sp141) ?_
  refine J_b 1 am_d138 rfl ?_
  refine J_S3s 140 (am_d138 rfl) rfl rfl (sp140) ?_
  refine J_if_ne 55 (am_d138 rfl) rfl (fun h49 => ?_) (fun h49 => (by exfalso; simp [am_bi0, am_bi1, am_mom, Int32.lt_iff_toInt_lt, Int32.le_iff_toInt_le] at * <;> omega))
  refine J_b 1 am_d138 rfl ?_
  refine J_if_ne 70 (am_d138 rfl) rfl (fun h57 => ?_) (fun h57 => absurd h57 (by decide))
  refine J_b 4 am_d138 rfl ?_
  exact lp138_2 hb hy (b + 1 - a) 0 _ _ _ (by omega) hab rfl rfl upR_id.symm
theorem sp17c_2 {X : am_X} {M : am_M} {N : am_N} {a y : Nat} (ha : a < 10) (hy : y < 6) : am_J X (am_eq (some (.int (M 5 (6 * a + y)))) (M) N) 17 0 (am_en 17 [.ref 0, .int (nI a), .int (nI y), .int (2 : Int32)]) [] M N := by
  have ia := nI_i (n := a) (by omega)
  have iy := nI_i (n := y) (by omega)
  have hp := pl_nI (y := y) (rfl : nI a = nI a)
  have hp8 : (Int8.ofInt 6).toInt32 * nI a + nI y = nI (6 * a + y) := hp
  refine J_en (L := [.ref 0, .int (nI a), .int (nI y), .int (2 : Int32)]) rfl ?_
  refine J_b 2 am_d17 rfl ?_
  refine J_S2s 12 (am_d17 rfl) rfl rfl (sp12) ?_
  refine J_if_eq 16 (am_d17 rfl) rfl (fun h5 => (by exfalso; simp [am_bi0, am_bi1, ia, iy] at * <;> omega)) (fun h5 => ?_)
  refine J_b 2 am_d17 rfl ?_
  refine J_S2s 13 (am_d17 rfl) rfl rfl (sp13) ?_
  refine J_if_ne 18 (am_d17 rfl) rfl (fun h13 => ?_) (fun h13 => (by exfalso; simp [am_bi0, am_bi1, ia, iy] at * <;> omega))
  refine J_b 4 am_d17 rfl ?_
  refine J_aaldk 5 (am_d17 rfl) rfl (am_vi rfl) rfl ?_
  refine J_b 2 am_d17 rfl ?_
  refine J_S2s 16 (am_d17 rfl) rfl rfl (sp16) ?_
  rw [hp]
  refine J_iald (am_d17 rfl) rfl (vp_in_nI (by omega) (by decide)) ?_
  exact J_iret (am_d17 rfl) rfl rfl ⟨by rw [nI_c (by omega)], rfl, rfl⟩
theorem sp144c_2 {X : am_X} {M : am_M} {N : am_N} {a y : Nat} (ha : a < 10) (hy : y < 6) : am_J X (am_eq (some (.int (M 123 (6 * a + y)))) (M) N) 144 0 (am_en 144 [.ref 120, .int (nI a), .int (nI y), .int (2 : Int32)]) [] M N := by
  have ia := nI_i (n := a) (by omega)
  have iy := nI_i (n := y) (by omega)
  have hp := pl_nI (y := y) (rfl : nI a = nI a)
  have hp8 : (Int8.ofInt 6).toInt32 * nI a + nI y = nI (6 * a + y) := hp
  refine J_en (L := [.ref 120, .int (nI a), .int (nI y), .int (2 : Int32)]) rfl ?_
  refine J_b 2 am_d144 rfl ?_
  refine J_S2s 139 (am_d144 rfl) rfl rfl (sp139) ?_
  refine J_if_eq 34 (am_d144 rfl) rfl (fun h5 => (by exfalso; simp [am_bi0, am_bi1, ia, iy] at * <;> omega)) (fun h5 => ?_)
  refine J_b 4 am_d144 rfl ?_
  refine J_S3s 140 (am_d144 rfl) rfl rfl (sp140) ?_
  refine J_if_eq 34 (am_d144 rfl) rfl (fun h17 => (by exfalso; simp [am_bi0, am_bi1, ia, iy] at * <;> omega)) (fun h17 => ?_)
  refine J_b 6 am_d144 rfl ?_
  rw [hp8]
  refine J_b 1 am_d144 rfl ?_
  refine J_V2s 142 (am_d144 rfl) rfl rfl (sp142_2 (by omega)) ?_
  refine J_b 1 am_d144 rfl ?_
  exact J_iret (am_d144 rfl) rfl rfl ⟨rfl, rfl, rfl⟩
theorem sp11b_3 {X : am_X} {M : am_M} {N : am_N} {a b y : Nat} {v : Int32} (hb : b < 10) (hy : y < 6) (hab : a ≤ b) (h2 : ¬ (0 ≤ v.toInt ∧ v.toInt ≤ 16)) : am_J X (am_eq (some (.int (-2))) (M) N) 11 0 (am_en 11 [.ref 0, .int (nI a), .int (nI b), .int (nI y), .int (3 : Int32), .int v]) [] M N := by
  have ia := nI_i (n := a) (by omega)
  have ib := nI_i (n := b) (by omega)
  have iy := nI_i (n := y) (by omega)
  refine J_en (L := [.ref 0, .int (nI a), .int (nI b), .int (nI y), .int (3 : Int32), .int v]) rfl ?_
  refine J_b 2 am_d11 rfl ?_
  refine J_S2s 12 (am_d11 rfl) rfl rfl (sp12) ?_
  refine J_if_eq 30 (am_d11 rfl) rfl (fun h5 => (by exfalso; simp [am_bi0, am_bi1, Int32.lt_iff_toInt_lt, Int32.le_iff_toInt_le, ia, ib, iy] at * <;> omega)) (fun h5 => ?_)
  refine J_b 2 am_d11 rfl ?_
  refine J_S2s 12 (am_d11 rfl) rfl rfl (sp12) ?_
  refine J_if_eq 30 (am_d11 rfl) rfl (fun h13 => (by exfalso; simp [am_bi0, am_bi1, Int32.lt_iff_toInt_lt, Int32.le_iff_toInt_le, ia, ib, iy] at * <;> omega)) (fun h13 => ?_)
  refine J_b 2 am_d11 rfl ?_
  refine J_icmp_gt 30 (am_d11 rfl) rfl (fun h18 => (by exfalso; simp [am_bi0, am_bi1, Int32.lt_iff_toInt_lt, Int32.le_iff_toInt_le, ia, ib, iy] at * <;> omega)) (fun h18 => ?_)
  refine J_b 2 am_d11 rfl ?_
  refine J_S2s 13 (am_d11 rfl) rfl rfl (sp13) ?_
  refine J_if_ne 32 (am_d11 rfl) rfl (fun h27 => ?_) (fun h27 => (by exfalso; simp [am_bi0, am_bi1, Int32.lt_iff_toInt_lt, Int32.le_iff_toInt_le, ia, ib, iy] at * <;> omega))
  refine J_b 2 am_d11 rfl ?_
  refine J_gsM rfl (am_d11 rfl) ?_
  refine J_b 1 am_d11 rfl ?_
  refine J_tM (am_d11 rfl) (am_vi rfl) ?_
  refine J_S3s 14 (am_d11 rfl) rfl rfl (sp14) ?_
  refine J_if_ne 50 (am_d11 rfl) rfl (fun h44 => (by exfalso; simp [am_bi0, am_bi1, am_mom, Int32.lt_iff_toInt_lt, Int32.le_iff_toInt_le] at * <;> omega)) (fun h44 => ?_)
  refine J_b 1 am_d11 rfl ?_
  exact J_iret (am_d11 rfl) rfl rfl ⟨rfl, rfl, rfl⟩
theorem sp138b_3 {X : am_X} {M : am_M} {N : am_N} {a b y : Nat} {v : Int32} (hb : b < 10) (hy : y < 6) (hab : a ≤ b) (h2 : ¬ (0 ≤ v.toInt ∧ v.toInt ≤ 16)) : am_J X (am_eq (some (.int (-2))) (M) N) 138 0 (am_en 138 [.ref 120, .int (nI a), .int (nI b), .int (nI y), .int (3 : Int32), .int v]) [] M N := by
  have ia := nI_i (n := a) (by omega)
  have ib := nI_i (n := b) (by omega)
  have iy := nI_i (n := y) (by omega)
  refine J_en (L := [.ref 120, .int (nI a), .int (nI b), .int (nI y), .int (3 : Int32), .int v, .retAddr 0, .retAddr 0]) rfl ?_
  refine J_b 2 am_d138 rfl ?_
  refine J_S2s 139 (am_d138 rfl) rfl rfl (sp139) ?_
  refine J_if_eq 34 (am_d138 rfl) rfl (fun h5 => (by exfalso; simp [am_bi0, am_bi1, Int32.lt_iff_toInt_lt, Int32.le_iff_toInt_le, ia, ib, iy] at * <;> omega)) (fun h5 => ?_)
  refine J_b 2 am_d138 rfl ?_
  refine J_S2s 139 (am_d138 rfl) rfl rfl (sp139) ?_
  refine J_if_eq 34 (am_d138 rfl) rfl (fun h13 => (by exfalso; simp [am_bi0, am_bi1, Int32.lt_iff_toInt_lt, Int32.le_iff_toInt_le, ia, ib, iy] at * <;> omega)) (fun h13 => ?_)
  refine J_b 2 am_d138 rfl ?_
  refine J_icmp_gt 34 (am_d138 rfl) rfl (fun h18 => (by exfalso; simp [am_bi0, am_bi1, Int32.lt_iff_toInt_lt, Int32.le_iff_toInt_le, ia, ib, iy] at * <;> omega)) (fun h18 => ?_)
  refine J_b 4 am_d138 rfl ?_
  refine J_S3s 140 (am_d138 rfl) rfl rfl (sp140) ?_
  refine J_if_ne 36 (am_d138 rfl) rfl (fun h31 => ?_) (fun h31 => (by exfalso; simp [am_bi0, am_bi1, Int32.lt_iff_toInt_lt, Int32.le_iff_toInt_le, ia, ib, iy] at * <;> omega))
  refine J_b 4 am_d138 rfl ?_
  refine J_S1s 141 (am_d138 rfl) rfl rfl (sp141) ?_
  refine J_b 1 am_d138 rfl ?_
  refine J_S3s 140 (am_d138 rfl) rfl rfl (sp140) ?_
  refine J_if_ne 55 (am_d138 rfl) rfl (fun h49 => (by exfalso; simp [am_bi0, am_bi1, am_mom, Int32.lt_iff_toInt_lt, Int32.le_iff_toInt_le] at * <;> omega)) (fun h49 => ?_)
  refine J_b 1 am_d138 rfl ?_
  exact J_iret (am_d138 rfl) rfl rfl ⟨rfl, rfl, rfl⟩
theorem sp11c_3 {X : am_X} {M : am_M} {N : am_N} {a b y : Nat} {v : Int32} (hb : b < 10) (hy : y < 6) (hab : a ≤ b) (h2 : 0 ≤ v.toInt ∧ v.toInt ≤ 16) : am_J X (am_eq (some (.int (pm (M 6) a y v (b + 1 - a)).2)) (am_up (am_upR M 6 (pm (M 6) a y v (b + 1 - a)).1) 1 11 (M 1 11 + 1)) N) 11 0 (am_en 11 [.ref 0, .int (nI a), .int (nI b), .int (nI y), .int (3 : Int32), .int v]) [] M N := by
  have ia := nI_i (n := a) (by omega)
  have ib := nI_i (n := b) (by omega)
  have iy := nI_i (n := y) (by omega)
  refine J_en (L := [.ref 0, .int (nI a), .int (nI b), .int (nI y), .int (3 : Int32), .int v]) rfl ?_
  refine J_b 2 am_d11 rfl ?_
  refine J_S2s 12 (am_d11 rfl) rfl rfl (sp12) ?_
  refine J_if_eq 30 (am_d11 rfl) rfl (fun h5 => (by exfalso; simp [am_bi0, am_bi1, Int32.lt_iff_toInt_lt, Int32.le_iff_toInt_le, ia, ib, iy] at * <;> omega)) (fun h5 => ?_)
  refine J_b 2 am_d11 rfl ?_
  refine J_S2s 12 (am_d11 rfl) rfl rfl (sp12) ?_
  refine J_if_eq 30 (am_d11 rfl) rfl (fun h13 => (by exfalso; simp [am_bi0, am_bi1, Int32.lt_iff_toInt_lt, Int32.le_iff_toInt_le, ia, ib, iy] at * <;> omega)) (fun h13 => ?_)
  refine J_b 2 am_d11 rfl ?_
  refine J_icmp_gt 30 (am_d11 rfl) rfl (fun h18 => (by exfalso; simp [am_bi0, am_bi1, Int32.lt_iff_toInt_lt, Int32.le_iff_toInt_le, ia, ib, iy] at * <;> omega)) (fun h18 => ?_)
  refine J_b 2 am_d11 rfl ?_
  refine J_S2s 13 (am_d11 rfl) rfl rfl (sp13) ?_
  refine J_if_ne 32 (am_d11 rfl) rfl (fun h27 => ?_) (fun h27 => (by exfalso; simp [am_bi0, am_bi1, Int32.lt_iff_toInt_lt, Int32.le_iff_toInt_le, ia, ib, iy] at * <;> omega))
  refine J_b 2 am_d11 rfl ?_
  refine J_gsM rfl (am_d11 rfl) ?_
  refine J_b 1 am_d11 rfl ?_
  refine J_tM (am_d11 rfl) (am_vi rfl) ?_
  refine J_S3s 14 (am_d11 rfl) rfl rfl (sp14) ?_
  refine J_if_ne 50 (am_d11 rfl) rfl (fun h44 => ?_) (fun h44 => (by exfalso; simp [am_bi0, am_bi1, am_mom, Int32.lt_iff_toInt_lt, Int32.le_iff_toInt_le] at * <;> omega))
  refine J_b 1 am_d11 rfl ?_
  refine J_if_ne 68 (am_d11 rfl) rfl (fun h52 => ?_) (fun h52 => absurd h52 (by decide))
  refine J_b 7 am_d11 rfl ?_
  refine J_V5s 15 (am_d11 rfl) rfl rfl (sp15_3 hb hy hab) ?_
  exact J_iret (am_d11 rfl) rfl rfl ⟨rfl, rfl, rfl⟩
theorem lp138_3 {X : am_X} {M : am_M} {N : am_N} {r : Nat → Int32} {a b y : Nat} {v : Int32} (hb : b < 10) (hy : y < 6) : ∀ (n i : Nat) (x o1 : Int32) (M1 : am_M), i + n = b + 1 - a → a ≤ b → x = nI (a + i) → o1 = (pm r a y v i).2 → M1 = am_upR M 124 (pm r a y v i).1 → am_J X (am_eq (some (.int (pm r a y v (b + 1 - a)).2)) (am_upR M 124 (pm r a y v (b + 1 - a)).1) N) 138 76 [.ref 120, .int (nI a), .int (nI b), .int (nI y), .int (3 : Int32), .int v, .int o1, .int x] [] M1 N := by
  intro n
  induction n with
  | zero =>
    intro i x o1 M1 hn hab ex eo em
    subst em
    have e : i = b + 1 - a := by omega
    subst e
    subst eo
    have hx : nI b < x := by rw [ex]; exact nI_lt (by omega) (by omega)
    refine J_b 2 am_d138 rfl ?_
    refine J_icmp_gt 131 (am_d138 rfl) rfl (fun h79 => ?_) (fun h79 => absurd (hx) h79)
    refine J_b 1 am_d138 rfl ?_
    exact J_iret (am_d138 rfl) rfl rfl ⟨rfl, rfl, rfl⟩
  | succ n ih =>
    intro i x o1 M1 hn hab ex eo em
    subst em
    have hp : (Int8.ofInt 6).toInt32 * x + nI y = nI (6 * (a + i) + y) := pl_nI ex
    have hlt : ¬ nI b < x := by rw [ex]; exact nI_nlt (by omega) (by omega)
    refine J_b 2 am_d138 rfl ?_
    refine J_icmp_gt 131 (am_d138 rfl) rfl (fun h79 => absurd h79 hlt) (fun h79 => ?_)
    refine J_b 7 am_d138 rfl ?_
    rw [hp]
    refine J_b 1 am_d138 rfl ?_
    refine J_V2s 142 (am_d138 rfl) rfl rfl (sp142_3 (by omega)) ?_
    refine J_b 1 am_d138 rfl ?_
    refine J_icmp_eq 106 (am_d138 rfl) rfl (fun h99 => ?_) (fun h99 => ?_)
    · refine J_b 9 am_d138 rfl ?_
      rw [hp]
      refine J_b 1 am_d138 rfl ?_
      refine J_b 1 am_d138 rfl ?_
      refine J_V3n 143 (am_d138 rfl) rfl rfl (sp143_3 (by omega)) ?_
      refine J_b 2 am_d138 rfl ?_
      refine ih (i + 1) _ _ _ (by omega) hab (by rw [ex]; exact nI_1 (a + i)) ?_ ?_
      · show o1 + 0 = (pm r a y v i).2 + (if (pm r a y v i).1 (6 * (a + i) + y) = v then 0 else 1)
        rw [if_pos (show (pm r a y v i).1 (6 * (a + i) + y) = v from h99), eo]
      · rw [upR_up]
        rfl
    · refine J_b 10 am_d138 rfl ?_
      rw [hp]
      refine J_b 1 am_d138 rfl ?_
      refine J_b 1 am_d138 rfl ?_
      refine J_V3n 143 (am_d138 rfl) rfl rfl (sp143_3 (by omega)) ?_
      refine J_b 2 am_d138 rfl ?_
      refine ih (i + 1) _ _ _ (by omega) hab (by rw [ex]; exact nI_1 (a + i)) ?_ ?_
      · show o1 + 1 = (pm r a y v i).2 + (if (pm r a y v i).1 (6 * (a + i) + y) = v then 0 else 1)
        rw [if_neg (show ¬ (pm r a y v i).1 (6 * (a + i) + y) = v from h99), eo]
      · rw [upR_up]
        rfl
theorem sp138c_3 {X : am_X} {M : am_M} {N : am_N} {a b y : Nat} {v : Int32} (hb : b < 10) (hy : y < 6) (hab : a ≤ b) (h2 : 0 ≤ v.toInt ∧ v.toInt ≤ 16) : am_J X (am_eq (some (.int (pm (M 124) a y v (b + 1 - a)).2)) (am_upR M 124 (pm (M 124) a y v (b + 1 - a)).1) N) 138 0 (am_en 138 [.ref 120, .int (nI a), .int (nI b), .int (nI y), .int (3 : Int32), .int v]) [] M N := by
  have ia := nI_i (n := a) (by omega)
  have ib := nI_i (n := b) (by omega)
  have iy := nI_i (n := y) (by omega)
  refine J_en (L := [.ref 120, .int (nI a), .int (nI b), .int (nI y), .int (3 : Int32), .int v, .retAddr 0, .retAddr 0]) rfl ?_
  refine J_b 2 am_d138 rfl ?_
  refine J_S2s 139 (am_d138 rfl) rfl rfl (sp139) ?_
  refine J_if_eq 34 (am_d138 rfl) rfl (fun h5 => (by exfalso; simp [am_bi0, am_bi1, Int32.lt_iff_toInt_lt, Int32.le_iff_toInt_le, ia, ib, iy] at * <;> omega)) (fun h5 => ?_)
  refine J_b 2 am_d138 rfl ?_
  refine J_S2s 139 (am_d138 rfl) rfl rfl (sp139) ?_
  refine J_if_eq 34 (am_d138 rfl) rfl (fun h13 => (by exfalso; simp [am_bi0, am_bi1, Int32.lt_iff_toInt_lt, Int32.le_iff_toInt_le, ia, ib, iy] at * <;> omega)) (fun h13 => ?_)
  refine J_b 2 am_d138 rfl ?_
  refine J_icmp_gt 34 (am_d138 rfl) rfl (fun h18 => (by exfalso; simp [am_bi0, am_bi1, Int32.lt_iff_toInt_lt, Int32.le_iff_toInt_le, ia, ib, iy] at * <;> omega)) (fun h18 => ?_)
  refine J_b 4 am_d138 rfl ?_
  refine J_S3s 140 (am_d138 rfl) rfl rfl (sp140) ?_
  refine J_if_ne 36 (am_d138 rfl) rfl (fun h31 => ?_) (fun h31 => (by exfalso; simp [am_bi0, am_bi1, Int32.lt_iff_toInt_lt, Int32.le_iff_toInt_le, ia, ib, iy] at * <;> omega))
  refine J_b 4 am_d138 rfl ?_
  refine J_S1s 141 (am_d138 rfl) rfl rfl (sp141) ?_
  refine J_b 1 am_d138 rfl ?_
  refine J_S3s 140 (am_d138 rfl) rfl rfl (sp140) ?_
  refine J_if_ne 55 (am_d138 rfl) rfl (fun h49 => ?_) (fun h49 => (by exfalso; simp [am_bi0, am_bi1, am_mom, Int32.lt_iff_toInt_lt, Int32.le_iff_toInt_le] at * <;> omega))
  refine J_b 1 am_d138 rfl ?_
  refine J_if_ne 70 (am_d138 rfl) rfl (fun h57 => ?_) (fun h57 => absurd h57 (by decide))
  refine J_b 4 am_d138 rfl ?_
  exact lp138_3 hb hy (b + 1 - a) 0 _ _ _ (by omega) hab rfl rfl upR_id.symm
theorem sp17c_3 {X : am_X} {M : am_M} {N : am_N} {a y : Nat} (ha : a < 10) (hy : y < 6) : am_J X (am_eq (some (.int (M 6 (6 * a + y)))) (M) N) 17 0 (am_en 17 [.ref 0, .int (nI a), .int (nI y), .int (3 : Int32)]) [] M N := by
  have ia := nI_i (n := a) (by omega)
  have iy := nI_i (n := y) (by omega)
  have hp := pl_nI (y := y) (rfl : nI a = nI a)
  have hp8 : (Int8.ofInt 6).toInt32 * nI a + nI y = nI (6 * a + y) := hp
  refine J_en (L := [.ref 0, .int (nI a), .int (nI y), .int (3 : Int32)]) rfl ?_
  refine J_b 2 am_d17 rfl ?_
  refine J_S2s 12 (am_d17 rfl) rfl rfl (sp12) ?_
  refine J_if_eq 16 (am_d17 rfl) rfl (fun h5 => (by exfalso; simp [am_bi0, am_bi1, ia, iy] at * <;> omega)) (fun h5 => ?_)
  refine J_b 2 am_d17 rfl ?_
  refine J_S2s 13 (am_d17 rfl) rfl rfl (sp13) ?_
  refine J_if_ne 18 (am_d17 rfl) rfl (fun h13 => ?_) (fun h13 => (by exfalso; simp [am_bi0, am_bi1, ia, iy] at * <;> omega))
  refine J_b 4 am_d17 rfl ?_
  refine J_aaldk 6 (am_d17 rfl) rfl (am_vi rfl) rfl ?_
  refine J_b 2 am_d17 rfl ?_
  refine J_S2s 16 (am_d17 rfl) rfl rfl (sp16) ?_
  rw [hp]
  refine J_iald (am_d17 rfl) rfl (vp_in_nI (by omega) (by decide)) ?_
  exact J_iret (am_d17 rfl) rfl rfl ⟨by rw [nI_c (by omega)], rfl, rfl⟩
theorem sp144c_3 {X : am_X} {M : am_M} {N : am_N} {a y : Nat} (ha : a < 10) (hy : y < 6) : am_J X (am_eq (some (.int (M 124 (6 * a + y)))) (M) N) 144 0 (am_en 144 [.ref 120, .int (nI a), .int (nI y), .int (3 : Int32)]) [] M N := by
  have ia := nI_i (n := a) (by omega)
  have iy := nI_i (n := y) (by omega)
  have hp := pl_nI (y := y) (rfl : nI a = nI a)
  have hp8 : (Int8.ofInt 6).toInt32 * nI a + nI y = nI (6 * a + y) := hp
  refine J_en (L := [.ref 120, .int (nI a), .int (nI y), .int (3 : Int32)]) rfl ?_
  refine J_b 2 am_d144 rfl ?_
  refine J_S2s 139 (am_d144 rfl) rfl rfl (sp139) ?_
  refine J_if_eq 34 (am_d144 rfl) rfl (fun h5 => (by exfalso; simp [am_bi0, am_bi1, ia, iy] at * <;> omega)) (fun h5 => ?_)
  refine J_b 4 am_d144 rfl ?_
  refine J_S3s 140 (am_d144 rfl) rfl rfl (sp140) ?_
  refine J_if_eq 34 (am_d144 rfl) rfl (fun h17 => (by exfalso; simp [am_bi0, am_bi1, ia, iy] at * <;> omega)) (fun h17 => ?_)
  refine J_b 6 am_d144 rfl ?_
  rw [hp8]
  refine J_b 1 am_d144 rfl ?_
  refine J_V2s 142 (am_d144 rfl) rfl rfl (sp142_3 (by omega)) ?_
  refine J_b 1 am_d144 rfl ?_
  exact J_iret (am_d144 rfl) rfl rfl ⟨rfl, rfl, rfl⟩
theorem sp11b_4 {X : am_X} {M : am_M} {N : am_N} {a b y : Nat} {v : Int32} (hb : b < 10) (hy : y < 6) (hab : a ≤ b) (h2 : ¬ (0 ≤ v.toInt ∧ v.toInt ≤ 4095)) : am_J X (am_eq (some (.int (-2))) (M) N) 11 0 (am_en 11 [.ref 0, .int (nI a), .int (nI b), .int (nI y), .int (4 : Int32), .int v]) [] M N := by
  have ia := nI_i (n := a) (by omega)
  have ib := nI_i (n := b) (by omega)
  have iy := nI_i (n := y) (by omega)
  refine J_en (L := [.ref 0, .int (nI a), .int (nI b), .int (nI y), .int (4 : Int32), .int v]) rfl ?_
  refine J_b 2 am_d11 rfl ?_
  refine J_S2s 12 (am_d11 rfl) rfl rfl (sp12) ?_
  refine J_if_eq 30 (am_d11 rfl) rfl (fun h5 => (by exfalso; simp [am_bi0, am_bi1, Int32.lt_iff_toInt_lt, Int32.le_iff_toInt_le, ia, ib, iy] at * <;> omega)) (fun h5 => ?_)
  refine J_b 2 am_d11 rfl ?_
  refine J_S2s 12 (am_d11 rfl) rfl rfl (sp12) ?_
  refine J_if_eq 30 (am_d11 rfl) rfl (fun h13 => (by exfalso; simp [am_bi0, am_bi1, Int32.lt_iff_toInt_lt, Int32.le_iff_toInt_le, ia, ib, iy] at * <;> omega)) (fun h13 => ?_)
  refine J_b 2 am_d11 rfl ?_
  refine J_icmp_gt 30 (am_d11 rfl) rfl (fun h18 => (by exfalso; simp [am_bi0, am_bi1, Int32.lt_iff_toInt_lt, Int32.le_iff_toInt_le, ia, ib, iy] at * <;> omega)) (fun h18 => ?_)
  refine J_b 2 am_d11 rfl ?_
  refine J_S2s 13 (am_d11 rfl) rfl rfl (sp13) ?_
  refine J_if_ne 32 (am_d11 rfl) rfl (fun h27 => ?_) (fun h27 => (by exfalso; simp [am_bi0, am_bi1, Int32.lt_iff_toInt_lt, Int32.le_iff_toInt_le, ia, ib, iy] at * <;> omega))
  refine J_b 2 am_d11 rfl ?_
  refine J_gsM rfl (am_d11 rfl) ?_
  refine J_b 1 am_d11 rfl ?_
  refine J_tM (am_d11 rfl) (am_vi rfl) ?_
  refine J_S3s 14 (am_d11 rfl) rfl rfl (sp14) ?_
  refine J_if_ne 50 (am_d11 rfl) rfl (fun h44 => (by exfalso; simp [am_bi0, am_bi1, am_mom, Int32.lt_iff_toInt_lt, Int32.le_iff_toInt_le] at * <;> omega)) (fun h44 => ?_)
  refine J_b 1 am_d11 rfl ?_
  exact J_iret (am_d11 rfl) rfl rfl ⟨rfl, rfl, rfl⟩
theorem sp138b_4 {X : am_X} {M : am_M} {N : am_N} {a b y : Nat} {v : Int32} (hb : b < 10) (hy : y < 6) (hab : a ≤ b) (h2 : ¬ (0 ≤ v.toInt ∧ v.toInt ≤ 4095)) : am_J X (am_eq (some (.int (-2))) (M) N) 138 0 (am_en 138 [.ref 120, .int (nI a), .int (nI b), .int (nI y), .int (4 : Int32), .int v]) [] M N := by
  have ia := nI_i (n := a) (by omega)
  have ib := nI_i (n := b) (by omega)
  have iy := nI_i (n := y) (by omega)
  refine J_en (L := [.ref 120, .int (nI a), .int (nI b), .int (nI y), .int (4 : Int32), .int v, .retAddr 0, .retAddr 0]) rfl ?_
  refine J_b 2 am_d138 rfl ?_
  refine J_S2s 139 (am_d138 rfl) rfl rfl (sp139) ?_
  refine J_if_eq 34 (am_d138 rfl) rfl (fun h5 => (by exfalso; simp [am_bi0, am_bi1, Int32.lt_iff_toInt_lt, Int32.le_iff_toInt_le, ia, ib, iy] at * <;> omega)) (fun h5 => ?_)
  refine J_b 2 am_d138 rfl ?_
  refine J_S2s 139 (am_d138 rfl) rfl rfl (sp139) ?_
  refine J_if_eq 34 (am_d138 rfl) rfl (fun h13 => (by exfalso; simp [am_bi0, am_bi1, Int32.lt_iff_toInt_lt, Int32.le_iff_toInt_le, ia, ib, iy] at * <;> omega)) (fun h13 => ?_)
  refine J_b 2 am_d138 rfl ?_
  refine J_icmp_gt 34 (am_d138 rfl) rfl (fun h18 => (by exfalso; simp [am_bi0, am_bi1, Int32.lt_iff_toInt_lt, Int32.le_iff_toInt_le, ia, ib, iy] at * <;> omega)) (fun h18 => ?_)
  refine J_b 4 am_d138 rfl ?_
  refine J_S3s 140 (am_d138 rfl) rfl rfl (sp140) ?_
  refine J_if_ne 36 (am_d138 rfl) rfl (fun h31 => ?_) (fun h31 => (by exfalso; simp [am_bi0, am_bi1, Int32.lt_iff_toInt_lt, Int32.le_iff_toInt_le, ia, ib, iy] at * <;> omega))
  refine J_b 4 am_d138 rfl ?_
  refine J_S1s 141 (am_d138 rfl) rfl rfl (sp141) ?_
  refine J_b 1 am_d138 rfl ?_
  refine J_S3s 140 (am_d138 rfl) rfl rfl (sp140) ?_
  refine J_if_ne 55 (am_d138 rfl) rfl (fun h49 => (by exfalso; simp [am_bi0, am_bi1, am_mom, Int32.lt_iff_toInt_lt, Int32.le_iff_toInt_le] at * <;> omega)) (fun h49 => ?_)
  refine J_b 1 am_d138 rfl ?_
  exact J_iret (am_d138 rfl) rfl rfl ⟨rfl, rfl, rfl⟩
theorem sp11c_4 {X : am_X} {M : am_M} {N : am_N} {a b y : Nat} {v : Int32} (hb : b < 10) (hy : y < 6) (hab : a ≤ b) (h2 : 0 ≤ v.toInt ∧ v.toInt ≤ 4095) : am_J X (am_eq (some (.int (pm (M 7) a y v (b + 1 - a)).2)) (am_up (am_upR M 7 (pm (M 7) a y v (b + 1 - a)).1) 1 11 (M 1 11 + 1)) N) 11 0 (am_en 11 [.ref 0, .int (nI a), .int (nI b), .int (nI y), .int (4 : Int32), .int v]) [] M N := by
  have ia := nI_i (n := a) (by omega)
  have ib := nI_i (n := b) (by omega)
  have iy := nI_i (n := y) (by omega)
  refine J_en (L := [.ref 0, .int (nI a), .int (nI b), .int (nI y), .int (4 : Int32), .int v]) rfl ?_
  refine J_b 2 am_d11 rfl ?_
  refine J_S2s 12 (am_d11 rfl) rfl rfl (sp12) ?_
  refine J_if_eq 30 (am_d11 rfl) rfl (fun h5 => (by exfalso; simp [am_bi0, am_bi1, Int32.lt_iff_toInt_lt, Int32.le_iff_toInt_le, ia, ib, iy] at * <;> omega)) (fun h5 => ?_)
  refine J_b 2 am_d11 rfl ?_
  refine J_S2s 12 (am_d11 rfl) rfl rfl (sp12) ?_
  refine J_if_eq 30 (am_d11 rfl) rfl (fun h13 => (by exfalso; simp [am_bi0, am_bi1, Int32.lt_iff_toInt_lt, Int32.le_iff_toInt_le, ia, ib, iy] at * <;> omega)) (fun h13 => ?_)
  refine J_b 2 am_d11 rfl ?_
  refine J_icmp_gt 30 (am_d11 rfl) rfl (fun h18 => (by exfalso; simp [am_bi0, am_bi1, Int32.lt_iff_toInt_lt, Int32.le_iff_toInt_le, ia, ib, iy] at * <;> omega)) (fun h18 => ?_)
  refine J_b 2 am_d11 rfl ?_
  refine J_S2s 13 (am_d11 rfl) rfl rfl (sp13) ?_
  refine J_if_ne 32 (am_d11 rfl) rfl (fun h27 => ?_) (fun h27 => (by exfalso; simp [am_bi0, am_bi1, Int32.lt_iff_toInt_lt, Int32.le_iff_toInt_le, ia, ib, iy] at * <;> omega))
  refine J_b 2 am_d11 rfl ?_
  refine J_gsM rfl (am_d11 rfl) ?_
  refine J_b 1 am_d11 rfl ?_
  refine J_tM (am_d11 rfl) (am_vi rfl) ?_
  refine J_S3s 14 (am_d11 rfl) rfl rfl (sp14) ?_
  refine J_if_ne 50 (am_d11 rfl) rfl (fun h44 => ?_) (fun h44 => (by exfalso; simp [am_bi0, am_bi1, am_mom, Int32.lt_iff_toInt_lt, Int32.le_iff_toInt_le] at * <;> omega))
  refine J_b 1 am_d11 rfl ?_
  refine J_if_ne 68 (am_d11 rfl) rfl (fun h52 => ?_) (fun h52 => absurd h52 (by decide))
  refine J_b 7 am_d11 rfl ?_
  refine J_V5s 15 (am_d11 rfl) rfl rfl (sp15_4 hb hy hab) ?_
  exact J_iret (am_d11 rfl) rfl rfl ⟨rfl, rfl, rfl⟩
theorem lp138_4 {X : am_X} {M : am_M} {N : am_N} {r : Nat → Int32} {a b y : Nat} {v : Int32} (hb : b < 10) (hy : y < 6) : ∀ (n i : Nat) (x o1 : Int32) (M1 : am_M), i + n = b + 1 - a → a ≤ b → x = nI (a + i) → o1 = (pm r a y v i).2 → M1 = am_upR M 125 (pm r a y v i).1 → am_J X (am_eq (some (.int (pm r a y v (b + 1 - a)).2)) (am_upR M 125 (pm r a y v (b + 1 - a)).1) N) 138 76 [.ref 120, .int (nI a), .int (nI b), .int (nI y), .int (4 : Int32), .int v, .int o1, .int x] [] M1 N := by
  intro n
  induction n with
  | zero =>
    intro i x o1 M1 hn hab ex eo em
    subst em
    have e : i = b + 1 - a := by omega
    subst e
    subst eo
    have hx : nI b < x := by rw [ex]; exact nI_lt (by omega) (by omega)
    refine J_b 2 am_d138 rfl ?_
    refine J_icmp_gt 131 (am_d138 rfl) rfl (fun h79 => ?_) (fun h79 => absurd (hx) h79)
    refine J_b 1 am_d138 rfl ?_
    exact J_iret (am_d138 rfl) rfl rfl ⟨rfl, rfl, rfl⟩
  | succ n ih =>
    intro i x o1 M1 hn hab ex eo em
    subst em
    have hp : (Int8.ofInt 6).toInt32 * x + nI y = nI (6 * (a + i) + y) := pl_nI ex
    have hlt : ¬ nI b < x := by rw [ex]; exact nI_nlt (by omega) (by omega)
    refine J_b 2 am_d138 rfl ?_
    refine J_icmp_gt 131 (am_d138 rfl) rfl (fun h79 => absurd h79 hlt) (fun h79 => ?_)
    refine J_b 7 am_d138 rfl ?_
    rw [hp]
    refine J_b 1 am_d138 rfl ?_
    refine J_V2s 142 (am_d138 rfl) rfl rfl (sp142_4 (by omega)) ?_
    refine J_b 1 am_d138 rfl ?_
    refine J_icmp_eq 106 (am_d138 rfl) rfl (fun h99 => ?_) (fun h99 => ?_)
    · refine J_b 9 am_d138 rfl ?_
      rw [hp]
      refine J_b 1 am_d138 rfl ?_
      refine J_b 1 am_d138 rfl ?_
      refine J_V3n 143 (am_d138 rfl) rfl rfl (sp143_4 (by omega)) ?_
      refine J_b 2 am_d138 rfl ?_
      refine ih (i + 1) _ _ _ (by omega) hab (by rw [ex]; exact nI_1 (a + i)) ?_ ?_
      · show o1 + 0 = (pm r a y v i).2 + (if (pm r a y v i).1 (6 * (a + i) + y) = v then 0 else 1)
        rw [if_pos (show (pm r a y v i).1 (6 * (a + i) + y) = v from h99), eo]
      · rw [upR_up]
        rfl
    · refine J_b 10 am_d138 rfl ?_
      rw [hp]
      refine J_b 1 am_d138 rfl ?_
      refine J_b 1 am_d138 rfl ?_
      refine J_V3n 143 (am_d138 rfl) rfl rfl (sp143_4 (by omega)) ?_
      refine J_b 2 am_d138 rfl ?_
      refine ih (i + 1) _ _ _ (by omega) hab (by rw [ex]; exact nI_1 (a + i)) ?_ ?_
      · show o1 + 1 = (pm r a y v i).2 + (if (pm r a y v i).1 (6 * (a + i) + y) = v then 0 else 1)
        rw [if_neg (show ¬ (pm r a y v i).1 (6 * (a + i) + y) = v from h99), eo]
      · rw [upR_up]
        rfl
theorem sp138c_4 {X : am_X} {M : am_M} {N : am_N} {a b y : Nat} {v : Int32} (hb : b < 10) (hy : y < 6) (hab : a ≤ b) (h2 : 0 ≤ v.toInt ∧ v.toInt ≤ 4095) : am_J X (am_eq (some (.int (pm (M 125) a y v (b + 1 - a)).2)) (am_upR M 125 (pm (M 125) a y v (b + 1 - a)).1) N) 138 0 (am_en 138 [.ref 120, .int (nI a), .int (nI b), .int (nI y), .int (4 : Int32), .int v]) [] M N := by
  have ia := nI_i (n := a) (by omega)
  have ib := nI_i (n := b) (by omega)
  have iy := nI_i (n := y) (by omega)
  refine J_en (L := [.ref 120, .int (nI a), .int (nI b), .int (nI y), .int (4 : Int32), .int v, .retAddr 0, .retAddr 0]) rfl ?_
  refine J_b 2 am_d138 rfl ?_
  refine J_S2s 139 (am_d138 rfl) rfl rfl (sp139) ?_
  refine J_if_eq 34 (am_d138 rfl) rfl (fun h5 => (by exfalso; simp [am_bi0, am_bi1, Int32.lt_iff_toInt_lt, Int32.le_iff_toInt_le, ia, ib, iy] at * <;> omega)) (fun h5 => ?_)
  refine J_b 2 am_d138 rfl ?_
  refine J_S2s 139 (am_d138 rfl) rfl rfl (sp139) ?_
  refine J_if_eq 34 (am_d138 rfl) rfl (fun h13 => (by exfalso; simp [am_bi0, am_bi1, Int32.lt_iff_toInt_lt, Int32.le_iff_toInt_le, ia, ib, iy] at * <;> omega)) (fun h13 => ?_)
  refine J_b 2 am_d138 rfl ?_
  refine J_icmp_gt 34 (am_d138 rfl) rfl (fun h18 => (by exfalso; simp [am_bi0, am_bi1, Int32.lt_iff_toInt_lt, Int32.le_iff_toInt_le, ia, ib, iy] at * <;> omega)) (fun h18 => ?_)
  refine J_b 4 am_d138 rfl ?_
  refine J_S3s 140 (am_d138 rfl) rfl rfl (sp140) ?_
  refine J_if_ne 36 (am_d138 rfl) rfl (fun h31 => ?_) (fun h31 => (by exfalso; simp [am_bi0, am_bi1, Int32.lt_iff_toInt_lt, Int32.le_iff_toInt_le, ia, ib, iy] at * <;> omega))
  refine J_b 4 am_d138 rfl ?_
  refine J_S1s 141 (am_d138 rfl) rfl rfl (sp141) ?_
  refine J_b 1 am_d138 rfl ?_
  refine J_S3s 140 (am_d138 rfl) rfl rfl (sp140) ?_
  refine J_if_ne 55 (am_d138 rfl) rfl (fun h49 => ?_) (fun h49 => (by exfalso; simp [am_bi0, am_bi1, am_mom, Int32.lt_iff_toInt_lt, Int32.le_iff_toInt_le] at * <;> omega))
  refine J_b 1 am_d138 rfl ?_
  refine J_if_ne 70 (am_d138 rfl) rfl (fun h57 => ?_) (fun h57 => absurd h57 (by decide))
  refine J_b 4 am_d138 rfl ?_
  exact lp138_4 hb hy (b + 1 - a) 0 _ _ _ (by omega) hab rfl rfl upR_id.symm
theorem sp17c_4 {X : am_X} {M : am_M} {N : am_N} {a y : Nat} (ha : a < 10) (hy : y < 6) : am_J X (am_eq (some (.int (M 7 (6 * a + y)))) (M) N) 17 0 (am_en 17 [.ref 0, .int (nI a), .int (nI y), .int (4 : Int32)]) [] M N := by
  have ia := nI_i (n := a) (by omega)
  have iy := nI_i (n := y) (by omega)
  have hp := pl_nI (y := y) (rfl : nI a = nI a)
  have hp8 : (Int8.ofInt 6).toInt32 * nI a + nI y = nI (6 * a + y) := hp
  refine J_en (L := [.ref 0, .int (nI a), .int (nI y), .int (4 : Int32)]) rfl ?_
  refine J_b 2 am_d17 rfl ?_
  refine J_S2s 12 (am_d17 rfl) rfl rfl (sp12) ?_
  refine J_if_eq 16 (am_d17 rfl) rfl (fun h5 => (by exfalso; simp [am_bi0, am_bi1, ia, iy] at * <;> omega)) (fun h5 => ?_)
  refine J_b 2 am_d17 rfl ?_
  refine J_S2s 13 (am_d17 rfl) rfl rfl (sp13) ?_
  refine J_if_ne 18 (am_d17 rfl) rfl (fun h13 => ?_) (fun h13 => (by exfalso; simp [am_bi0, am_bi1, ia, iy] at * <;> omega))
  refine J_b 4 am_d17 rfl ?_
  refine J_aaldk 7 (am_d17 rfl) rfl (am_vi rfl) rfl ?_
  refine J_b 2 am_d17 rfl ?_
  refine J_S2s 16 (am_d17 rfl) rfl rfl (sp16) ?_
  rw [hp]
  refine J_iald (am_d17 rfl) rfl (vp_in_nI (by omega) (by decide)) ?_
  exact J_iret (am_d17 rfl) rfl rfl ⟨by rw [nI_c (by omega)], rfl, rfl⟩
theorem sp144c_4 {X : am_X} {M : am_M} {N : am_N} {a y : Nat} (ha : a < 10) (hy : y < 6) : am_J X (am_eq (some (.int (M 125 (6 * a + y)))) (M) N) 144 0 (am_en 144 [.ref 120, .int (nI a), .int (nI y), .int (4 : Int32)]) [] M N := by
  have ia := nI_i (n := a) (by omega)
  have iy := nI_i (n := y) (by omega)
  have hp := pl_nI (y := y) (rfl : nI a = nI a)
  have hp8 : (Int8.ofInt 6).toInt32 * nI a + nI y = nI (6 * a + y) := hp
  refine J_en (L := [.ref 120, .int (nI a), .int (nI y), .int (4 : Int32)]) rfl ?_
  refine J_b 2 am_d144 rfl ?_
  refine J_S2s 139 (am_d144 rfl) rfl rfl (sp139) ?_
  refine J_if_eq 34 (am_d144 rfl) rfl (fun h5 => (by exfalso; simp [am_bi0, am_bi1, ia, iy] at * <;> omega)) (fun h5 => ?_)
  refine J_b 4 am_d144 rfl ?_
  refine J_S3s 140 (am_d144 rfl) rfl rfl (sp140) ?_
  refine J_if_eq 34 (am_d144 rfl) rfl (fun h17 => (by exfalso; simp [am_bi0, am_bi1, ia, iy] at * <;> omega)) (fun h17 => ?_)
  refine J_b 6 am_d144 rfl ?_
  rw [hp8]
  refine J_b 1 am_d144 rfl ?_
  refine J_V2s 142 (am_d144 rfl) rfl rfl (sp142_4 (by omega)) ?_
  refine J_b 1 am_d144 rfl ?_
  exact J_iret (am_d144 rfl) rfl rfl ⟨rfl, rfl, rfl⟩
theorem sp17a {X : am_X} {M : am_M} {N : am_N} {x y w : Int32} (h1 : ¬ (((0 ≤ x.toInt ∧ x.toInt < 10) ∧ 0 ≤ y.toInt ∧ y.toInt < 6) ∧ 0 ≤ w.toInt ∧ w.toInt < 5)) : am_J X (am_eq (some (.int (-1))) (M) N) 17 0 (am_en 17 [.ref 0, .int x, .int y, .int w]) [] M N := by
  refine J_en (L := [.ref 0, .int x, .int y, .int w]) rfl ?_
  refine J_b 2 am_d17 rfl ?_
  refine J_S2s 12 (am_d17 rfl) rfl rfl (sp12) ?_
  refine J_if_eq 16 (am_d17 rfl) rfl (fun h5 => ?_) (fun h5 => ?_)
  · refine J_b 1 am_d17 rfl ?_
    exact J_iret (am_d17 rfl) rfl rfl ⟨rfl, rfl, rfl⟩
  · refine J_b 2 am_d17 rfl ?_
    refine J_S2s 13 (am_d17 rfl) rfl rfl (sp13) ?_
    refine J_if_ne 18 (am_d17 rfl) rfl (fun h13 => ?_) (fun h13 => ?_)
    · exact absurd (show ((0 ≤ x.toInt ∧ x.toInt < 10) ∧ 0 ≤ y.toInt ∧ y.toInt < 6) ∧ 0 ≤ w.toInt ∧ w.toInt < 5 by simp [am_bi0, am_bi1] at * <;> omega) h1
    · refine J_b 1 am_d17 rfl ?_
      exact J_iret (am_d17 rfl) rfl rfl ⟨rfl, rfl, rfl⟩
theorem sp144a {X : am_X} {M : am_M} {N : am_N} {x y w : Int32} (h1 : ¬ (((0 ≤ x.toInt ∧ x.toInt < 10) ∧ 0 ≤ y.toInt ∧ y.toInt < 6) ∧ 0 ≤ w.toInt ∧ w.toInt < 5)) : am_J X (am_eq (some (.int (-1))) (M) N) 144 0 (am_en 144 [.ref 120, .int x, .int y, .int w]) [] M N := by
  refine J_en (L := [.ref 120, .int x, .int y, .int w]) rfl ?_
  refine J_b 2 am_d144 rfl ?_
  refine J_S2s 139 (am_d144 rfl) rfl rfl (sp139) ?_
  refine J_if_eq 34 (am_d144 rfl) rfl (fun h5 => ?_) (fun h5 => ?_)
  · refine J_b 1 am_d144 rfl ?_
    exact J_iret (am_d144 rfl) rfl rfl ⟨rfl, rfl, rfl⟩
  · refine J_b 4 am_d144 rfl ?_
    refine J_S3s 140 (am_d144 rfl) rfl rfl (sp140) ?_
    refine J_if_eq 34 (am_d144 rfl) rfl (fun h17 => ?_) (fun h17 => ?_)
    · refine J_b 1 am_d144 rfl ?_
      exact J_iret (am_d144 rfl) rfl rfl ⟨rfl, rfl, rfl⟩
    · exact absurd (show ((0 ≤ x.toInt ∧ x.toInt < 10) ∧ 0 ≤ y.toInt ∧ y.toInt < 6) ∧ 0 ≤ w.toInt ∧ w.toInt < 5 by simp [am_bi0, am_bi1] at * <;> omega) h1
theorem am_ix5 {w : Int32} (h : 0 ≤ w.toInt ∧ w.toInt < 5) : w = 0 ∨ w = 1 ∨ w = 2 ∨ w = 3 ∨ w = 4 := by
  have h2 : w.toInt = 0 ∨ w.toInt = 1 ∨ w.toInt = 2 ∨ w.toInt = 3 ∨ w.toInt = 4 := by omega
  rcases h2 with h2 | h2 | h2 | h2 | h2
  · exact .inl (I_eq h2)
  · exact .inr (.inl (I_eq h2))
  · exact .inr (.inr (.inl (I_eq h2)))
  · exact .inr (.inr (.inr (.inl (I_eq h2))))
  · exact .inr (.inr (.inr (.inr (I_eq h2))))
theorem am_ex {x : Int32} {n : Nat} (h : 0 ≤ x.toInt ∧ x.toInt < n) : ∃ a : Nat, a < n ∧ x = nI a := ⟨x.toNatClampNeg, by have := I_cl h.1; omega, I_nI h.1⟩
theorem pr_cell {X : am_X} (x y w : Int32) : am_pI iv X 17 144 [.int x, .int y, .int w] := by
  intro c M N hc h
  by_cases h1 : ((0 ≤ x.toInt ∧ x.toInt < 10) ∧ 0 ≤ y.toInt ∧ y.toInt < 6) ∧ 0 ≤ w.toInt ∧ w.toInt < 5
  rotate_left
  · exact pr_e (sp17a h1) (sp144a h1) (iv_up _ _ _ h)
  obtain ⟨a, ha, rfl⟩ := am_ex (n := 10) h1.1.1
  obtain ⟨b, hy, rfl⟩ := am_ex (n := 6) h1.1.2
  rcases am_ix5 h1.2 with rfl | rfl | rfl | rfl | rfl
  · have q := sp144c_0 (X := X) (M := M) (N := N) ha hy
    rw [h.1.1.1.1.1] at q
    exact pr_e (sp17c_0 ha hy) q (iv_up _ _ _ h)
  · have q := sp144c_1 (X := X) (M := M) (N := N) ha hy
    rw [h.1.1.1.1.2.1] at q
    exact pr_e (sp17c_1 ha hy) q (iv_up _ _ _ h)
  · have q := sp144c_2 (X := X) (M := M) (N := N) ha hy
    rw [h.1.1.1.1.2.2.1] at q
    exact pr_e (sp17c_2 ha hy) q (iv_up _ _ _ h)
  · have q := sp144c_3 (X := X) (M := M) (N := N) ha hy
    rw [h.1.1.1.1.2.2.2.1] at q
    exact pr_e (sp17c_3 ha hy) q (iv_up _ _ _ h)
  · have q := sp144c_4 (X := X) (M := M) (N := N) ha hy
    rw [h.1.1.1.1.2.2.2.2] at q
    exact pr_e (sp17c_4 ha hy) q (iv_up _ _ _ h)
theorem pr_paint {X : am_X} (x0 x1 y w v : Int32) : am_pI iv X 11 138 [.int x0, .int x1, .int y, .int w, .int v] := by
  intro c M N hc h
  by_cases h1 : ((0 ≤ x0.toInt ∧ x0.toInt < 10) ∧ (0 ≤ x1.toInt ∧ x1.toInt < 10) ∧ 0 ≤ y.toInt ∧ y.toInt < 6) ∧ x0.toInt ≤ x1.toInt ∧ 0 ≤ w.toInt ∧ w.toInt < 5
  rotate_left
  · exact pr_e (sp11a h1) (sp138a h1) (iv_up _ _ _ h)
  have h1b := h1.2.1
  obtain ⟨a, ha, rfl⟩ := am_ex (n := 10) h1.1.1
  obtain ⟨b, hb9, rfl⟩ := am_ex (n := 10) h1.1.2.1
  obtain ⟨yy, hy, rfl⟩ := am_ex (n := 6) h1.1.2.2
  have hab : a ≤ b := by rw [nI_i (by omega), nI_i (by omega)] at h1b; omega
  rcases am_ix5 h1.2.2 with rfl | rfl | rfl | rfl | rfl
  · by_cases h2 : 0 ≤ v.toInt ∧ v.toInt ≤ 2
    rotate_left
    · exact pr_e (sp11b_0 hb9 hy hab h2) (sp138b_0 hb9 hy hab h2) (iv_up _ _ _ h)
    have e22 := h.1.2.1.1.2
    by_cases hc0 : M 18 7 ≤ 0
    rotate_left
    · exact pr_e (sp11s_0 hb9 hy hab h2 hc0) (sp138s_0 hb9 hy hab h2 (by rw [e22]; exact hc0)) (iv_up _ _ _ h)
    obtain ⟨⟨⟨hs, hb⟩, ⟨hca, hcb⟩, ⟨hna, hnb⟩, ⟨hfi, hfb⟩⟩, ⟨hti, hta, hpr⟩, hcc, hch, hkl, hkd⟩ := h
    obtain ⟨⟨⟨s1, s2, s3, s4, s5⟩, s6, s7, s8⟩, ⟨b1, b2, b3, b4⟩⟩ := And.intro hs hb
    have q := sp138c_0 (X := X) (M := am_up (am_upR M 3 (pm (M 3) a yy v (b + 1 - a)).1) 1 11 (M 1 11 + 1)) (N := N) hb9 hy hab h2 (by show M 120 22 ≤ 0; rw [e22]; exact hc0)
    rw [show (am_up (am_upR M 3 (pm (M 3) a yy v (b + 1 - a)).1) 1 11 (M 1 11 + 1)) 121 = M 3 from s1] at q
    refine pr_e (sp11c_0 hb9 hy hab h2 hc0) q ?_
    obtain ⟨g1, g2, g3⟩ := ch_up (M' := am_upR (am_up (am_upR M 3 (pm (M 3) a yy v (b + 1 - a)).1) 1 11 (M 1 11 + 1)) 121 (pm (M 3) a yy v (b + 1 - a)).1) hc hch rfl rfl rfl
    exact ⟨⟨⟨⟨⟨rfl, s2, s3, s4, s5⟩, s6, s7, s8⟩, b1, b2, b3, b4⟩, ⟨hca, hcb⟩, ⟨hna, hnb⟩, ⟨hfi, hfb⟩⟩, ⟨hti, hta, hpr⟩, cc_of hcc hfb (fun k k1 k2 => by (repeat (first | rw [up_n] | rw [upR_n])) <;> omega) ⟨rfl, rfl, rfl, rfl, rfl, rfl, rfl⟩, g1, g2, g3⟩
  · by_cases h2 : 0 ≤ v.toInt ∧ v.toInt ≤ 2
    rotate_left
    · exact pr_e (sp11b_1 hb9 hy hab h2) (sp138b_1 hb9 hy hab h2) (iv_up _ _ _ h)
    obtain ⟨⟨⟨hs, hb⟩, ⟨hca, hcb⟩, ⟨hna, hnb⟩, ⟨hfi, hfb⟩⟩, ⟨hti, hta, hpr⟩, hcc, hch, hkl, hkd⟩ := h
    obtain ⟨⟨⟨s1, s2, s3, s4, s5⟩, s6, s7, s8⟩, ⟨b1, b2, b3, b4⟩⟩ := And.intro hs hb
    have q := sp138c_1 (X := X) (M := am_up (am_upR M 4 (pm (M 4) a yy v (b + 1 - a)).1) 1 11 (M 1 11 + 1)) (N := N) hb9 hy hab h2
    rw [show (am_up (am_upR M 4 (pm (M 4) a yy v (b + 1 - a)).1) 1 11 (M 1 11 + 1)) 122 = M 4 from s2] at q
    refine pr_e (sp11c_1 hb9 hy hab h2) q ?_
    obtain ⟨g1, g2, g3⟩ := ch_up (M' := am_upR (am_up (am_upR M 4 (pm (M 4) a yy v (b + 1 - a)).1) 1 11 (M 1 11 + 1)) 122 (pm (M 4) a yy v (b + 1 - a)).1) hc hch rfl rfl rfl
    exact ⟨⟨⟨⟨⟨s1, rfl, s3, s4, s5⟩, s6, s7, s8⟩, pm_b b1 h2 _, b2, b3, b4⟩, ⟨hca, hcb⟩, ⟨hna, hnb⟩, ⟨hfi, hfb⟩⟩, ⟨hti, hta, hpr⟩, cc_of hcc hfb (fun k k1 k2 => by (repeat (first | rw [up_n] | rw [upR_n])) <;> omega) ⟨rfl, rfl, rfl, rfl, rfl, rfl, rfl⟩, g1, g2, g3⟩
  · by_cases h2 : 0 ≤ v.toInt ∧ v.toInt ≤ 16
    rotate_left
    · exact pr_e (sp11b_2 hb9 hy hab h2) (sp138b_2 hb9 hy hab h2) (iv_up _ _ _ h)
    obtain ⟨⟨⟨hs, hb⟩, ⟨hca, hcb⟩, ⟨hna, hnb⟩, ⟨hfi, hfb⟩⟩, ⟨hti, hta, hpr⟩, hcc, hch, hkl, hkd⟩ := h
    obtain ⟨⟨⟨s1, s2, s3, s4, s5⟩, s6, s7, s8⟩, ⟨b1, b2, b3, b4⟩⟩ := And.intro hs hb
    have q := sp138c_2 (X := X) (M := am_up (am_upR M 5 (pm (M 5) a yy v (b + 1 - a)).1) 1 11 (M 1 11 + 1)) (N := N) hb9 hy hab h2
    rw [show (am_up (am_upR M 5 (pm (M 5) a yy v (b + 1 - a)).1) 1 11 (M 1 11 + 1)) 123 = M 5 from s3] at q
    refine pr_e (sp11c_2 hb9 hy hab h2) q ?_
    obtain ⟨g1, g2, g3⟩ := ch_up (M' := am_upR (am_up (am_upR M 5 (pm (M 5) a yy v (b + 1 - a)).1) 1 11 (M 1 11 + 1)) 123 (pm (M 5) a yy v (b + 1 - a)).1) hc hch rfl rfl rfl
    exact ⟨⟨⟨⟨⟨s1, s2, rfl, s4, s5⟩, s6, s7, s8⟩, b1, pm_b b2 h2 _, b3, b4⟩, ⟨hca, hcb⟩, ⟨hna, hnb⟩, ⟨hfi, hfb⟩⟩, ⟨hti, hta, hpr⟩, cc_of hcc hfb (fun k k1 k2 => by (repeat (first | rw [up_n] | rw [upR_n])) <;> omega) ⟨rfl, rfl, rfl, rfl, rfl, rfl, rfl⟩, g1, g2, g3⟩
  · by_cases h2 : 0 ≤ v.toInt ∧ v.toInt ≤ 16
    rotate_left
    · exact pr_e (sp11b_3 hb9 hy hab h2) (sp138b_3 hb9 hy hab h2) (iv_up _ _ _ h)
    obtain ⟨⟨⟨hs, hb⟩, ⟨hca, hcb⟩, ⟨hna, hnb⟩, ⟨hfi, hfb⟩⟩, ⟨hti, hta, hpr⟩, hcc, hch, hkl, hkd⟩ := h
    obtain ⟨⟨⟨s1, s2, s3, s4, s5⟩, s6, s7, s8⟩, ⟨b1, b2, b3, b4⟩⟩ := And.intro hs hb
    have q := sp138c_3 (X := X) (M := am_up (am_upR M 6 (pm (M 6) a yy v (b + 1 - a)).1) 1 11 (M 1 11 + 1)) (N := N) hb9 hy hab h2
    rw [show (am_up (am_upR M 6 (pm (M 6) a yy v (b + 1 - a)).1) 1 11 (M 1 11 + 1)) 124 = M 6 from s4] at q
    refine pr_e (sp11c_3 hb9 hy hab h2) q ?_
    obtain ⟨g1, g2, g3⟩ := ch_up (M' := am_upR (am_up (am_upR M 6 (pm (M 6) a yy v (b + 1 - a)).1) 1 11 (M 1 11 + 1)) 124 (pm (M 6) a yy v (b + 1 - a)).1) hc hch rfl rfl rfl
    exact ⟨⟨⟨⟨⟨s1, s2, s3, rfl, s5⟩, s6, s7, s8⟩, b1, b2, pm_b b3 h2 _, b4⟩, ⟨hca, hcb⟩, ⟨hna, hnb⟩, ⟨hfi, hfb⟩⟩, ⟨hti, hta, hpr⟩, cc_of hcc hfb (fun k k1 k2 => by (repeat (first | rw [up_n] | rw [upR_n])) <;> omega) ⟨rfl, rfl, rfl, rfl, rfl, rfl, rfl⟩, g1, g2, g3⟩
  · by_cases h2 : 0 ≤ v.toInt ∧ v.toInt ≤ 4095
    rotate_left
    · exact pr_e (sp11b_4 hb9 hy hab h2) (sp138b_4 hb9 hy hab h2) (iv_up _ _ _ h)
    obtain ⟨⟨⟨hs, hb⟩, ⟨hca, hcb⟩, ⟨hna, hnb⟩, ⟨hfi, hfb⟩⟩, ⟨hti, hta, hpr⟩, hcc, hch, hkl, hkd⟩ := h
    obtain ⟨⟨⟨s1, s2, s3, s4, s5⟩, s6, s7, s8⟩, ⟨b1, b2, b3, b4⟩⟩ := And.intro hs hb
    have q := sp138c_4 (X := X) (M := am_up (am_upR M 7 (pm (M 7) a yy v (b + 1 - a)).1) 1 11 (M 1 11 + 1)) (N := N) hb9 hy hab h2
    rw [show (am_up (am_upR M 7 (pm (M 7) a yy v (b + 1 - a)).1) 1 11 (M 1 11 + 1)) 125 = M 7 from s5] at q
    refine pr_e (sp11c_4 hb9 hy hab h2) q ?_
    obtain ⟨g1, g2, g3⟩ := ch_up (M' := am_upR (am_up (am_upR M 7 (pm (M 7) a yy v (b + 1 - a)).1) 1 11 (M 1 11 + 1)) 125 (pm (M 7) a yy v (b + 1 - a)).1) hc hch rfl rfl rfl
    exact ⟨⟨⟨⟨⟨s1, s2, s3, s4, rfl⟩, s6, s7, s8⟩, b1, b2, b3, b4⟩, ⟨hca, hcb⟩, ⟨hna, hnb⟩, ⟨hfi, hfb⟩⟩, ⟨hti, hta, hpr⟩, cc_of hcc hfb (fun k k1 k2 => by (repeat (first | rw [up_n] | rw [upR_n])) <;> omega) ⟨rfl, rfl, rfl, rfl, rfl, rfl, rfl⟩, g1, g2, g3⟩
end
section
/-! ===== about, clock, drop, move, name ===== -/
theorem sp37a {X : am_X} {M : am_M} {N : am_N} {x w : Int32} (h1 : ¬ (0 ≤ x.toInt ∧ x.toInt < (M 18 7).toInt)) : am_J X (am_eq (some (.int (-1))) (M) N) 37 0 (am_en 37 [.ref 0, .int x, .int w]) [] M N := by
  refine J_en (L := [.ref 0, .int x, .int w]) rfl ?_
  refine J_b 4 am_d37 rfl ?_
  refine J_S2s 13 (am_d37 rfl) rfl rfl (sp13) ?_
  refine J_if_ne 16 (am_d37 rfl) rfl (fun h11 => ?_) (fun h11 => ?_)
  · exact absurd (show 0 ≤ x.toInt ∧ x.toInt < (M 18 7).toInt by simp [am_bi0, am_bi1] at * <;> omega) h1
  · refine J_b 1 am_d37 rfl ?_
    exact J_iret (am_d37 rfl) rfl rfl ⟨rfl, rfl, rfl⟩
theorem sp37b {X : am_X} {M : am_M} {N : am_N} {x w : Int32} (h1 : 0 ≤ x.toInt ∧ x.toInt < (M 18 7).toInt) (h2 : w.toInt < 0 ∨ 5 < w.toInt) : am_J X (am_eq (some (.int (-1))) (M) N) 37 0 (am_en 37 [.ref 0, .int x, .int w]) [] M N := by
  refine J_en (L := [.ref 0, .int x, .int w]) rfl ?_
  refine J_b 4 am_d37 rfl ?_
  refine J_S2s 13 (am_d37 rfl) rfl rfl (sp13) ?_
  refine J_if_ne 16 (am_d37 rfl) rfl (fun h11 => ?_) (fun h11 => (by exfalso; simp [am_bi0, am_bi1] at * <;> omega))
  refine J_b 1 am_d37 rfl ?_
  refine J_tsOut 116 (am_d37 rfl) h2 rfl ?_
  refine J_b 1 am_d37 rfl ?_
  exact J_iret (am_d37 rfl) rfl rfl ⟨rfl, rfl, rfl⟩
theorem sp37c_0 {X : am_X} {M : am_M} {N : am_N} {x : Int32} (h1 : 0 ≤ x.toInt ∧ x.toInt < (M 18 7).toInt) (h5 : x.toInt < 5) : am_J X (am_eq (some (.int (M 19 x.toNatClampNeg))) (M) N) 37 0 (am_en 37 [.ref 0, .int x, .int (0 : Int32)]) [] M N := by
  refine J_en (L := [.ref 0, .int x, .int (0 : Int32)]) rfl ?_
  refine J_b 4 am_d37 rfl ?_
  refine J_S2s 13 (am_d37 rfl) rfl rfl (sp13) ?_
  refine J_if_ne 16 (am_d37 rfl) rfl (fun h11 => ?_) (fun h11 => (by exfalso; simp [am_bi0, am_bi1] at * <;> omega))
  refine J_b 1 am_d37 rfl ?_
  refine J_tsIn 56 (am_d37 rfl) (by decide) (by decide) rfl rfl ?_
  refine J_b 4 am_d37 rfl ?_
  refine J_iald (am_d37 rfl) rfl (vp_of (by omega)) ?_
  exact J_iret (am_d37 rfl) rfl rfl ⟨rfl, rfl, rfl⟩
theorem sp37c_1 {X : am_X} {M : am_M} {N : am_N} {x : Int32} (h1 : 0 ≤ x.toInt ∧ x.toInt < (M 18 7).toInt) (h5 : x.toInt < 5) : am_J X (am_eq (some (.int (M 20 x.toNatClampNeg))) (M) N) 37 0 (am_en 37 [.ref 0, .int x, .int (1 : Int32)]) [] M N := by
  refine J_en (L := [.ref 0, .int x, .int (1 : Int32)]) rfl ?_
  refine J_b 4 am_d37 rfl ?_
  refine J_S2s 13 (am_d37 rfl) rfl rfl (sp13) ?_
  refine J_if_ne 16 (am_d37 rfl) rfl (fun h11 => ?_) (fun h11 => (by exfalso; simp [am_bi0, am_bi1] at * <;> omega))
  refine J_b 1 am_d37 rfl ?_
  refine J_tsIn 66 (am_d37 rfl) (by decide) (by decide) rfl rfl ?_
  refine J_b 4 am_d37 rfl ?_
  refine J_iald (am_d37 rfl) rfl (vp_of (by omega)) ?_
  exact J_iret (am_d37 rfl) rfl rfl ⟨rfl, rfl, rfl⟩
theorem sp37c_2 {X : am_X} {M : am_M} {N : am_N} {x : Int32} (h1 : 0 ≤ x.toInt ∧ x.toInt < (M 18 7).toInt) (h5 : x.toInt < 5) : am_J X (am_eq (some (.int (M 21 x.toNatClampNeg))) (M) N) 37 0 (am_en 37 [.ref 0, .int x, .int (2 : Int32)]) [] M N := by
  refine J_en (L := [.ref 0, .int x, .int (2 : Int32)]) rfl ?_
  refine J_b 4 am_d37 rfl ?_
  refine J_S2s 13 (am_d37 rfl) rfl rfl (sp13) ?_
  refine J_if_ne 16 (am_d37 rfl) rfl (fun h11 => ?_) (fun h11 => (by exfalso; simp [am_bi0, am_bi1] at * <;> omega))
  refine J_b 1 am_d37 rfl ?_
  refine J_tsIn 76 (am_d37 rfl) (by decide) (by decide) rfl rfl ?_
  refine J_b 4 am_d37 rfl ?_
  refine J_iald (am_d37 rfl) rfl (vp_of (by omega)) ?_
  exact J_iret (am_d37 rfl) rfl rfl ⟨rfl, rfl, rfl⟩
theorem sp37c_3 {X : am_X} {M : am_M} {N : am_N} {x : Int32} (h1 : 0 ≤ x.toInt ∧ x.toInt < (M 18 7).toInt) (h5 : x.toInt < 5) : am_J X (am_eq (some (.int (M 22 x.toNatClampNeg))) (M) N) 37 0 (am_en 37 [.ref 0, .int x, .int (3 : Int32)]) [] M N := by
  refine J_en (L := [.ref 0, .int x, .int (3 : Int32)]) rfl ?_
  refine J_b 4 am_d37 rfl ?_
  refine J_S2s 13 (am_d37 rfl) rfl rfl (sp13) ?_
  refine J_if_ne 16 (am_d37 rfl) rfl (fun h11 => ?_) (fun h11 => (by exfalso; simp [am_bi0, am_bi1] at * <;> omega))
  refine J_b 1 am_d37 rfl ?_
  refine J_tsIn 86 (am_d37 rfl) (by decide) (by decide) rfl rfl ?_
  refine J_b 4 am_d37 rfl ?_
  refine J_iald (am_d37 rfl) rfl (vp_of (by omega)) ?_
  exact J_iret (am_d37 rfl) rfl rfl ⟨rfl, rfl, rfl⟩
theorem sp37c_4 {X : am_X} {M : am_M} {N : am_N} {x : Int32} (h1 : 0 ≤ x.toInt ∧ x.toInt < (M 18 7).toInt) (h5 : x.toInt < 5) : am_J X (am_eq (some (.int (M 23 x.toNatClampNeg))) (M) N) 37 0 (am_en 37 [.ref 0, .int x, .int (4 : Int32)]) [] M N := by
  refine J_en (L := [.ref 0, .int x, .int (4 : Int32)]) rfl ?_
  refine J_b 4 am_d37 rfl ?_
  refine J_S2s 13 (am_d37 rfl) rfl rfl (sp13) ?_
  refine J_if_ne 16 (am_d37 rfl) rfl (fun h11 => ?_) (fun h11 => (by exfalso; simp [am_bi0, am_bi1] at * <;> omega))
  refine J_b 1 am_d37 rfl ?_
  refine J_tsIn 96 (am_d37 rfl) (by decide) (by decide) rfl rfl ?_
  refine J_b 4 am_d37 rfl ?_
  refine J_iald (am_d37 rfl) rfl (vp_of (by omega)) ?_
  exact J_iret (am_d37 rfl) rfl rfl ⟨rfl, rfl, rfl⟩
theorem sp37c_5 {X : am_X} {M : am_M} {N : am_N} {x : Int32} (h1 : 0 ≤ x.toInt ∧ x.toInt < (M 18 7).toInt) (h5 : x.toInt < 5) : am_J X (am_eq (some (.int (M 24 x.toNatClampNeg))) (M) N) 37 0 (am_en 37 [.ref 0, .int x, .int (5 : Int32)]) [] M N := by
  refine J_en (L := [.ref 0, .int x, .int (5 : Int32)]) rfl ?_
  refine J_b 4 am_d37 rfl ?_
  refine J_S2s 13 (am_d37 rfl) rfl rfl (sp13) ?_
  refine J_if_ne 16 (am_d37 rfl) rfl (fun h11 => ?_) (fun h11 => (by exfalso; simp [am_bi0, am_bi1] at * <;> omega))
  refine J_b 1 am_d37 rfl ?_
  refine J_tsIn 106 (am_d37 rfl) (by decide) (by decide) rfl rfl ?_
  refine J_b 4 am_d37 rfl ?_
  refine J_iald (am_d37 rfl) rfl (vp_of (by omega)) ?_
  exact J_iret (am_d37 rfl) rfl rfl ⟨rfl, rfl, rfl⟩
theorem sp151a {X : am_X} {M : am_M} {N : am_N} {x w : Int32} (h1 : ¬ (0 ≤ x.toInt ∧ x.toInt < (M 120 22).toInt)) : am_J X (am_eq (some (.int (-1))) (M) N) 151 0 (am_en 151 [.ref 120, .int x, .int w]) [] M N := by
  refine J_en (L := [.ref 120, .int x, .int w]) rfl ?_
  refine J_b 2 am_d151 rfl ?_
  refine J_V1s 152 (am_d151 rfl) rfl rfl (sp152) ?_
  refine J_if_ne 10 (am_d151 rfl) rfl (fun h5 => ?_) (fun h5 => ?_)
  · exact absurd (show 0 ≤ x.toInt ∧ x.toInt < (M 120 22).toInt by simp [am_bi0, am_bi1] at * <;> omega) h1
  · refine J_b 1 am_d151 rfl ?_
    exact J_iret (am_d151 rfl) rfl rfl ⟨rfl, rfl, rfl⟩
theorem sp151b {X : am_X} {M : am_M} {N : am_N} {x w : Int32} (h1 : 0 ≤ x.toInt ∧ x.toInt < (M 120 22).toInt) (h2 : w.toInt < 0 ∨ 5 < w.toInt) : am_J X (am_eq (some (.int (-1))) (M) N) 151 0 (am_en 151 [.ref 120, .int x, .int w]) [] M N := by
  refine J_en (L := [.ref 120, .int x, .int w]) rfl ?_
  refine J_b 2 am_d151 rfl ?_
  refine J_V1s 152 (am_d151 rfl) rfl rfl (sp152) ?_
  refine J_if_ne 10 (am_d151 rfl) rfl (fun h5 => ?_) (fun h5 => (by exfalso; simp [am_bi0, am_bi1] at * <;> omega))
  refine J_b 1 am_d151 rfl ?_
  refine J_tsOut 90 (am_d151 rfl) h2 rfl ?_
  refine J_b 1 am_d151 rfl ?_
  exact J_iret (am_d151 rfl) rfl rfl ⟨rfl, rfl, rfl⟩
theorem sp151c_0 {X : am_X} {M : am_M} {N : am_N} {x : Int32} (h1 : 0 ≤ x.toInt ∧ x.toInt < (M 120 22).toInt) (h5 : x.toInt < 5) : am_J X (am_eq (some (.int (M 136 x.toNatClampNeg))) (M) N) 151 0 (am_en 151 [.ref 120, .int x, .int (0 : Int32)]) [] M N := by
  refine J_en (L := [.ref 120, .int x, .int (0 : Int32)]) rfl ?_
  refine J_b 2 am_d151 rfl ?_
  refine J_V1s 152 (am_d151 rfl) rfl rfl (sp152) ?_
  refine J_if_ne 10 (am_d151 rfl) rfl (fun h5 => ?_) (fun h5 => (by exfalso; simp [am_bi0, am_bi1] at * <;> omega))
  refine J_b 1 am_d151 rfl ?_
  refine J_tsIn 48 (am_d151 rfl) (by decide) (by decide) rfl rfl ?_
  refine J_b 3 am_d151 rfl ?_
  refine J_iald (am_d151 rfl) rfl (vp_of (by omega)) ?_
  exact J_iret (am_d151 rfl) rfl rfl ⟨rfl, rfl, rfl⟩
theorem sp151c_1 {X : am_X} {M : am_M} {N : am_N} {x : Int32} (h1 : 0 ≤ x.toInt ∧ x.toInt < (M 120 22).toInt) (h5 : x.toInt < 5) : am_J X (am_eq (some (.int (M 137 x.toNatClampNeg))) (M) N) 151 0 (am_en 151 [.ref 120, .int x, .int (1 : Int32)]) [] M N := by
  refine J_en (L := [.ref 120, .int x, .int (1 : Int32)]) rfl ?_
  refine J_b 2 am_d151 rfl ?_
  refine J_V1s 152 (am_d151 rfl) rfl rfl (sp152) ?_
  refine J_if_ne 10 (am_d151 rfl) rfl (fun h5 => ?_) (fun h5 => (by exfalso; simp [am_bi0, am_bi1] at * <;> omega))
  refine J_b 1 am_d151 rfl ?_
  refine J_tsIn 55 (am_d151 rfl) (by decide) (by decide) rfl rfl ?_
  refine J_b 3 am_d151 rfl ?_
  refine J_iald (am_d151 rfl) rfl (vp_of (by omega)) ?_
  exact J_iret (am_d151 rfl) rfl rfl ⟨rfl, rfl, rfl⟩
theorem sp151c_2 {X : am_X} {M : am_M} {N : am_N} {x : Int32} (h1 : 0 ≤ x.toInt ∧ x.toInt < (M 120 22).toInt) (h5 : x.toInt < 5) : am_J X (am_eq (some (.int (M 138 x.toNatClampNeg))) (M) N) 151 0 (am_en 151 [.ref 120, .int x, .int (2 : Int32)]) [] M N := by
  refine J_en (L := [.ref 120, .int x, .int (2 : Int32)]) rfl ?_
  refine J_b 2 am_d151 rfl ?_
  refine J_V1s 152 (am_d151 rfl) rfl rfl (sp152) ?_
  refine J_if_ne 10 (am_d151 rfl) rfl (fun h5 => ?_) (fun h5 => (by exfalso; simp [am_bi0, am_bi1] at * <;> omega))
  refine J_b 1 am_d151 rfl ?_
  refine J_tsIn 62 (am_d151 rfl) (by decide) (by decide) rfl rfl ?_
  refine J_b 3 am_d151 rfl ?_
  refine J_iald (am_d151 rfl) rfl (vp_of (by omega)) ?_
  exact J_iret (am_d151 rfl) rfl rfl ⟨rfl, rfl, rfl⟩
theorem sp151c_3 {X : am_X} {M : am_M} {N : am_N} {x : Int32} (h1 : 0 ≤ x.toInt ∧ x.toInt < (M 120 22).toInt) (h5 : x.toInt < 5) : am_J X (am_eq (some (.int (M 139 x.toNatClampNeg))) (M) N) 151 0 (am_en 151 [.ref 120, .int x, .int (3 : Int32)]) [] M N := by
  refine J_en (L := [.ref 120, .int x, .int (3 : Int32)]) rfl ?_
  refine J_b 2 am_d151 rfl ?_
  refine J_V1s 152 (am_d151 rfl) rfl rfl (sp152) ?_
  refine J_if_ne 10 (am_d151 rfl) rfl (fun h5 => ?_) (fun h5 => (by exfalso; simp [am_bi0, am_bi1] at * <;> omega))
  refine J_b 1 am_d151 rfl ?_
  refine J_tsIn 69 (am_d151 rfl) (by decide) (by decide) rfl rfl ?_
  refine J_b 3 am_d151 rfl ?_
  refine J_iald (am_d151 rfl) rfl (vp_of (by omega)) ?_
  exact J_iret (am_d151 rfl) rfl rfl ⟨rfl, rfl, rfl⟩
theorem sp151c_4 {X : am_X} {M : am_M} {N : am_N} {x : Int32} (h1 : 0 ≤ x.toInt ∧ x.toInt < (M 120 22).toInt) (h5 : x.toInt < 5) : am_J X (am_eq (some (.int (M 140 x.toNatClampNeg))) (M) N) 151 0 (am_en 151 [.ref 120, .int x, .int (4 : Int32)]) [] M N := by
  refine J_en (L := [.ref 120, .int x, .int (4 : Int32)]) rfl ?_
  refine J_b 2 am_d151 rfl ?_
  refine J_V1s 152 (am_d151 rfl) rfl rfl (sp152) ?_
  refine J_if_ne 10 (am_d151 rfl) rfl (fun h5 => ?_) (fun h5 => (by exfalso; simp [am_bi0, am_bi1] at * <;> omega))
  refine J_b 1 am_d151 rfl ?_
  refine J_tsIn 76 (am_d151 rfl) (by decide) (by decide) rfl rfl ?_
  refine J_b 3 am_d151 rfl ?_
  refine J_iald (am_d151 rfl) rfl (vp_of (by omega)) ?_
  exact J_iret (am_d151 rfl) rfl rfl ⟨rfl, rfl, rfl⟩
theorem sp151c_5 {X : am_X} {M : am_M} {N : am_N} {x : Int32} (h1 : 0 ≤ x.toInt ∧ x.toInt < (M 120 22).toInt) (h5 : x.toInt < 5) : am_J X (am_eq (some (.int (M 141 x.toNatClampNeg))) (M) N) 151 0 (am_en 151 [.ref 120, .int x, .int (5 : Int32)]) [] M N := by
  refine J_en (L := [.ref 120, .int x, .int (5 : Int32)]) rfl ?_
  refine J_b 2 am_d151 rfl ?_
  refine J_V1s 152 (am_d151 rfl) rfl rfl (sp152) ?_
  refine J_if_ne 10 (am_d151 rfl) rfl (fun h5 => ?_) (fun h5 => (by exfalso; simp [am_bi0, am_bi1] at * <;> omega))
  refine J_b 1 am_d151 rfl ?_
  refine J_tsIn 83 (am_d151 rfl) (by decide) (by decide) rfl rfl ?_
  refine J_b 3 am_d151 rfl ?_
  refine J_iald (am_d151 rfl) rfl (vp_of (by omega)) ?_
  exact J_iret (am_d151 rfl) rfl rfl ⟨rfl, rfl, rfl⟩
theorem am_ix6 {w : Int32} (h : ¬ (w.toInt < 0 ∨ 5 < w.toInt)) : w = 0 ∨ w = 1 ∨ w = 2 ∨ w = 3 ∨ w = 4 ∨ w = 5 := by
  have h2 : w.toInt = 0 ∨ w.toInt = 1 ∨ w.toInt = 2 ∨ w.toInt = 3 ∨ w.toInt = 4 ∨ w.toInt = 5 := by omega
  rcases h2 with h2 | h2 | h2 | h2 | h2 | h2
  · exact .inl (I_eq h2)
  · exact .inr (.inl (I_eq h2))
  · exact .inr (.inr (.inl (I_eq h2)))
  · exact .inr (.inr (.inr (.inl (I_eq h2))))
  · exact .inr (.inr (.inr (.inr (.inl (I_eq h2)))))
  · exact .inr (.inr (.inr (.inr (.inr (I_eq h2)))))
theorem pr_about {X : am_X} (x w : Int32) : am_pI iv X 37 151 [.int x, .int w] := by
  intro c M N hc h
  have e := h.1.2.1.1.2
  have e1 := h.1.2.1.1.1
  have e5 := h.1.2.1.2.1.2
  by_cases h1 : 0 ≤ x.toInt ∧ x.toInt < (M 18 7).toInt
  rotate_left
  · exact pr_e (sp37a h1) (sp151a (by rw [e]; exact h1)) (iv_up _ _ _ h)
  by_cases h2 : w.toInt < 0 ∨ 5 < w.toInt
  · exact pr_e (sp37b h1 h2) (sp151b (by rw [e]; exact h1) h2) (iv_up _ _ _ h)
  rcases am_ix6 h2 with rfl | rfl | rfl | rfl | rfl | rfl
  · have q := sp151c_0 (X := X) (M := M) (N := N) (x := x) (by rw [e]; exact h1) (by omega)
    rw [e1.1] at q
    exact pr_e (sp37c_0 h1 (by omega)) q (iv_up _ _ _ h)
  · have q := sp151c_1 (X := X) (M := M) (N := N) (x := x) (by rw [e]; exact h1) (by omega)
    rw [e1.2.1] at q
    exact pr_e (sp37c_1 h1 (by omega)) q (iv_up _ _ _ h)
  · have q := sp151c_2 (X := X) (M := M) (N := N) (x := x) (by rw [e]; exact h1) (by omega)
    rw [e1.2.2.1] at q
    exact pr_e (sp37c_2 h1 (by omega)) q (iv_up _ _ _ h)
  · have q := sp151c_3 (X := X) (M := M) (N := N) (x := x) (by rw [e]; exact h1) (by omega)
    rw [e1.2.2.2.1] at q
    exact pr_e (sp37c_3 h1 (by omega)) q (iv_up _ _ _ h)
  · have q := sp151c_4 (X := X) (M := M) (N := N) (x := x) (by rw [e]; exact h1) (by omega)
    rw [e1.2.2.2.2.1] at q
    exact pr_e (sp37c_4 h1 (by omega)) q (iv_up _ _ _ h)
  · have q := sp151c_5 (X := X) (M := M) (N := N) (x := x) (by rw [e]; exact h1) (by omega)
    rw [e1.2.2.2.2.2.1] at q
    exact pr_e (sp37c_5 h1 (by omega)) q (iv_up _ _ _ h)
theorem sp67a {X : am_X} {M : am_M} {N : am_N} {x : Int32} (h1 : ¬ ((M 0 11).toInt ≤ x.toInt ∧ x.toInt ≤ 999)) : am_J X (am_eq (some (.int (-2))) (M) N) 67 0 (am_en 67 [.ref 0, .int x]) [] M N := by
  refine J_en (L := [.ref 0, .int x, .retAddr 0]) rfl ?_
  refine J_b 3 am_d67 rfl ?_
  refine J_icmp_lt 15 (am_d67 rfl) rfl (fun h5 => ?_) (fun h5 => ?_)
  · refine J_b 1 am_d67 rfl ?_
    exact J_iret (am_d67 rfl) rfl rfl ⟨rfl, rfl, rfl⟩
  · refine J_b 2 am_d67 rfl ?_
    refine J_icmp_le 18 (am_d67 rfl) rfl (fun h12 => ?_) (fun h12 => ?_)
    · exact absurd (show (M 0 11).toInt ≤ x.toInt ∧ x.toInt ≤ 999 by simp [am_bi0, am_bi1, Int32.lt_iff_toInt_lt, Int32.le_iff_toInt_le] at * <;> omega) h1
    · refine J_b 1 am_d67 rfl ?_
      exact J_iret (am_d67 rfl) rfl rfl ⟨rfl, rfl, rfl⟩
theorem sp67c {X : am_X} {M : am_M} {N : am_N} {x : Int32} (h1 : (M 0 11).toInt ≤ x.toInt ∧ x.toInt ≤ 999) : am_J X (am_eq (some (.int (M 0 11))) (am_up M 0 11 x) N) 67 0 (am_en 67 [.ref 0, .int x]) [] M N := by
  refine J_en (L := [.ref 0, .int x, .retAddr 0]) rfl ?_
  refine J_b 3 am_d67 rfl ?_
  refine J_icmp_lt 15 (am_d67 rfl) rfl (fun h5 => ?_) (fun h5 => ?_)
  · refine J_b 1 am_d67 rfl ?_
    exact J_iret (am_d67 rfl) rfl rfl (by first | exact ⟨rfl, rfl, rfl⟩ | (exfalso; simp [am_bi0, am_bi1, Int32.lt_iff_toInt_lt, Int32.le_iff_toInt_le] at * <;> omega))
  · refine J_b 2 am_d67 rfl ?_
    refine J_icmp_le 18 (am_d67 rfl) rfl (fun h12 => ?_) (fun h12 => ?_)
    · refine J_b 5 am_d67 rfl ?_
      refine J_puti (am_d67 rfl) rfl ?_
      refine J_b 1 am_d67 rfl ?_
      exact J_iret (am_d67 rfl) rfl rfl (by first | exact ⟨rfl, rfl, rfl⟩ | (exfalso; simp [am_bi0, am_bi1, Int32.lt_iff_toInt_lt, Int32.le_iff_toInt_le] at * <;> omega))
    · refine J_b 1 am_d67 rfl ?_
      exact J_iret (am_d67 rfl) rfl rfl (by first | exact ⟨rfl, rfl, rfl⟩ | (exfalso; simp [am_bi0, am_bi1, Int32.lt_iff_toInt_lt, Int32.le_iff_toInt_le] at * <;> omega))
theorem sp166a {X : am_X} {M : am_M} {N : am_N} {x : Int32} (h1 : ¬ ((M 120 45).toInt ≤ x.toInt ∧ x.toInt ≤ 999)) : am_J X (am_eq (some (.int (-2))) (M) N) 166 0 (am_en 166 [.ref 120, .int x]) [] M N := by
  refine J_en (L := [.ref 120, .int x, .retAddr 0]) rfl ?_
  refine J_b 6 am_d166 rfl ?_
  refine J_S3s 140 (am_d166 rfl) rfl rfl (sp140) ?_
  refine J_if_ne 19 (am_d166 rfl) rfl (fun h13 => ?_) (fun h13 => ?_)
  · exact absurd (show (M 120 45).toInt ≤ x.toInt ∧ x.toInt ≤ 999 by simp [am_bi0, am_bi1, Int32.lt_iff_toInt_lt, Int32.le_iff_toInt_le] at * <;> omega) h1
  · refine J_b 1 am_d166 rfl ?_
    exact J_iret (am_d166 rfl) rfl rfl ⟨rfl, rfl, rfl⟩
theorem sp166c {X : am_X} {M : am_M} {N : am_N} {x : Int32} (h1 : (M 120 45).toInt ≤ x.toInt ∧ x.toInt ≤ 999) : am_J X (am_eq (some (.int (M 120 45))) (am_up M 120 45 x) N) 166 0 (am_en 166 [.ref 120, .int x]) [] M N := by
  refine J_en (L := [.ref 120, .int x, .retAddr 0]) rfl ?_
  refine J_b 6 am_d166 rfl ?_
  refine J_S3s 140 (am_d166 rfl) rfl rfl (sp140) ?_
  refine J_if_ne 19 (am_d166 rfl) rfl (fun h13 => ?_) (fun h13 => ?_)
  · refine J_b 5 am_d166 rfl ?_
    refine J_puti (am_d166 rfl) rfl ?_
    refine J_b 1 am_d166 rfl ?_
    exact J_iret (am_d166 rfl) rfl rfl (by first | exact ⟨rfl, rfl, rfl⟩ | (exfalso; simp [am_bi0, am_bi1, Int32.lt_iff_toInt_lt, Int32.le_iff_toInt_le] at * <;> omega))
  · refine J_b 1 am_d166 rfl ?_
    exact J_iret (am_d166 rfl) rfl rfl (by first | exact ⟨rfl, rfl, rfl⟩ | (exfalso; simp [am_bi0, am_bi1, Int32.lt_iff_toInt_lt, Int32.le_iff_toInt_le] at * <;> omega))
theorem pr_clock {X : am_X} (x : Int32) : am_pI iv X 67 166 [.int x] := by
  intro c M N hc h
  have e : M 120 45 = M 0 11 := h.2.1.1
  by_cases h1 : (M 0 11).toInt ≤ x.toInt ∧ x.toInt ≤ 999
  rotate_left
  · exact pr_e (sp67a h1) (sp166a (by rw [e]; exact h1)) (iv_up _ _ _ h)
  have q := sp166c (X := X) (M := am_up M 0 11 x) (N := N) (x := x) (by show (M 120 45).toInt ≤ _ ∧ _; rw [e]; exact h1)
  rw [show am_up M 0 11 x 120 45 = M 0 11 from e] at q
  refine pr_e (sp67c h1) q ?_
  obtain ⟨⟨⟨hs, hb⟩, ⟨hca, hcb⟩, ⟨hna, hnb⟩, ⟨hfi, hfb⟩⟩, ⟨hti, hta, hpr⟩, hcc, hch, hkl, hkd⟩ := h
  obtain ⟨g1, g2, g3⟩ := ch_eq (M' := am_up (am_up M 0 11 x) 120 45 x) hch hkl hkd hcb (fun k k1 k2 => by (repeat (first | rw [up_n] | rw [upR_n])) <;> omega) ⟨rfl, rfl, rfl, rfl, rfl⟩ rfl ⟨rfl, rfl, rfl, rfl, rfl⟩ ⟨rfl, rfl, rfl, rfl, rfl⟩
  exact ⟨⟨⟨hs, hb⟩, ⟨hca, hcb⟩, ⟨hna, hnb⟩, ⟨hfi, hfb⟩⟩, ⟨rfl, hta, hpr⟩, cc_of hcc hfb (fun k k1 k2 => by (repeat (first | rw [up_n] | rw [upR_n])) <;> omega) ⟨rfl, rfl, rfl, rfl, rfl, rfl, rfl⟩, g1, g2, g3⟩
theorem sp68a {X : am_X} {M : am_M} {N : am_N} {x w : Int32} (h1 : ¬ (0 ≤ x.toInt ∧ x.toInt < (M 32 7).toInt)) : am_J X (am_eq (some (.int (-1))) (M) N) 68 0 (am_en 68 [.ref 0, .int x, .int w]) [] M N := by
  refine J_en (L := [.ref 0, .int x, .int w, .retAddr 0]) rfl ?_
  refine J_b 4 am_d68 rfl ?_
  refine J_S2s 13 (am_d68 rfl) rfl rfl (sp13) ?_
  refine J_if_ne 16 (am_d68 rfl) rfl (fun h11 => (by exfalso; simp [am_bi0, am_bi1] at * <;> omega)) (fun h11 => ?_)
  refine J_b 1 am_d68 rfl ?_
  exact J_iret (am_d68 rfl) rfl rfl ⟨rfl, rfl, rfl⟩
theorem sp68b {X : am_X} {M : am_M} {N : am_N} {x w : Int32} (h1 : 0 ≤ x.toInt ∧ x.toInt < (M 32 7).toInt) (h2 : ¬ (0 ≤ w.toInt ∧ w.toInt ≤ 1)) : am_J X (am_eq (some (.int (-2))) (M) N) 68 0 (am_en 68 [.ref 0, .int x, .int w]) [] M N := by
  refine J_en (L := [.ref 0, .int x, .int w, .retAddr 0]) rfl ?_
  refine J_b 4 am_d68 rfl ?_
  refine J_S2s 13 (am_d68 rfl) rfl rfl (sp13) ?_
  refine J_if_ne 16 (am_d68 rfl) rfl (fun h11 => ?_) (fun h11 => (by exfalso; simp [am_bi0, am_bi1] at * <;> omega))
  refine J_b 3 am_d68 rfl ?_
  refine J_S3s 14 (am_d68 rfl) rfl rfl (sp14) ?_
  refine J_if_ne 28 (am_d68 rfl) rfl (fun h22 => (by exfalso; simp [am_bi0, am_bi1] at * <;> omega)) (fun h22 => ?_)
  refine J_b 1 am_d68 rfl ?_
  exact J_iret (am_d68 rfl) rfl rfl ⟨rfl, rfl, rfl⟩
theorem sp68c {X : am_X} {M : am_M} {N : am_N} {x w : Int32} (h1 : 0 ≤ x.toInt ∧ x.toInt < (M 32 7).toInt) (h2 : 0 ≤ w.toInt ∧ w.toInt ≤ 1) (h5 : x.toInt < 16) : am_J X (am_eq (some (.int (if M 39 x.toNatClampNeg = 0 then 0 else 1))) (am_up M 39 x.toNatClampNeg (vp_nar .boolean (if w = 1 then 1 else 0))) N) 68 0 (am_en 68 [.ref 0, .int x, .int w]) [] M N := by
  refine J_en (L := [.ref 0, .int x, .int w, .retAddr 0]) rfl ?_
  refine J_b 4 am_d68 rfl ?_
  refine J_S2s 13 (am_d68 rfl) rfl rfl (sp13) ?_
  refine J_if_ne 16 (am_d68 rfl) rfl (fun h11 => ?_) (fun h11 => (by exfalso; simp [am_bi0, am_bi1] at * <;> omega))
  refine J_b 3 am_d68 rfl ?_
  refine J_S3s 14 (am_d68 rfl) rfl rfl (sp14) ?_
  refine J_if_ne 28 (am_d68 rfl) rfl (fun h22 => ?_) (fun h22 => (by exfalso; simp [am_bi0, am_bi1] at * <;> omega))
  refine J_b 4 am_d68 rfl ?_
  refine J_zald (am_d68 rfl) rfl (vp_of (by omega)) ?_
  refine J_if_eq 44 (am_d68 rfl) rfl (fun h37 => ?_) (fun h37 => ?_)
  · refine J_b 8 am_d68 rfl ?_
    refine J_icmp_ne 63 (am_d68 rfl) rfl (fun h56 => ?_) (fun h56 => ?_)
    · refine J_b 1 am_d68 rfl ?_
      refine J_zast (am_d68 rfl) rfl (vp_of (by omega)) ?_
      refine J_b 1 am_d68 rfl ?_
      exact J_iret (am_d68 rfl) rfl rfl ⟨by simp [*], by have hw := h56; first | exact congrArg (fun z => am_up M 39 x.toNatClampNeg (vp_nar .boolean z)) (if_neg (show ¬ w = 1 from hw)).symm | exact congrArg (fun z => am_up M 39 x.toNatClampNeg (vp_nar .boolean z)) (if_pos (show w = 1 from hw)).symm, rfl⟩
    · refine J_b 2 am_d68 rfl ?_
      refine J_zast (am_d68 rfl) rfl (vp_of (by omega)) ?_
      refine J_b 1 am_d68 rfl ?_
      exact J_iret (am_d68 rfl) rfl rfl ⟨by simp [*], by have hw := h56; first | exact congrArg (fun z => am_up M 39 x.toNatClampNeg (vp_nar .boolean z)) (if_neg (show ¬ w = 1 from hw)).symm | exact congrArg (fun z => am_up M 39 x.toNatClampNeg (vp_nar .boolean z)) (if_pos (show w = 1 from hw)).symm, rfl⟩
  · refine J_b 9 am_d68 rfl ?_
    refine J_icmp_ne 63 (am_d68 rfl) rfl (fun h56 => ?_) (fun h56 => ?_)
    · refine J_b 1 am_d68 rfl ?_
      refine J_zast (am_d68 rfl) rfl (vp_of (by omega)) ?_
      refine J_b 1 am_d68 rfl ?_
      exact J_iret (am_d68 rfl) rfl rfl ⟨by simp [*], by have hw := h56; first | exact congrArg (fun z => am_up M 39 x.toNatClampNeg (vp_nar .boolean z)) (if_neg (show ¬ w = 1 from hw)).symm | exact congrArg (fun z => am_up M 39 x.toNatClampNeg (vp_nar .boolean z)) (if_pos (show w = 1 from hw)).symm, rfl⟩
    · refine J_b 2 am_d68 rfl ?_
      refine J_zast (am_d68 rfl) rfl (vp_of (by omega)) ?_
      refine J_b 1 am_d68 rfl ?_
      exact J_iret (am_d68 rfl) rfl rfl ⟨by simp [*], by have hw := h56; first | exact congrArg (fun z => am_up M 39 x.toNatClampNeg (vp_nar .boolean z)) (if_neg (show ¬ w = 1 from hw)).symm | exact congrArg (fun z => am_up M 39 x.toNatClampNeg (vp_nar .boolean z)) (if_pos (show w = 1 from hw)).symm, rfl⟩
theorem sp167a {X : am_X} {M : am_M} {N : am_N} {x w : Int32} (h1 : ¬ (0 ≤ x.toInt ∧ x.toInt < (M 120 44).toInt)) : am_J X (am_eq (some (.int (-1))) (M) N) 167 0 (am_en 167 [.ref 120, .int x, .int w]) [] M N := by
  refine J_en (L := [.ref 120, .int x, .int w, .retAddr 0]) rfl ?_
  refine J_b 2 am_d167 rfl ?_
  refine J_V1s 168 (am_d167 rfl) rfl rfl (sp168) ?_
  refine J_if_ne 10 (am_d167 rfl) rfl (fun h5 => (by exfalso; simp [am_bi0, am_bi1] at * <;> omega)) (fun h5 => ?_)
  refine J_b 1 am_d167 rfl ?_
  exact J_iret (am_d167 rfl) rfl rfl ⟨rfl, rfl, rfl⟩
theorem sp167b {X : am_X} {M : am_M} {N : am_N} {x w : Int32} (h1 : 0 ≤ x.toInt ∧ x.toInt < (M 120 44).toInt) (h2 : ¬ (0 ≤ w.toInt ∧ w.toInt ≤ 1)) : am_J X (am_eq (some (.int (-2))) (M) N) 167 0 (am_en 167 [.ref 120, .int x, .int w]) [] M N := by
  refine J_en (L := [.ref 120, .int x, .int w, .retAddr 0]) rfl ?_
  refine J_b 2 am_d167 rfl ?_
  refine J_V1s 168 (am_d167 rfl) rfl rfl (sp168) ?_
  refine J_if_ne 10 (am_d167 rfl) rfl (fun h5 => ?_) (fun h5 => (by exfalso; simp [am_bi0, am_bi1] at * <;> omega))
  refine J_b 4 am_d167 rfl ?_
  refine J_S3s 140 (am_d167 rfl) rfl rfl (sp140) ?_
  refine J_if_ne 23 (am_d167 rfl) rfl (fun h17 => (by exfalso; simp [am_bi0, am_bi1] at * <;> omega)) (fun h17 => ?_)
  refine J_b 1 am_d167 rfl ?_
  exact J_iret (am_d167 rfl) rfl rfl ⟨rfl, rfl, rfl⟩
theorem sp167c {X : am_X} {M : am_M} {N : am_N} {x w : Int32} (h1 : 0 ≤ x.toInt ∧ x.toInt < (M 120 44).toInt) (h2 : 0 ≤ w.toInt ∧ w.toInt ≤ 1) (h5 : x.toInt < 16) : am_J X (am_eq (some (.int (if M 159 x.toNatClampNeg = 0 then 0 else 1))) (am_up M 159 x.toNatClampNeg (vp_nar .boolean (if w = 1 then 1 else 0))) N) 167 0 (am_en 167 [.ref 120, .int x, .int w]) [] M N := by
  refine J_en (L := [.ref 120, .int x, .int w, .retAddr 0]) rfl ?_
  refine J_b 2 am_d167 rfl ?_
  refine J_V1s 168 (am_d167 rfl) rfl rfl (sp168) ?_
  refine J_if_ne 10 (am_d167 rfl) rfl (fun h5 => ?_) (fun h5 => (by exfalso; simp [am_bi0, am_bi1] at * <;> omega))
  refine J_b 4 am_d167 rfl ?_
  refine J_S3s 140 (am_d167 rfl) rfl rfl (sp140) ?_
  refine J_if_ne 23 (am_d167 rfl) rfl (fun h17 => ?_) (fun h17 => (by exfalso; simp [am_bi0, am_bi1] at * <;> omega))
  refine J_b 3 am_d167 rfl ?_
  refine J_zald (am_d167 rfl) rfl (vp_of (by omega)) ?_
  refine J_if_eq 36 (am_d167 rfl) rfl (fun h29 => ?_) (fun h29 => ?_)
  · refine J_b 7 am_d167 rfl ?_
    refine J_icmp_ne 52 (am_d167 rfl) rfl (fun h45 => ?_) (fun h45 => ?_)
    · refine J_b 1 am_d167 rfl ?_
      refine J_zast (am_d167 rfl) rfl (vp_of (by omega)) ?_
      refine J_b 1 am_d167 rfl ?_
      exact J_iret (am_d167 rfl) rfl rfl ⟨by simp [*], by have hw := h45; first | exact congrArg (fun z => am_up M 159 x.toNatClampNeg (vp_nar .boolean z)) (if_neg (show ¬ w = 1 from hw)).symm | exact congrArg (fun z => am_up M 159 x.toNatClampNeg (vp_nar .boolean z)) (if_pos (show w = 1 from hw)).symm, rfl⟩
    · refine J_b 2 am_d167 rfl ?_
      refine J_zast (am_d167 rfl) rfl (vp_of (by omega)) ?_
      refine J_b 1 am_d167 rfl ?_
      exact J_iret (am_d167 rfl) rfl rfl ⟨by simp [*], by have hw := h45; first | exact congrArg (fun z => am_up M 159 x.toNatClampNeg (vp_nar .boolean z)) (if_neg (show ¬ w = 1 from hw)).symm | exact congrArg (fun z => am_up M 159 x.toNatClampNeg (vp_nar .boolean z)) (if_pos (show w = 1 from hw)).symm, rfl⟩
  · refine J_b 8 am_d167 rfl ?_
    refine J_icmp_ne 52 (am_d167 rfl) rfl (fun h45 => ?_) (fun h45 => ?_)
    · refine J_b 1 am_d167 rfl ?_
      refine J_zast (am_d167 rfl) rfl (vp_of (by omega)) ?_
      refine J_b 1 am_d167 rfl ?_
      exact J_iret (am_d167 rfl) rfl rfl ⟨by simp [*], by have hw := h45; first | exact congrArg (fun z => am_up M 159 x.toNatClampNeg (vp_nar .boolean z)) (if_neg (show ¬ w = 1 from hw)).symm | exact congrArg (fun z => am_up M 159 x.toNatClampNeg (vp_nar .boolean z)) (if_pos (show w = 1 from hw)).symm, rfl⟩
    · refine J_b 2 am_d167 rfl ?_
      refine J_zast (am_d167 rfl) rfl (vp_of (by omega)) ?_
      refine J_b 1 am_d167 rfl ?_
      exact J_iret (am_d167 rfl) rfl rfl ⟨by simp [*], by have hw := h45; first | exact congrArg (fun z => am_up M 159 x.toNatClampNeg (vp_nar .boolean z)) (if_neg (show ¬ w = 1 from hw)).symm | exact congrArg (fun z => am_up M 159 x.toNatClampNeg (vp_nar .boolean z)) (if_pos (show w = 1 from hw)).symm, rfl⟩
theorem pr_drop {X : am_X} (x w : Int32) : am_pI iv X 68 167 [.int x, .int w] := by
  intro c M N hc h
  have e := h.1.2.2.2.1.2
  have e1 := h.1.2.2.2.1.1
  have e5 := h.1.2.2.2.2.1.2
  by_cases h1 : 0 ≤ x.toInt ∧ x.toInt < (M 32 7).toInt
  rotate_left
  · exact pr_e (sp68a h1) (sp167a (by rw [e]; exact h1)) (iv_up _ _ _ h)
  by_cases h2 : 0 ≤ w.toInt ∧ w.toInt ≤ 1
  rotate_left
  · exact pr_e (sp68b h1 h2) (sp167b (by rw [e]; exact h1) h2) (iv_up _ _ _ h)
  have q := sp167c (X := X) (M := am_up M 39 x.toNatClampNeg (vp_nar .boolean (if w = 1 then 1 else 0))) (N := N) (x := x) (w := w) (by show 0 ≤ _ ∧ _ < (M 120 44).toInt; rw [e]; exact h1) h2 (by omega)
  rw [show am_up M 39 x.toNatClampNeg (vp_nar .boolean (if w = 1 then 1 else 0)) 159 x.toNatClampNeg = M 39 x.toNatClampNeg from congrFun e1.2.2.2.2.2.2 _] at q
  refine pr_e (sp68c h1 h2 (by omega)) q ?_
  obtain ⟨⟨⟨hs, hb⟩, ⟨hca, hcb⟩, ⟨hna, hnb⟩, ⟨hfi, hfb⟩⟩, ⟨hti, hta, hpr⟩, hcc, hch, hkl, hkd⟩ := h
  obtain ⟨g1, g2, g3⟩ := ch_eq (M' := am_up (am_up M 39 x.toNatClampNeg (vp_nar .boolean (if w = 1 then 1 else 0))) 159 x.toNatClampNeg (vp_nar .boolean (if w = 1 then 1 else 0))) hch hkl hkd hcb (fun k k1 k2 => by (repeat (first | rw [up_n] | rw [upR_n])) <;> omega) ⟨rfl, rfl, rfl, rfl, rfl⟩ rfl ⟨rfl, rfl, rfl, rfl, rfl⟩ ⟨rfl, rfl, rfl, rfl, rfl⟩
  obtain ⟨⟨f1, f2, f3, f4, f5, f6, f7⟩, f8⟩ := hfi
  obtain ⟨k1, k2, k3, k4, k5⟩ := hfb
  have z : ∀ j : Nat, (M 32 7).toInt ≤ j → (if j = x.toNatClampNeg then vp_nar .boolean (if w = 1 then 1 else 0) else M 39 j) = 0 := by
    intro j hj
    have := I_cl h1.1
    rw [if_neg (by omega)]
    exact k5 j hj
  exact ⟨⟨⟨hs, hb⟩, ⟨hca, hcb⟩, ⟨hna, hnb⟩, ⟨⟨f1, f2, f3, f4, f5, f6, up_eq (j := x.toNatClampNeg) (x := vp_nar .boolean (if w = 1 then 1 else 0)) f7⟩, f8⟩, ⟨k1, k2, k3, k4, z⟩⟩, ⟨hti, hta, hpr⟩, cc_of hcc ⟨k1, k2, k3, k4, k5⟩ (fun k k1 k2 => by (repeat (first | rw [up_n] | rw [upR_n])) <;> omega) ⟨rfl, rfl, rfl, rfl, rfl, rfl, rfl⟩, g1, g2, g3⟩
theorem sp86a {X : am_X} {M : am_M} {N : am_N} {x w : Int32} (h1 : ¬ (0 ≤ x.toInt ∧ x.toInt < 3)) : am_J X (am_eq (some (.int (-3))) (M) N) 86 0 (am_en 86 [.ref 0, .int x, .int w]) [] M N := by
  refine J_en (L := [.ref 0, .int x, .int w, .retAddr 0]) rfl ?_
  refine J_b 2 am_d86 rfl ?_
  refine J_S2s 13 (am_d86 rfl) rfl rfl (sp13) ?_
  refine J_if_ne 11 (am_d86 rfl) rfl (fun h5 => (by exfalso; simp [am_bi0, am_bi1] at * <;> omega)) (fun h5 => ?_)
  refine J_b 1 am_d86 rfl ?_
  exact J_iret (am_d86 rfl) rfl rfl ⟨rfl, rfl, rfl⟩
theorem sp86b {X : am_X} {M : am_M} {N : am_N} {x w : Int32} (h1 : 0 ≤ x.toInt ∧ x.toInt < 3) (h2 : ¬ (-1 ≤ w.toInt ∧ w.toInt ≤ 1)) : am_J X (am_eq (some (.int (-2))) (M) N) 86 0 (am_en 86 [.ref 0, .int x, .int w]) [] M N := by
  refine J_en (L := [.ref 0, .int x, .int w, .retAddr 0]) rfl ?_
  refine J_b 2 am_d86 rfl ?_
  refine J_S2s 13 (am_d86 rfl) rfl rfl (sp13) ?_
  refine J_if_ne 11 (am_d86 rfl) rfl (fun h5 => ?_) (fun h5 => (by exfalso; simp [am_bi0, am_bi1] at * <;> omega))
  refine J_b 3 am_d86 rfl ?_
  refine J_S3s 14 (am_d86 rfl) rfl rfl (sp14) ?_
  refine J_if_ne 23 (am_d86 rfl) rfl (fun h17 => (by exfalso; simp [am_bi0, am_bi1] at * <;> omega)) (fun h17 => ?_)
  refine J_b 1 am_d86 rfl ?_
  exact J_iret (am_d86 rfl) rfl rfl ⟨rfl, rfl, rfl⟩
theorem sp86c {X : am_X} {M : am_M} {N : am_N} {x w : Int32} (h1 : 0 ≤ x.toInt ∧ x.toInt < 3) (h2 : -1 ≤ w.toInt ∧ w.toInt ≤ 1) : am_J X (am_eq (some (.int (M 17 x.toNatClampNeg))) (am_up (am_up M 17 x.toNatClampNeg w) 1 11 (M 1 11 + 1)) N) 86 0 (am_en 86 [.ref 0, .int x, .int w]) [] M N := by
  refine J_en (L := [.ref 0, .int x, .int w, .retAddr 0]) rfl ?_
  refine J_b 2 am_d86 rfl ?_
  refine J_S2s 13 (am_d86 rfl) rfl rfl (sp13) ?_
  refine J_if_ne 11 (am_d86 rfl) rfl (fun h5 => ?_) (fun h5 => (by exfalso; simp [am_bi0, am_bi1] at * <;> omega))
  refine J_b 3 am_d86 rfl ?_
  refine J_S3s 14 (am_d86 rfl) rfl rfl (sp14) ?_
  refine J_if_ne 23 (am_d86 rfl) rfl (fun h17 => ?_) (fun h17 => (by exfalso; simp [am_bi0, am_bi1] at * <;> omega))
  refine J_b 4 am_d86 rfl ?_
  refine J_iald (am_d86 rfl) rfl (vp_of (by omega)) ?_
  refine J_b 6 am_d86 rfl ?_
  refine J_iast (am_d86 rfl) rfl (vp_of (by omega)) ?_
  refine J_b 6 am_d86 rfl ?_
  refine J_puti (am_d86 rfl) rfl ?_
  refine J_b 1 am_d86 rfl ?_
  exact J_iret (am_d86 rfl) rfl rfl ⟨rfl, rfl, rfl⟩
theorem sp184a {X : am_X} {M : am_M} {N : am_N} {x w : Int32} (h1 : ¬ (0 ≤ x.toInt ∧ x.toInt < 3)) : am_J X (am_eq (some (.int (-3))) (M) N) 184 0 (am_en 184 [.ref 120, .int x, .int w]) [] M N := by
  refine J_en (L := [.ref 120, .int x, .int w, .retAddr 0]) rfl ?_
  refine J_b 4 am_d184 rfl ?_
  refine J_S3s 140 (am_d184 rfl) rfl rfl (sp140) ?_
  refine J_if_ne 15 (am_d184 rfl) rfl (fun h9 => (by exfalso; simp [am_bi0, am_bi1] at * <;> omega)) (fun h9 => ?_)
  refine J_b 1 am_d184 rfl ?_
  exact J_iret (am_d184 rfl) rfl rfl ⟨rfl, rfl, rfl⟩
theorem sp184b {X : am_X} {M : am_M} {N : am_N} {x w : Int32} (h1 : 0 ≤ x.toInt ∧ x.toInt < 3) (h2 : ¬ (-1 ≤ w.toInt ∧ w.toInt ≤ 1)) : am_J X (am_eq (some (.int (-2))) (M) N) 184 0 (am_en 184 [.ref 120, .int x, .int w]) [] M N := by
  refine J_en (L := [.ref 120, .int x, .int w, .retAddr 0]) rfl ?_
  refine J_b 4 am_d184 rfl ?_
  refine J_S3s 140 (am_d184 rfl) rfl rfl (sp140) ?_
  refine J_if_ne 15 (am_d184 rfl) rfl (fun h9 => ?_) (fun h9 => (by exfalso; simp [am_bi0, am_bi1] at * <;> omega))
  refine J_b 4 am_d184 rfl ?_
  refine J_S3s 140 (am_d184 rfl) rfl rfl (sp140) ?_
  refine J_if_ne 30 (am_d184 rfl) rfl (fun h24 => (by exfalso; simp [am_bi0, am_bi1] at * <;> omega)) (fun h24 => ?_)
  refine J_b 1 am_d184 rfl ?_
  exact J_iret (am_d184 rfl) rfl rfl ⟨rfl, rfl, rfl⟩
theorem sp184c {X : am_X} {M : am_M} {N : am_N} {x w : Int32} (h1 : 0 ≤ x.toInt ∧ x.toInt < 3) (h2 : -1 ≤ w.toInt ∧ w.toInt ≤ 1) : am_J X (am_eq (some (.int (M 130 x.toNatClampNeg))) (am_up M 130 x.toNatClampNeg w) N) 184 0 (am_en 184 [.ref 120, .int x, .int w]) [] M N := by
  refine J_en (L := [.ref 120, .int x, .int w, .retAddr 0]) rfl ?_
  refine J_b 4 am_d184 rfl ?_
  refine J_S3s 140 (am_d184 rfl) rfl rfl (sp140) ?_
  refine J_if_ne 15 (am_d184 rfl) rfl (fun h9 => ?_) (fun h9 => (by exfalso; simp [am_bi0, am_bi1] at * <;> omega))
  refine J_b 4 am_d184 rfl ?_
  refine J_S3s 140 (am_d184 rfl) rfl rfl (sp140) ?_
  refine J_if_ne 30 (am_d184 rfl) rfl (fun h24 => ?_) (fun h24 => (by exfalso; simp [am_bi0, am_bi1] at * <;> omega))
  refine J_b 3 am_d184 rfl ?_
  refine J_iald (am_d184 rfl) rfl (vp_of (by omega)) ?_
  refine J_b 5 am_d184 rfl ?_
  refine J_iast (am_d184 rfl) rfl (vp_of (by omega)) ?_
  refine J_b 1 am_d184 rfl ?_
  exact J_iret (am_d184 rfl) rfl rfl ⟨rfl, rfl, rfl⟩
theorem pr_move {X : am_X} (x w : Int32) : am_pI iv X 86 184 [.int x, .int w] := by
  intro c M N hc h
  have e : M 130 = M 17 := h.1.1.1.2.2.2
  by_cases h1 : 0 ≤ x.toInt ∧ x.toInt < 3
  rotate_left
  · exact pr_e (sp86a h1) (sp184a h1) (iv_up _ _ _ h)
  by_cases h2 : -1 ≤ w.toInt ∧ w.toInt ≤ 1
  rotate_left
  · exact pr_e (sp86b h1 h2) (sp184b h1 h2) (iv_up _ _ _ h)
  have q := sp184c (X := X) (M := am_up (am_up M 17 x.toNatClampNeg w) 1 11 (M 1 11 + 1)) (N := N) (x := x) (w := w) h1 h2
  rw [show am_up (am_up M 17 x.toNatClampNeg w) 1 11 (M 1 11 + 1) 130 x.toNatClampNeg = M 17 x.toNatClampNeg from congrFun e _] at q
  refine pr_e (sp86c h1 h2) q ?_
  obtain ⟨⟨⟨hs, hb⟩, ⟨hca, hcb⟩, ⟨hna, hnb⟩, ⟨hfi, hfb⟩⟩, ⟨hti, hta, hpr⟩, hcc, hch, hkl, hkd⟩ := h
  obtain ⟨g1, g2, g3⟩ := ch_up (M' := am_up (am_up (am_up M 17 x.toNatClampNeg w) 1 11 (M 1 11 + 1)) 130 x.toNatClampNeg w) hc hch rfl rfl rfl
  obtain ⟨⟨s1, s2, s3, s4⟩, ⟨b1, b2, b3, b4, b5, b6, b7, b8, b9, b10, b11, b12⟩⟩ := And.intro hs hb
  exact ⟨⟨⟨⟨s1, s2, s3, up_eq (j := x.toNatClampNeg) (x := w) s4⟩, ⟨b1, b2, b3, b4, b5, b6, b7, b8, b9, b10, b11, b_up b12 h2⟩⟩, ⟨hca, hcb⟩, ⟨hna, hnb⟩, ⟨hfi, hfb⟩⟩, ⟨hti, hta, hpr⟩, cc_of hcc hfb (fun k k1 k2 => by (repeat (first | rw [up_n] | rw [upR_n])) <;> omega) ⟨rfl, rfl, rfl, rfl, rfl, rfl, rfl⟩, g1, g2, g3⟩
end
section
theorem nm_pos {x : Int32} (h1 : 0 ≤ (x / 100).toInt ∧ (x / 100).toInt < 10) (h2 : 0 ≤ (x - x / 100 * 100).toInt ∧ (x - x / 100 * 100).toInt < 10) : 0 ≤ x.toInt := by
  have z : (100 : Int32).toInt = 100 := rfl
  have e1 : (x / 100 * 100).toInt = (x / 100).toInt * 100 := by rw [I_mul (by rw [z]; omega), z]
  have e2 : x = (x - x / 100 * 100) + x / 100 * 100 := (Int32.sub_add_cancel _ _).symm
  have e3 : x.toInt = (x - x / 100 * 100).toInt + (x / 100 * 100).toInt := by
    rw [← I_add (by omega), ← e2]
  omega
theorem sp62 {X : am_X} {M : am_M} {N : am_N} {a b d e f : Int32} (h : 0 ≤ (M 26 5).toInt ∧ (M 26 5).toInt < 6) : am_J X (am_eq (some (.int (M 26 5))) (am_up (am_up (am_up (am_up (am_up (am_up M 27 (M 26 5).toNatClampNeg a) 28 (M 26 5).toNatClampNeg b) 29 (M 26 5).toNatClampNeg d) 30 (M 26 5).toNatClampNeg e) 31 (M 26 5).toNatClampNeg f) 26 5 (M 26 5 + 1)) N) 62 0 (am_en 62 [.ref 26, .int a, .int b, .int d, .int e, .int f]) [] M N := by
  refine J_en (L := [.ref 26, .int a, .int b, .int d, .int e, .int f]) rfl ?_
  refine J_b 5 am_d62 rfl ?_
  refine J_iast (am_d62 rfl) rfl (vp_of h) ?_
  refine J_b 5 am_d62 rfl ?_
  refine J_iast (am_d62 rfl) rfl (vp_of h) ?_
  refine J_b 5 am_d62 rfl ?_
  refine J_iast (am_d62 rfl) rfl (vp_of h) ?_
  refine J_b 5 am_d62 rfl ?_
  refine J_iast (am_d62 rfl) rfl (vp_of h) ?_
  refine J_b 5 am_d62 rfl ?_
  refine J_iast (am_d62 rfl) rfl (vp_of h) ?_
  refine J_b 6 am_d62 rfl ?_
  refine J_puti (am_d62 rfl) rfl ?_
  exact J_iret (am_d62 rfl) rfl rfl ⟨rfl, rfl, rfl⟩
theorem sp61a {X : am_X} {M : am_M} {N : am_N} {x y w : Int32} (h1 : ¬ (((0 ≤ (x / 100).toInt ∧ (x / 100).toInt < 10) ∧ 0 ≤ (y / 100).toInt ∧ (y / 100).toInt < 6) ∧ (0 ≤ (x - x / 100 * 100).toInt ∧ (x - x / 100 * 100).toInt < 10) ∧ 0 ≤ (y - y / 100 * 100).toInt ∧ (y - y / 100 * 100).toInt < 6)) : am_J X (am_eq (some (.int (-1))) (M) N) 61 0 (am_en 61 [.ref 0, .int x, .int y, .int w]) [] M N := by
  refine J_en (L := [.ref 0, .int x, .int y, .int w, .retAddr 0, .retAddr 0, .retAddr 0, .retAddr 0]) rfl ?_
  refine J_b 18 am_d61 rfl ?_
  refine J_S2s 12 (am_d61 rfl) rfl rfl (sp12) ?_
  refine J_if_eq 44 (am_d61 rfl) rfl (fun h31 => ?_) (fun h31 => ?_)
  · refine J_b 1 am_d61 rfl ?_
    exact J_iret (am_d61 rfl) rfl rfl ⟨rfl, rfl, rfl⟩
  · refine J_b 2 am_d61 rfl ?_
    refine J_S2s 12 (am_d61 rfl) rfl rfl (sp12) ?_
    refine J_if_ne 46 (am_d61 rfl) rfl (fun h41 => ?_) (fun h41 => ?_)
    · exact absurd ⟨am_bi1.mp h31, am_bi1.mp h41⟩ h1
    · refine J_b 1 am_d61 rfl ?_
      exact J_iret (am_d61 rfl) rfl rfl ⟨rfl, rfl, rfl⟩
theorem sp61b {X : am_X} {M : am_M} {N : am_N} {x y w : Int32} (h1 : ((0 ≤ (x / 100).toInt ∧ (x / 100).toInt < 10) ∧ 0 ≤ (y / 100).toInt ∧ (y / 100).toInt < 6) ∧ (0 ≤ (x - x / 100 * 100).toInt ∧ (x - x / 100 * 100).toInt < 10) ∧ 0 ≤ (y - y / 100 * 100).toInt ∧ (y - y / 100 * 100).toInt < 6) (h2 : ¬ (((x / 100).toInt ≤ (x - x / 100 * 100).toInt ∧ (y / 100).toInt ≤ (y - y / 100 * 100).toInt) ∧ 0 ≤ w.toInt ∧ w.toInt < 6)) : am_J X (am_eq (some (.int (-2))) (M) N) 61 0 (am_en 61 [.ref 0, .int x, .int y, .int w]) [] M N := by
  refine J_en (L := [.ref 0, .int x, .int y, .int w, .retAddr 0, .retAddr 0, .retAddr 0, .retAddr 0]) rfl ?_
  refine J_b 18 am_d61 rfl ?_
  refine J_S2s 12 (am_d61 rfl) rfl rfl (sp12) ?_
  refine J_if_eq 44 (am_d61 rfl) rfl (fun h31 => absurd h31 (am_bi1.mpr h1.1)) (fun h31 => ?_)
  refine J_b 2 am_d61 rfl ?_
  refine J_S2s 12 (am_d61 rfl) rfl rfl (sp12) ?_
  refine J_if_ne 46 (am_d61 rfl) rfl (fun h41 => ?_) (fun h41 => absurd h41 (am_bi1.mpr h1.2))
  refine J_b 2 am_d61 rfl ?_
  refine J_icmp_gt 69 (am_d61 rfl) rfl (fun h50 => ?_) (fun h50 => ?_)
  · refine J_b 1 am_d61 rfl ?_
    exact J_iret (am_d61 rfl) rfl rfl ⟨rfl, rfl, rfl⟩
  · refine J_b 2 am_d61 rfl ?_
    refine J_icmp_gt 69 (am_d61 rfl) rfl (fun h57 => ?_) (fun h57 => ?_)
    · refine J_b 1 am_d61 rfl ?_
      exact J_iret (am_d61 rfl) rfl rfl ⟨rfl, rfl, rfl⟩
    · refine J_b 2 am_d61 rfl ?_
      refine J_S2s 13 (am_d61 rfl) rfl rfl (sp13) ?_
      refine J_if_ne 72 (am_d61 rfl) rfl (fun h66 => ?_) (fun h66 => ?_)
      · exact absurd ⟨⟨Int.not_lt.mp (fun z => h50 (Int32.lt_iff_toInt_lt.mpr z)), Int.not_lt.mp (fun z => h57 (Int32.lt_iff_toInt_lt.mpr z))⟩, am_bi1.mp h66⟩ h2
      · refine J_b 1 am_d61 rfl ?_
        exact J_iret (am_d61 rfl) rfl rfl ⟨rfl, rfl, rfl⟩
theorem sp61d {X : am_X} {M : am_M} {N : am_N} {x y w : Int32} (h1 : ((0 ≤ (x / 100).toInt ∧ (x / 100).toInt < 10) ∧ 0 ≤ (y / 100).toInt ∧ (y / 100).toInt < 6) ∧ (0 ≤ (x - x / 100 * 100).toInt ∧ (x - x / 100 * 100).toInt < 10) ∧ 0 ≤ (y - y / 100 * 100).toInt ∧ (y - y / 100 * 100).toInt < 6) (h2 : ((x / 100).toInt ≤ (x - x / 100 * 100).toInt ∧ (y / 100).toInt ≤ (y - y / 100 * 100).toInt) ∧ 0 ≤ w.toInt ∧ w.toInt < 6) (h3 : ¬ M 26 5 < 6) : am_J X (am_eq (some (.int (-4))) (M) N) 61 0 (am_en 61 [.ref 0, .int x, .int y, .int w]) [] M N := by
  refine J_en (L := [.ref 0, .int x, .int y, .int w, .retAddr 0, .retAddr 0, .retAddr 0, .retAddr 0]) rfl ?_
  refine J_b 18 am_d61 rfl ?_
  refine J_S2s 12 (am_d61 rfl) rfl rfl (sp12) ?_
  refine J_if_eq 44 (am_d61 rfl) rfl (fun h31 => absurd h31 (am_bi1.mpr h1.1)) (fun h31 => ?_)
  refine J_b 2 am_d61 rfl ?_
  refine J_S2s 12 (am_d61 rfl) rfl rfl (sp12) ?_
  refine J_if_ne 46 (am_d61 rfl) rfl (fun h41 => ?_) (fun h41 => absurd h41 (am_bi1.mpr h1.2))
  refine J_b 2 am_d61 rfl ?_
  refine J_icmp_gt 69 (am_d61 rfl) rfl (fun h50 => absurd (Int32.lt_iff_toInt_lt.mp h50) (Int.not_lt.mpr h2.1.1)) (fun h50 => ?_)
  refine J_b 2 am_d61 rfl ?_
  refine J_icmp_gt 69 (am_d61 rfl) rfl (fun h57 => absurd (Int32.lt_iff_toInt_lt.mp h57) (Int.not_lt.mpr h2.1.2)) (fun h57 => ?_)
  refine J_b 2 am_d61 rfl ?_
  refine J_S2s 13 (am_d61 rfl) rfl rfl (sp13) ?_
  refine J_if_ne 72 (am_d61 rfl) rfl (fun h66 => ?_) (fun h66 => absurd h66 (am_bi1.mpr h2.2))
  refine J_b 4 am_d61 rfl ?_
  refine J_icmp_lt 87 (am_d61 rfl) rfl (fun h81 => absurd h81 h3) (fun h81 => ?_)
  refine J_b 1 am_d61 rfl ?_
  exact J_iret (am_d61 rfl) rfl rfl ⟨rfl, rfl, rfl⟩
theorem sp61c {X : am_X} {M : am_M} {N : am_N} {x y w : Int32} (h1 : ((0 ≤ (x / 100).toInt ∧ (x / 100).toInt < 10) ∧ 0 ≤ (y / 100).toInt ∧ (y / 100).toInt < 6) ∧ (0 ≤ (x - x / 100 * 100).toInt ∧ (x - x / 100 * 100).toInt < 10) ∧ 0 ≤ (y - y / 100 * 100).toInt ∧ (y - y / 100 * 100).toInt < 6) (h2 : ((x / 100).toInt ≤ (x - x / 100 * 100).toInt ∧ (y / 100).toInt ≤ (y - y / 100 * 100).toInt) ∧ 0 ≤ w.toInt ∧ w.toInt < 6) (h3 : M 26 5 < 6) (h4 : 0 ≤ (M 26 5).toInt ∧ (M 26 5).toInt < 6) : am_J X (am_eq (some (.int (M 26 5))) (am_up (am_up (am_up (am_up (am_up (am_up (am_up M 1 11 (M 1 11 + 1)) 27 (M 26 5).toNatClampNeg (x / 100)) 28 (M 26 5).toNatClampNeg (x - x / 100 * 100)) 29 (M 26 5).toNatClampNeg (y / 100)) 30 (M 26 5).toNatClampNeg (y - y / 100 * 100)) 31 (M 26 5).toNatClampNeg w) 26 5 (M 26 5 + 1)) N) 61 0 (am_en 61 [.ref 0, .int x, .int y, .int w]) [] M N := by
  refine J_en (L := [.ref 0, .int x, .int y, .int w, .retAddr 0, .retAddr 0, .retAddr 0, .retAddr 0]) rfl ?_
  refine J_b 18 am_d61 rfl ?_
  refine J_S2s 12 (am_d61 rfl) rfl rfl (sp12) ?_
  refine J_if_eq 44 (am_d61 rfl) rfl (fun h31 => absurd h31 (am_bi1.mpr h1.1)) (fun h31 => ?_)
  refine J_b 2 am_d61 rfl ?_
  refine J_S2s 12 (am_d61 rfl) rfl rfl (sp12) ?_
  refine J_if_ne 46 (am_d61 rfl) rfl (fun h41 => ?_) (fun h41 => absurd h41 (am_bi1.mpr h1.2))
  refine J_b 2 am_d61 rfl ?_
  refine J_icmp_gt 69 (am_d61 rfl) rfl (fun h50 => absurd (Int32.lt_iff_toInt_lt.mp h50) (Int.not_lt.mpr h2.1.1)) (fun h50 => ?_)
  refine J_b 2 am_d61 rfl ?_
  refine J_icmp_gt 69 (am_d61 rfl) rfl (fun h57 => absurd (Int32.lt_iff_toInt_lt.mp h57) (Int.not_lt.mpr h2.1.2)) (fun h57 => ?_)
  refine J_b 2 am_d61 rfl ?_
  refine J_S2s 13 (am_d61 rfl) rfl rfl (sp13) ?_
  refine J_if_ne 72 (am_d61 rfl) rfl (fun h66 => ?_) (fun h66 => absurd h66 (am_bi1.mpr h2.2))
  refine J_b 4 am_d61 rfl ?_
  refine J_icmp_lt 87 (am_d61 rfl) rfl (fun h81 => ?_) (fun h81 => absurd (h3) h81)
  refine J_b 6 am_d61 rfl ?_
  refine J_puti (am_d61 rfl) rfl ?_
  refine J_b 7 am_d61 rfl ?_
  refine J_V5s 62 (am_d61 rfl) rfl rfl (sp62 (M := am_up M 1 11 (M 1 11 + 1)) h4) ?_
  exact J_iret (am_d61 rfl) rfl rfl ⟨rfl, rfl, rfl⟩
theorem sp162a {X : am_X} {M : am_M} {N : am_N} {x y w : Int32} (g1 : ¬ (((0 ≤ (x / 100).toInt ∧ (x / 100).toInt < 10) ∧ 0 ≤ (y / 100).toInt ∧ (y / 100).toInt < 6) ∧ (0 ≤ (x - x / 100 * 100).toInt ∧ (x - x / 100 * 100).toInt < 10) ∧ 0 ≤ (y - y / 100 * 100).toInt ∧ (y - y / 100 * 100).toInt < 6)) : am_J X (am_eq (some (.int (-1))) (M) N) 162 0 (am_en 162 [.ref 120, .int x, .int y, .int w]) [] M N := by
  refine J_en (L := [.ref 120, .int x, .int y, .int w]) rfl ?_
  refine J_b 1 am_d162 rfl ?_
  refine J_if_lt 36 (am_d162 rfl) rfl (fun h1 => ?_) (fun h1 => ?_)
  · refine J_b 1 am_d162 rfl ?_
    exact J_iret (am_d162 rfl) rfl rfl ⟨rfl, rfl, rfl⟩
  · refine J_b 1 am_d162 rfl ?_
    refine J_if_lt 36 (am_d162 rfl) rfl (fun h5 => ?_) (fun h5 => ?_)
    · refine J_b 1 am_d162 rfl ?_
      exact J_iret (am_d162 rfl) rfl rfl ⟨rfl, rfl, rfl⟩
    · refine J_b 6 am_d162 rfl ?_
      refine J_S2s 139 (am_d162 rfl) rfl rfl (sp139) ?_
      refine J_if_eq 36 (am_d162 rfl) rfl (fun h19 => ?_) (fun h19 => ?_)
      · refine J_b 1 am_d162 rfl ?_
        exact J_iret (am_d162 rfl) rfl rfl ⟨rfl, rfl, rfl⟩
      · refine J_b 6 am_d162 rfl ?_
        refine J_S2s 139 (am_d162 rfl) rfl rfl (sp139) ?_
        refine J_if_ne 38 (am_d162 rfl) rfl (fun h33 => ?_) (fun h33 => ?_)
        · exact absurd ⟨am_bi1.mp h19, am_bi1.mp h33⟩ g1
        · refine J_b 1 am_d162 rfl ?_
          exact J_iret (am_d162 rfl) rfl rfl ⟨rfl, rfl, rfl⟩
theorem sp162b {X : am_X} {M : am_M} {N : am_N} {x y w : Int32} (h1 : ((0 ≤ (x / 100).toInt ∧ (x / 100).toInt < 10) ∧ 0 ≤ (y / 100).toInt ∧ (y / 100).toInt < 6) ∧ (0 ≤ (x - x / 100 * 100).toInt ∧ (x - x / 100 * 100).toInt < 10) ∧ 0 ≤ (y - y / 100 * 100).toInt ∧ (y - y / 100 * 100).toInt < 6) (h2 : ¬ (((x / 100).toInt ≤ (x - x / 100 * 100).toInt ∧ (y / 100).toInt ≤ (y - y / 100 * 100).toInt) ∧ 0 ≤ w.toInt ∧ w.toInt < 6)) : am_J X (am_eq (some (.int (-2))) (M) N) 162 0 (am_en 162 [.ref 120, .int x, .int y, .int w]) [] M N := by
  refine J_en (L := [.ref 120, .int x, .int y, .int w]) rfl ?_
  refine J_b 1 am_d162 rfl ?_
  refine J_if_lt 36 (am_d162 rfl) rfl (fun hh1 => absurd (Int32.lt_iff_toInt_lt.mp hh1) (Int.not_lt.mpr (nm_pos h1.1.1 h1.2.1))) (fun _ => ?_)
  refine J_b 1 am_d162 rfl ?_
  refine J_if_lt 36 (am_d162 rfl) rfl (fun h5 => absurd (Int32.lt_iff_toInt_lt.mp h5) (Int.not_lt.mpr (nm_pos ⟨h1.1.2.1, by have := h1.1.2.2; omega⟩ ⟨h1.2.2.1, by have := h1.2.2.2; omega⟩))) (fun h5 => ?_)
  refine J_b 6 am_d162 rfl ?_
  refine J_S2s 139 (am_d162 rfl) rfl rfl (sp139) ?_
  refine J_if_eq 36 (am_d162 rfl) rfl (fun h19 => absurd h19 (am_bi1.mpr h1.1)) (fun h19 => ?_)
  refine J_b 6 am_d162 rfl ?_
  refine J_S2s 139 (am_d162 rfl) rfl rfl (sp139) ?_
  refine J_if_ne 38 (am_d162 rfl) rfl (fun h33 => ?_) (fun h33 => absurd h33 (am_bi1.mpr h1.2))
  refine J_b 6 am_d162 rfl ?_
  refine J_icmp_gt 72 (am_d162 rfl) rfl (fun h46 => ?_) (fun h46 => ?_)
  · refine J_b 1 am_d162 rfl ?_
    exact J_iret (am_d162 rfl) rfl rfl ⟨rfl, rfl, rfl⟩
  · refine J_b 6 am_d162 rfl ?_
    refine J_icmp_gt 72 (am_d162 rfl) rfl (fun h57 => ?_) (fun h57 => ?_)
    · refine J_b 1 am_d162 rfl ?_
      exact J_iret (am_d162 rfl) rfl rfl ⟨rfl, rfl, rfl⟩
    · refine J_b 4 am_d162 rfl ?_
      refine J_S3s 140 (am_d162 rfl) rfl rfl (sp140) ?_
      refine J_if_ne 75 (am_d162 rfl) rfl (fun h69 => ?_) (fun h69 => ?_)
      · exact absurd ⟨⟨Int.not_lt.mp (fun z => h46 (Int32.lt_iff_toInt_lt.mpr z)), Int.not_lt.mp (fun z => h57 (Int32.lt_iff_toInt_lt.mpr z))⟩, by simp [am_bi0, am_bi1] at h69; omega⟩ h2
      · refine J_b 1 am_d162 rfl ?_
        exact J_iret (am_d162 rfl) rfl rfl ⟨rfl, rfl, rfl⟩
theorem sp162d {X : am_X} {M : am_M} {N : am_N} {x y w : Int32} (h1 : ((0 ≤ (x / 100).toInt ∧ (x / 100).toInt < 10) ∧ 0 ≤ (y / 100).toInt ∧ (y / 100).toInt < 6) ∧ (0 ≤ (x - x / 100 * 100).toInt ∧ (x - x / 100 * 100).toInt < 10) ∧ 0 ≤ (y - y / 100 * 100).toInt ∧ (y - y / 100 * 100).toInt < 6) (h2 : ((x / 100).toInt ≤ (x - x / 100 * 100).toInt ∧ (y / 100).toInt ≤ (y - y / 100 * 100).toInt) ∧ 0 ≤ w.toInt ∧ w.toInt < 6) (h3 : M 120 43 = 6) : am_J X (am_eq (some (.int (-4))) (M) N) 162 0 (am_en 162 [.ref 120, .int x, .int y, .int w]) [] M N := by
  refine J_en (L := [.ref 120, .int x, .int y, .int w]) rfl ?_
  refine J_b 1 am_d162 rfl ?_
  refine J_if_lt 36 (am_d162 rfl) rfl (fun hh1 => absurd (Int32.lt_iff_toInt_lt.mp hh1) (Int.not_lt.mpr (nm_pos h1.1.1 h1.2.1))) (fun _ => ?_)
  refine J_b 1 am_d162 rfl ?_
  refine J_if_lt 36 (am_d162 rfl) rfl (fun h5 => absurd (Int32.lt_iff_toInt_lt.mp h5) (Int.not_lt.mpr (nm_pos ⟨h1.1.2.1, by have := h1.1.2.2; omega⟩ ⟨h1.2.2.1, by have := h1.2.2.2; omega⟩))) (fun h5 => ?_)
  refine J_b 6 am_d162 rfl ?_
  refine J_S2s 139 (am_d162 rfl) rfl rfl (sp139) ?_
  refine J_if_eq 36 (am_d162 rfl) rfl (fun h19 => absurd h19 (am_bi1.mpr h1.1)) (fun h19 => ?_)
  refine J_b 6 am_d162 rfl ?_
  refine J_S2s 139 (am_d162 rfl) rfl rfl (sp139) ?_
  refine J_if_ne 38 (am_d162 rfl) rfl (fun h33 => ?_) (fun h33 => absurd h33 (am_bi1.mpr h1.2))
  refine J_b 6 am_d162 rfl ?_
  refine J_icmp_gt 72 (am_d162 rfl) rfl (fun h46 => absurd (Int32.lt_iff_toInt_lt.mp h46) (Int.not_lt.mpr h2.1.1)) (fun h46 => ?_)
  refine J_b 6 am_d162 rfl ?_
  refine J_icmp_gt 72 (am_d162 rfl) rfl (fun h57 => absurd (Int32.lt_iff_toInt_lt.mp h57) (Int.not_lt.mpr h2.1.2)) (fun h57 => ?_)
  refine J_b 4 am_d162 rfl ?_
  refine J_S3s 140 (am_d162 rfl) rfl rfl (sp140) ?_
  refine J_if_ne 75 (am_d162 rfl) rfl (fun h69 => ?_) (fun h69 => absurd h69 (am_bi1.mpr (by have := h2.2; simp; omega)))
  refine J_b 3 am_d162 rfl ?_
  refine J_icmp_ne 87 (am_d162 rfl) rfl (fun h81 => absurd h3 h81) (fun h81 => ?_)
  refine J_b 1 am_d162 rfl ?_
  exact J_iret (am_d162 rfl) rfl rfl ⟨rfl, rfl, rfl⟩
theorem sp162c {X : am_X} {M : am_M} {N : am_N} {x y w : Int32} (h1 : ((0 ≤ (x / 100).toInt ∧ (x / 100).toInt < 10) ∧ 0 ≤ (y / 100).toInt ∧ (y / 100).toInt < 6) ∧ (0 ≤ (x - x / 100 * 100).toInt ∧ (x - x / 100 * 100).toInt < 10) ∧ 0 ≤ (y - y / 100 * 100).toInt ∧ (y - y / 100 * 100).toInt < 6) (h2 : ((x / 100).toInt ≤ (x - x / 100 * 100).toInt ∧ (y / 100).toInt ≤ (y - y / 100 * 100).toInt) ∧ 0 ≤ w.toInt ∧ w.toInt < 6) (h3 : ¬ M 120 43 = 6) (h4 : 0 ≤ (M 120 43).toInt ∧ (M 120 43).toInt < 6) : am_J X (am_eq (some (.int (M 120 43))) (am_up (am_up (am_up (am_up (am_up (am_up M 148 (M 120 43).toNatClampNeg (x / 100)) 149 (M 120 43).toNatClampNeg (x - x / 100 * 100)) 150 (M 120 43).toNatClampNeg (y / 100)) 151 (M 120 43).toNatClampNeg (y - y / 100 * 100)) 152 (M 120 43).toNatClampNeg w) 120 43 (M 120 43 + 1)) N) 162 0 (am_en 162 [.ref 120, .int x, .int y, .int w]) [] M N := by
  refine J_en (L := [.ref 120, .int x, .int y, .int w]) rfl ?_
  refine J_b 1 am_d162 rfl ?_
  refine J_if_lt 36 (am_d162 rfl) rfl (fun hh1 => absurd (Int32.lt_iff_toInt_lt.mp hh1) (Int.not_lt.mpr (nm_pos h1.1.1 h1.2.1))) (fun _ => ?_)
  refine J_b 1 am_d162 rfl ?_
  refine J_if_lt 36 (am_d162 rfl) rfl (fun h5 => absurd (Int32.lt_iff_toInt_lt.mp h5) (Int.not_lt.mpr (nm_pos ⟨h1.1.2.1, by have := h1.1.2.2; omega⟩ ⟨h1.2.2.1, by have := h1.2.2.2; omega⟩))) (fun h5 => ?_)
  refine J_b 6 am_d162 rfl ?_
  refine J_S2s 139 (am_d162 rfl) rfl rfl (sp139) ?_
  refine J_if_eq 36 (am_d162 rfl) rfl (fun h19 => absurd h19 (am_bi1.mpr h1.1)) (fun h19 => ?_)
  refine J_b 6 am_d162 rfl ?_
  refine J_S2s 139 (am_d162 rfl) rfl rfl (sp139) ?_
  refine J_if_ne 38 (am_d162 rfl) rfl (fun h33 => ?_) (fun h33 => absurd h33 (am_bi1.mpr h1.2))
  refine J_b 6 am_d162 rfl ?_
  refine J_icmp_gt 72 (am_d162 rfl) rfl (fun h46 => absurd (Int32.lt_iff_toInt_lt.mp h46) (Int.not_lt.mpr h2.1.1)) (fun h46 => ?_)
  refine J_b 6 am_d162 rfl ?_
  refine J_icmp_gt 72 (am_d162 rfl) rfl (fun h57 => absurd (Int32.lt_iff_toInt_lt.mp h57) (Int.not_lt.mpr h2.1.2)) (fun h57 => ?_)
  refine J_b 4 am_d162 rfl ?_
  refine J_S3s 140 (am_d162 rfl) rfl rfl (sp140) ?_
  refine J_if_ne 75 (am_d162 rfl) rfl (fun h69 => ?_) (fun h69 => absurd h69 (am_bi1.mpr (by have := h2.2; simp; omega)))
  refine J_b 3 am_d162 rfl ?_
  refine J_icmp_ne 87 (am_d162 rfl) rfl (fun h81 => ?_) (fun h81 => absurd h81 h3)
  refine J_b 7 am_d162 rfl ?_
  refine J_iast (am_d162 rfl) rfl (vp_of h4) ?_
  refine J_b 7 am_d162 rfl ?_
  refine J_iast (am_d162 rfl) rfl (vp_of h4) ?_
  refine J_b 7 am_d162 rfl ?_
  refine J_iast (am_d162 rfl) rfl (vp_of h4) ?_
  refine J_b 7 am_d162 rfl ?_
  refine J_iast (am_d162 rfl) rfl (vp_of h4) ?_
  refine J_b 5 am_d162 rfl ?_
  refine J_iast (am_d162 rfl) rfl (vp_of h4) ?_
  refine J_b 5 am_d162 rfl ?_
  refine J_puti (am_d162 rfl) rfl ?_
  refine J_b 4 am_d162 rfl ?_
  exact J_iret (am_d162 rfl) rfl rfl ⟨by congr 2; exact Int32.add_sub_cancel _ _, rfl, rfl⟩
theorem pr_name {X : am_X} (x y w : Int32) : am_pI iv X 61 162 [.int x, .int y, .int w] := by
  intro c M N hc h
  have e := h.1.2.2.1.1.2
  have e5 := h.1.2.2.1.2.1
  unfold b_in at e5
  by_cases h1 : ((0 ≤ (x / 100).toInt ∧ (x / 100).toInt < 10) ∧ 0 ≤ (y / 100).toInt ∧ (y / 100).toInt < 6) ∧ (0 ≤ (x - x / 100 * 100).toInt ∧ (x - x / 100 * 100).toInt < 10) ∧ 0 ≤ (y - y / 100 * 100).toInt ∧ (y - y / 100 * 100).toInt < 6
  rotate_left
  · exact pr_e (sp61a h1) (sp162a h1) (iv_up _ _ _ h)
  by_cases h2 : ((x / 100).toInt ≤ (x - x / 100 * 100).toInt ∧ (y / 100).toInt ≤ (y - y / 100 * 100).toInt) ∧ 0 ≤ w.toInt ∧ w.toInt < 6
  rotate_left
  · exact pr_e (sp61b h1 h2) (sp162b h1 h2) (iv_up _ _ _ h)
  by_cases h3 : M 26 5 < 6
  rotate_left
  · exact pr_e (sp61d h1 h2 h3) (sp162d h1 h2 (by rw [e]; refine I_eq ?_; simp only [Int32.lt_iff_toInt_lt] at h3; have z : (6 : Int32).toInt = 6 := rfl; omega)) (iv_up _ _ _ h)
  have h4 : 0 ≤ (M 26 5).toInt ∧ (M 26 5).toInt < 6 := ⟨e5.1, Int32.lt_iff_toInt_lt.mp h3⟩
  have q := sp162c (X := X) (M := am_up (am_up (am_up (am_up (am_up (am_up (am_up M 1 11 (M 1 11 + 1)) 27 (M 26 5).toNatClampNeg (x / 100)) 28 (M 26 5).toNatClampNeg (x - x / 100 * 100)) 29 (M 26 5).toNatClampNeg (y / 100)) 30 (M 26 5).toNatClampNeg (y - y / 100 * 100)) 31 (M 26 5).toNatClampNeg w) 26 5 (M 26 5 + 1)) (N := N) h1 h2 (by show ¬ M 120 43 = 6; rw [e]; intro z; rw [z] at h4; exact absurd h4.2 (by decide)) (by show 0 ≤ (M 120 43).toInt ∧ (M 120 43).toInt < 6; rw [e]; exact h4)
  rw [show (am_up (am_up (am_up (am_up (am_up (am_up (am_up M 1 11 (M 1 11 + 1)) 27 (M 26 5).toNatClampNeg (x / 100)) 28 (M 26 5).toNatClampNeg (x - x / 100 * 100)) 29 (M 26 5).toNatClampNeg (y / 100)) 30 (M 26 5).toNatClampNeg (y - y / 100 * 100)) 31 (M 26 5).toNatClampNeg w) 26 5 (M 26 5 + 1)) 120 43 = M 26 5 from e] at q
  refine pr_e (sp61c h1 h2 h3 h4) q ?_
  obtain ⟨⟨⟨hs, hb⟩, ⟨hca, hcb⟩, ⟨hna, hnb⟩, ⟨hfi, hfb⟩⟩, ⟨hti, hta, hpr⟩, hcc, hch, hkl, hkd⟩ := h
  obtain ⟨g1, g2, g3⟩ := ch_up (M' := am_up (am_up (am_up (am_up (am_up (am_up (am_up (am_up (am_up (am_up (am_up (am_up (am_up M 1 11 (M 1 11 + 1)) 27 (M 26 5).toNatClampNeg (x / 100)) 28 (M 26 5).toNatClampNeg (x - x / 100 * 100)) 29 (M 26 5).toNatClampNeg (y / 100)) 30 (M 26 5).toNatClampNeg (y - y / 100 * 100)) 31 (M 26 5).toNatClampNeg w) 26 5 (M 26 5 + 1)) 148 (M 26 5).toNatClampNeg (x / 100)) 149 (M 26 5).toNatClampNeg (x - x / 100 * 100)) 150 (M 26 5).toNatClampNeg (y / 100)) 151 (M 26 5).toNatClampNeg (y - y / 100 * 100)) 152 (M 26 5).toNatClampNeg w) 120 43 (M 26 5 + 1)) hc hch rfl rfl rfl
  obtain ⟨⟨n1, n2, n3, n4, n5⟩, n6⟩ := hna
  obtain ⟨m1, m2, m3, m4, m5⟩ := hnb
  have em : b_in (M 26 5 + 1) 0 6 := by
    unfold b_in
    have z : (1 : Int32).toInt = 1 := rfl
    rw [I_add (by omega)]
    omega
  have u1 := h1
  unfold b_in at *
  exact ⟨⟨⟨hs, hb⟩, ⟨hca, hcb⟩, ⟨⟨⟨up_eq (j := (M 26 5).toNatClampNeg) (x := x / 100) n1, up_eq (j := (M 26 5).toNatClampNeg) (x := x - x / 100 * 100) n2, up_eq (j := (M 26 5).toNatClampNeg) (x := y / 100) n3, up_eq (j := (M 26 5).toNatClampNeg) (x := y - y / 100 * 100) n4, up_eq (j := (M 26 5).toNatClampNeg) (x := w) n5⟩, rfl⟩, ⟨em, b_up m2 (by unfold b_in; omega), b_up m3 (by unfold b_in; omega), b_up m4 (by unfold b_in; omega), b_up m5 (by unfold b_in; omega)⟩⟩, ⟨hfi, hfb⟩⟩, ⟨hti, hta, hpr⟩, cc_of hcc hfb (fun k k1 k2 => by (repeat (first | rw [up_n] | rw [upR_n])) <;> omega) ⟨rfl, rfl, rfl, rfl, rfl, rfl, rfl⟩, g1, g2, g3⟩
end
section
/-! ===== rows may be told anew behind an array's end; a drift's rows ===== -/
theorem ws_mr {D : va_G} {G : am_G} {B : Nat} {sp : Nat → Nat} {sh : List am_E} {M : am_M} {N : am_N} {k n : Nat} {f : Nat → Int32} {H : Heap} (hk : sh[k]? = some (.inl (0, n))) (hf : ∀ j, j < n → f j = M k j) (h : va_P D vwCl (am_ws G B sp sh M N) H) : va_P D vwCl (am_ws G B sp sh (am_upR M k f) N) H := by
  intro a q hq
  by_cases ha : a = k
  · subst ha
    rw [am_ws_get hk] at hq
    cases hq
    have h1 := h a _ (am_ws_get hk)
    have h2 : H[am_ad B sp a]? = some (vp_cell G.1 (n, .inl (M a))) := h1
    show H[am_ad B sp a]? = some (vp_cell G.1 (n, .inl (am_upR M a f a)))
    have e : (fun j : Fin n => Value.int (M a j.val)) = fun j : Fin n => Value.int (f j.val) := funext fun j => by rw [hf j.val j.isLt]
    have e2 : vp_cell G.1 (n, .inl (M a)) = vp_cell G.1 (n, .inl f) := congrArg (fun g : Fin n → Value => ({ cls := G.1, slots := Array.ofFn g, vm := .none } : Cell)) e
    rw [h2, e2, upR_r]
  · have e : (am_ws G B sp sh (am_upR M k f) N)[a]? = (am_ws G B sp sh M N)[a]? := by
      unfold am_ws
      rw [List.getElem?_mapIdx, List.getElem?_mapIdx]
      cases sh[a]? with
      | none => rfl
      | some x =>
        simp only [Option.map_some]
        rw [am_ce_eq (upR_n ha) rfl]
    rw [e] at hq
    exact h a q hq
theorem ws_D {G : am_G} {B : Nat} {sp : Nat → Nat} {sh : List am_E} {M M' : am_M} {N N' : am_N} (h : va_D (am_A B) (am_ws G B sp sh M N)) : va_D (am_A B) (am_ws G B sp sh M' N') := by
  have key : ∀ (i : Nat) (p : Nat × va_E), (am_ws G B sp sh M' N')[i]? = some p → ∃ e, (am_ws G B sp sh M N)[i]? = some (p.1, e) := by
    intro i p hp
    unfold am_ws at hp ⊢
    rw [List.getElem?_mapIdx] at hp ⊢
    cases hs : sh[i]? with
    | none =>
      rw [hs] at hp
      cases hp
    | some x =>
      rw [hs] at hp
      cases hp
      exact ⟨_, rfl⟩
  refine ⟨fun i j p q hp hq e => ?_, fun k q hq => ?_⟩
  · obtain ⟨e1, h1⟩ := key i p hp
    obtain ⟨e2, h2⟩ := key j q hq
    exact h.1 i j _ _ h1 h2 e
  · obtain ⟨e1, h1⟩ := key k q hq
    exact (h.2 k (q.1, e1) h1 : am_A B q.1)
theorem J_mr {X : am_X} {Q : am_Q} {i pc : Nat} {L S : am_V} {M : am_M} {N : am_N} (k : Nat) {n : Nat} (f : Nat → Int32) (hk : am_SH[k]? = some (.inl (0, n))) (hf : ∀ j, j < n → f j = M k j) (kk : am_J X Q i pc L S (am_upR M k f) N) : am_J X Q i pc L S M N := by
  refine ⟨kk.1, kk.2.1, fun p e R s m args below meth c H locs ls cells slots C St => ?_⟩
  obtain ⟨a1, a2, a3, a4, a5, a6, a7, a8⟩ := St
  exact kk.2.2 p e R s m args below meth c H locs ls cells slots C ⟨a1, a2, ws_mr hk hf a3, ws_D a4, a5, a6, a7, a8⟩
theorem J_mem {X : am_X} {Q : am_Q} {i pc : Nat} {L S : am_V} {M M' : am_M} {N : am_N} (e : M = M') (kk : am_J X Q i pc L S M' N) : am_J X Q i pc L S M N := by
  rw [e]
  exact kk
theorem I_ss (a b c : Int32) : a - (b + c) = a - b - c := by
  rw [Int32.sub_eq_add_neg, Int32.neg_add, Int32.sub_eq_add_neg, Int32.sub_eq_add_neg, Int32.sub_eq_add_neg, Int32.add_assoc]
/-- a drift in the cells b .. b + 5 -/
def dr_D (M : am_M) (b : Nat) (kd mo sk gn ew nw : Int32) (sh : Nat → Int32) (st : am_M) : am_M := fun r j =>
  if r = b then (if j = 6 then kd else if j = 7 then mo else if j = 8 then sk else if j = 9 then gn else if j = 10 then ew else if j = 11 then nw else if j = 12 then st 0 12 else if j = 13 then st 0 13 else if j = 14 then st 0 14 else M b j)
  else if r = b + 1 then st 1 j else if r = b + 2 then st 2 j else if r = b + 3 then st 3 j else if r = b + 4 then st 4 j else if r = b + 5 then sh j else M r j
/-- the reference's -/
def dr_R (M : am_M) (st : am_M) : am_M := fun r j =>
  if r = 120 then (if j = 27 then st 0 12 else if j = 28 then st 0 13 else if j = 29 then st 0 14 else M 120 j)
  else if r = 143 then st 1 j else if r = 144 then st 2 j else if r = 145 then st 3 j else if r = 146 then st 4 j else M r j
theorem D_st {M : am_M} {b : Nat} {kd mo sk gn ew nw : Int32} {sh : Nat → Int32} {st st' : am_M} (h1 : st 1 = st' 1) (h2 : st 2 = st' 2) (h3 : st 3 = st' 3) (h4 : st 4 = st' 4) (h5 : st 0 12 = st' 0 12) (h6 : st 0 13 = st' 0 13) (h7 : st 0 14 = st' 0 14) : dr_D M b kd mo sk gn ew nw sh st = dr_D M b kd mo sk gn ew nw sh st' := by
  unfold dr_D
  rw [h1, h2, h3, h4, h5, h6, h7]
theorem R_st {M : am_M} {st st' : am_M} (h1 : st 1 = st' 1) (h2 : st 2 = st' 2) (h3 : st 3 = st' 3) (h4 : st 4 = st' 4) (h5 : st 0 12 = st' 0 12) (h6 : st 0 13 = st' 0 13) (h7 : st 0 14 = st' 0 14) : dr_R M st = dr_R M st' := by
  unfold dr_R
  rw [h1, h2, h3, h4, h5, h6, h7]
theorem D_n {M : am_M} {b : Nat} {kd mo sk gn ew nw : Int32} {sh : Nat → Int32} {st : am_M} {r : Nat} (h : r < b ∨ b + 5 < r) : dr_D M b kd mo sk gn ew nw sh st r = M r := by
  funext j
  unfold dr_D
  rw [if_neg (by omega), if_neg (by omega), if_neg (by omega), if_neg (by omega), if_neg (by omega), if_neg (by omega)]
theorem R_n {M st : am_M} {r : Nat} (h : r ≠ 120 ∧ (r < 143 ∨ 146 < r)) : dr_R M st r = M r := by
  funext j
  unfold dr_R
  rw [if_neg (by omega), if_neg (by omega), if_neg (by omega), if_neg (by omega), if_neg (by omega)]
theorem R_120 {M st : am_M} {j : Nat} (h : j < 27 ∨ 29 < j) : dr_R M st 120 j = M 120 j := by
  unfold dr_R
  rw [if_pos rfl, if_neg (by omega), if_neg (by omega), if_neg (by omega)]
theorem D40_u1 {M : am_M} {kd mo sk gn ew nw : Int32} {sh : Nat → Int32} {st : am_M} {i : Nat} {x : Int32} : am_up (dr_D M 40 kd mo sk gn ew nw sh st) 41 i x = dr_D M 40 kd mo sk gn ew nw sh (am_up st 1 i x) := by
  funext r j
  by_cases h : r = 41
  · subst h
    rfl
  · unfold am_up dr_D
    simp [h]
theorem D40_r1 {M : am_M} {kd mo sk gn ew nw : Int32} {sh : Nat → Int32} {st : am_M} {f : Nat → Int32} : am_upR (dr_D M 40 kd mo sk gn ew nw sh st) 41 f = dr_D M 40 kd mo sk gn ew nw sh (am_upR st 1 f) := by
  funext r j
  by_cases h : r = 41
  · subst h
    rfl
  · unfold am_upR dr_D
    simp [h]
theorem D40_u2 {M : am_M} {kd mo sk gn ew nw : Int32} {sh : Nat → Int32} {st : am_M} {i : Nat} {x : Int32} : am_up (dr_D M 40 kd mo sk gn ew nw sh st) 42 i x = dr_D M 40 kd mo sk gn ew nw sh (am_up st 2 i x) := by
  funext r j
  by_cases h : r = 42
  · subst h
    rfl
  · unfold am_up dr_D
    simp [h]
theorem D40_r2 {M : am_M} {kd mo sk gn ew nw : Int32} {sh : Nat → Int32} {st : am_M} {f : Nat → Int32} : am_upR (dr_D M 40 kd mo sk gn ew nw sh st) 42 f = dr_D M 40 kd mo sk gn ew nw sh (am_upR st 2 f) := by
  funext r j
  by_cases h : r = 42
  · subst h
    rfl
  · unfold am_upR dr_D
    simp [h]
theorem D40_u3 {M : am_M} {kd mo sk gn ew nw : Int32} {sh : Nat → Int32} {st : am_M} {i : Nat} {x : Int32} : am_up (dr_D M 40 kd mo sk gn ew nw sh st) 43 i x = dr_D M 40 kd mo sk gn ew nw sh (am_up st 3 i x) := by
  funext r j
  by_cases h : r = 43
  · subst h
    rfl
  · unfold am_up dr_D
    simp [h]
theorem D40_r3 {M : am_M} {kd mo sk gn ew nw : Int32} {sh : Nat → Int32} {st : am_M} {f : Nat → Int32} : am_upR (dr_D M 40 kd mo sk gn ew nw sh st) 43 f = dr_D M 40 kd mo sk gn ew nw sh (am_upR st 3 f) := by
  funext r j
  by_cases h : r = 43
  · subst h
    rfl
  · unfold am_upR dr_D
    simp [h]
theorem D40_u4 {M : am_M} {kd mo sk gn ew nw : Int32} {sh : Nat → Int32} {st : am_M} {i : Nat} {x : Int32} : am_up (dr_D M 40 kd mo sk gn ew nw sh st) 44 i x = dr_D M 40 kd mo sk gn ew nw sh (am_up st 4 i x) := by
  funext r j
  by_cases h : r = 44
  · subst h
    rfl
  · unfold am_up dr_D
    simp [h]
theorem D40_r4 {M : am_M} {kd mo sk gn ew nw : Int32} {sh : Nat → Int32} {st : am_M} {f : Nat → Int32} : am_upR (dr_D M 40 kd mo sk gn ew nw sh st) 44 f = dr_D M 40 kd mo sk gn ew nw sh (am_upR st 4 f) := by
  funext r j
  by_cases h : r = 44
  · subst h
    rfl
  · unfold am_upR dr_D
    simp [h]
theorem D40_s {M : am_M} {kd mo sk gn ew nw : Int32} {sh : Nat → Int32} {st : am_M} {f : Nat → Int32} : am_upR (dr_D M 40 kd mo sk gn ew nw sh st) 45 f = dr_D M 40 kd mo sk gn ew nw f st := by
  funext r j
  by_cases h : r = 45
  · subst h
    rfl
  · unfold am_upR dr_D
    simp [h]
theorem D40_f6 {M : am_M} {kd mo sk gn ew nw : Int32} {sh : Nat → Int32} {st : am_M} {x : Int32} : am_up (dr_D M 40 kd mo sk gn ew nw sh st) 40 6 x = dr_D M 40 x mo sk gn ew nw sh st := by
  funext r j
  by_cases h : r = 40
  · subst h
    by_cases h2 : j = 6
    · subst h2
      rfl
    · unfold am_up dr_D
      simp [h2]
  · unfold am_up dr_D
    simp [h]
theorem D40_f7 {M : am_M} {kd mo sk gn ew nw : Int32} {sh : Nat → Int32} {st : am_M} {x : Int32} : am_up (dr_D M 40 kd mo sk gn ew nw sh st) 40 7 x = dr_D M 40 kd x sk gn ew nw sh st := by
  funext r j
  by_cases h : r = 40
  · subst h
    by_cases h2 : j = 7
    · subst h2
      rfl
    · unfold am_up dr_D
      simp [h2]
  · unfold am_up dr_D
    simp [h]
theorem D40_f8 {M : am_M} {kd mo sk gn ew nw : Int32} {sh : Nat → Int32} {st : am_M} {x : Int32} : am_up (dr_D M 40 kd mo sk gn ew nw sh st) 40 8 x = dr_D M 40 kd mo x gn ew nw sh st := by
  funext r j
  by_cases h : r = 40
  · subst h
    by_cases h2 : j = 8
    · subst h2
      rfl
    · unfold am_up dr_D
      simp [h2]
  · unfold am_up dr_D
    simp [h]
theorem D40_f9 {M : am_M} {kd mo sk gn ew nw : Int32} {sh : Nat → Int32} {st : am_M} {x : Int32} : am_up (dr_D M 40 kd mo sk gn ew nw sh st) 40 9 x = dr_D M 40 kd mo sk x ew nw sh st := by
  funext r j
  by_cases h : r = 40
  · subst h
    by_cases h2 : j = 9
    · subst h2
      rfl
    · unfold am_up dr_D
      simp [h2]
  · unfold am_up dr_D
    simp [h]
theorem D40_f10 {M : am_M} {kd mo sk gn ew nw : Int32} {sh : Nat → Int32} {st : am_M} {x : Int32} : am_up (dr_D M 40 kd mo sk gn ew nw sh st) 40 10 x = dr_D M 40 kd mo sk gn x nw sh st := by
  funext r j
  by_cases h : r = 40
  · subst h
    by_cases h2 : j = 10
    · subst h2
      rfl
    · unfold am_up dr_D
      simp [h2]
  · unfold am_up dr_D
    simp [h]
theorem D40_f11 {M : am_M} {kd mo sk gn ew nw : Int32} {sh : Nat → Int32} {st : am_M} {x : Int32} : am_up (dr_D M 40 kd mo sk gn ew nw sh st) 40 11 x = dr_D M 40 kd mo sk gn ew x sh st := by
  funext r j
  by_cases h : r = 40
  · subst h
    by_cases h2 : j = 11
    · subst h2
      rfl
    · unfold am_up dr_D
      simp [h2]
  · unfold am_up dr_D
    simp [h]
theorem D40_f12 {M : am_M} {kd mo sk gn ew nw : Int32} {sh : Nat → Int32} {st : am_M} {x : Int32} : am_up (dr_D M 40 kd mo sk gn ew nw sh st) 40 12 x = dr_D M 40 kd mo sk gn ew nw sh (am_up st 0 12 x) := by
  funext r j
  by_cases h : r = 40
  · subst h
    by_cases h2 : j = 12
    · subst h2
      rfl
    · unfold am_up dr_D
      simp [h2]
  · unfold am_up dr_D
    simp [h]
theorem D40_f13 {M : am_M} {kd mo sk gn ew nw : Int32} {sh : Nat → Int32} {st : am_M} {x : Int32} : am_up (dr_D M 40 kd mo sk gn ew nw sh st) 40 13 x = dr_D M 40 kd mo sk gn ew nw sh (am_up st 0 13 x) := by
  funext r j
  by_cases h : r = 40
  · subst h
    by_cases h2 : j = 13
    · subst h2
      rfl
    · unfold am_up dr_D
      simp [h2]
  · unfold am_up dr_D
    simp [h]
theorem D40_f14 {M : am_M} {kd mo sk gn ew nw : Int32} {sh : Nat → Int32} {st : am_M} {x : Int32} : am_up (dr_D M 40 kd mo sk gn ew nw sh st) 40 14 x = dr_D M 40 kd mo sk gn ew nw sh (am_up st 0 14 x) := by
  funext r j
  by_cases h : r = 40
  · subst h
    by_cases h2 : j = 14
    · subst h2
      rfl
    · unfold am_up dr_D
      simp [h2]
  · unfold am_up dr_D
    simp [h]
theorem D40_of (M : am_M) : M = dr_D M 40 (M 40 6) (M 40 7) (M 40 8) (M 40 9) (M 40 10) (M 40 11) (M 45) (fun k j => if k = 0 then M 40 j else M (40 + k) j) := by
  funext r j
  unfold dr_D
  (repeat' split) <;> subst_vars <;> rfl
theorem D46_u1 {M : am_M} {kd mo sk gn ew nw : Int32} {sh : Nat → Int32} {st : am_M} {i : Nat} {x : Int32} : am_up (dr_D M 46 kd mo sk gn ew nw sh st) 47 i x = dr_D M 46 kd mo sk gn ew nw sh (am_up st 1 i x) := by
  funext r j
  by_cases h : r = 47
  · subst h
    rfl
  · unfold am_up dr_D
    simp [h]
theorem D46_r1 {M : am_M} {kd mo sk gn ew nw : Int32} {sh : Nat → Int32} {st : am_M} {f : Nat → Int32} : am_upR (dr_D M 46 kd mo sk gn ew nw sh st) 47 f = dr_D M 46 kd mo sk gn ew nw sh (am_upR st 1 f) := by
  funext r j
  by_cases h : r = 47
  · subst h
    rfl
  · unfold am_upR dr_D
    simp [h]
theorem D46_u2 {M : am_M} {kd mo sk gn ew nw : Int32} {sh : Nat → Int32} {st : am_M} {i : Nat} {x : Int32} : am_up (dr_D M 46 kd mo sk gn ew nw sh st) 48 i x = dr_D M 46 kd mo sk gn ew nw sh (am_up st 2 i x) := by
  funext r j
  by_cases h : r = 48
  · subst h
    rfl
  · unfold am_up dr_D
    simp [h]
theorem D46_r2 {M : am_M} {kd mo sk gn ew nw : Int32} {sh : Nat → Int32} {st : am_M} {f : Nat → Int32} : am_upR (dr_D M 46 kd mo sk gn ew nw sh st) 48 f = dr_D M 46 kd mo sk gn ew nw sh (am_upR st 2 f) := by
  funext r j
  by_cases h : r = 48
  · subst h
    rfl
  · unfold am_upR dr_D
    simp [h]
theorem D46_u3 {M : am_M} {kd mo sk gn ew nw : Int32} {sh : Nat → Int32} {st : am_M} {i : Nat} {x : Int32} : am_up (dr_D M 46 kd mo sk gn ew nw sh st) 49 i x = dr_D M 46 kd mo sk gn ew nw sh (am_up st 3 i x) := by
  funext r j
  by_cases h : r = 49
  · subst h
    rfl
  · unfold am_up dr_D
    simp [h]
theorem D46_r3 {M : am_M} {kd mo sk gn ew nw : Int32} {sh : Nat → Int32} {st : am_M} {f : Nat → Int32} : am_upR (dr_D M 46 kd mo sk gn ew nw sh st) 49 f = dr_D M 46 kd mo sk gn ew nw sh (am_upR st 3 f) := by
  funext r j
  by_cases h : r = 49
  · subst h
    rfl
  · unfold am_upR dr_D
    simp [h]
theorem D46_u4 {M : am_M} {kd mo sk gn ew nw : Int32} {sh : Nat → Int32} {st : am_M} {i : Nat} {x : Int32} : am_up (dr_D M 46 kd mo sk gn ew nw sh st) 50 i x = dr_D M 46 kd mo sk gn ew nw sh (am_up st 4 i x) := by
  funext r j
  by_cases h : r = 50
  · subst h
    rfl
  · unfold am_up dr_D
    simp [h]
theorem D46_r4 {M : am_M} {kd mo sk gn ew nw : Int32} {sh : Nat → Int32} {st : am_M} {f : Nat → Int32} : am_upR (dr_D M 46 kd mo sk gn ew nw sh st) 50 f = dr_D M 46 kd mo sk gn ew nw sh (am_upR st 4 f) := by
  funext r j
  by_cases h : r = 50
  · subst h
    rfl
  · unfold am_upR dr_D
    simp [h]
theorem D46_s {M : am_M} {kd mo sk gn ew nw : Int32} {sh : Nat → Int32} {st : am_M} {f : Nat → Int32} : am_upR (dr_D M 46 kd mo sk gn ew nw sh st) 51 f = dr_D M 46 kd mo sk gn ew nw f st := by
  funext r j
  by_cases h : r = 51
  · subst h
    rfl
  · unfold am_upR dr_D
    simp [h]
theorem D46_f6 {M : am_M} {kd mo sk gn ew nw : Int32} {sh : Nat → Int32} {st : am_M} {x : Int32} : am_up (dr_D M 46 kd mo sk gn ew nw sh st) 46 6 x = dr_D M 46 x mo sk gn ew nw sh st := by
  funext r j
  by_cases h : r = 46
  · subst h
    by_cases h2 : j = 6
    · subst h2
      rfl
    · unfold am_up dr_D
      simp [h2]
  · unfold am_up dr_D
    simp [h]
theorem D46_f7 {M : am_M} {kd mo sk gn ew nw : Int32} {sh : Nat → Int32} {st : am_M} {x : Int32} : am_up (dr_D M 46 kd mo sk gn ew nw sh st) 46 7 x = dr_D M 46 kd x sk gn ew nw sh st := by
  funext r j
  by_cases h : r = 46
  · subst h
    by_cases h2 : j = 7
    · subst h2
      rfl
    · unfold am_up dr_D
      simp [h2]
  · unfold am_up dr_D
    simp [h]
theorem D46_f8 {M : am_M} {kd mo sk gn ew nw : Int32} {sh : Nat → Int32} {st : am_M} {x : Int32} : am_up (dr_D M 46 kd mo sk gn ew nw sh st) 46 8 x = dr_D M 46 kd mo x gn ew nw sh st := by
  funext r j
  by_cases h : r = 46
  · subst h
    by_cases h2 : j = 8
    · subst h2
      rfl
    · unfold am_up dr_D
      simp [h2]
  · unfold am_up dr_D
    simp [h]
theorem D46_f9 {M : am_M} {kd mo sk gn ew nw : Int32} {sh : Nat → Int32} {st : am_M} {x : Int32} : am_up (dr_D M 46 kd mo sk gn ew nw sh st) 46 9 x = dr_D M 46 kd mo sk x ew nw sh st := by
  funext r j
  by_cases h : r = 46
  · subst h
    by_cases h2 : j = 9
    · subst h2
      rfl
    · unfold am_up dr_D
      simp [h2]
  · unfold am_up dr_D
    simp [h]
theorem D46_f10 {M : am_M} {kd mo sk gn ew nw : Int32} {sh : Nat → Int32} {st : am_M} {x : Int32} : am_up (dr_D M 46 kd mo sk gn ew nw sh st) 46 10 x = dr_D M 46 kd mo sk gn x nw sh st := by
  funext r j
  by_cases h : r = 46
  · subst h
    by_cases h2 : j = 10
    · subst h2
      rfl
    · unfold am_up dr_D
      simp [h2]
  · unfold am_up dr_D
    simp [h]
theorem D46_f11 {M : am_M} {kd mo sk gn ew nw : Int32} {sh : Nat → Int32} {st : am_M} {x : Int32} : am_up (dr_D M 46 kd mo sk gn ew nw sh st) 46 11 x = dr_D M 46 kd mo sk gn ew x sh st := by
  funext r j
  by_cases h : r = 46
  · subst h
    by_cases h2 : j = 11
    · subst h2
      rfl
    · unfold am_up dr_D
      simp [h2]
  · unfold am_up dr_D
    simp [h]
theorem D46_f12 {M : am_M} {kd mo sk gn ew nw : Int32} {sh : Nat → Int32} {st : am_M} {x : Int32} : am_up (dr_D M 46 kd mo sk gn ew nw sh st) 46 12 x = dr_D M 46 kd mo sk gn ew nw sh (am_up st 0 12 x) := by
  funext r j
  by_cases h : r = 46
  · subst h
    by_cases h2 : j = 12
    · subst h2
      rfl
    · unfold am_up dr_D
      simp [h2]
  · unfold am_up dr_D
    simp [h]
theorem D46_f13 {M : am_M} {kd mo sk gn ew nw : Int32} {sh : Nat → Int32} {st : am_M} {x : Int32} : am_up (dr_D M 46 kd mo sk gn ew nw sh st) 46 13 x = dr_D M 46 kd mo sk gn ew nw sh (am_up st 0 13 x) := by
  funext r j
  by_cases h : r = 46
  · subst h
    by_cases h2 : j = 13
    · subst h2
      rfl
    · unfold am_up dr_D
      simp [h2]
  · unfold am_up dr_D
    simp [h]
theorem D46_f14 {M : am_M} {kd mo sk gn ew nw : Int32} {sh : Nat → Int32} {st : am_M} {x : Int32} : am_up (dr_D M 46 kd mo sk gn ew nw sh st) 46 14 x = dr_D M 46 kd mo sk gn ew nw sh (am_up st 0 14 x) := by
  funext r j
  by_cases h : r = 46
  · subst h
    by_cases h2 : j = 14
    · subst h2
      rfl
    · unfold am_up dr_D
      simp [h2]
  · unfold am_up dr_D
    simp [h]
theorem D46_of (M : am_M) : M = dr_D M 46 (M 46 6) (M 46 7) (M 46 8) (M 46 9) (M 46 10) (M 46 11) (M 51) (fun k j => if k = 0 then M 46 j else M (46 + k) j) := by
  funext r j
  unfold dr_D
  (repeat' split) <;> subst_vars <;> rfl
theorem R_u1 {M st : am_M} {i : Nat} {x : Int32} : am_up (dr_R M st) 143 i x = dr_R M (am_up st 1 i x) := by
  funext r j
  by_cases h : r = 143
  · subst h
    rfl
  · unfold am_up dr_R
    simp [h]
theorem R_r1 {M st : am_M} {f : Nat → Int32} : am_upR (dr_R M st) 143 f = dr_R M (am_upR st 1 f) := by
  funext r j
  by_cases h : r = 143
  · subst h
    rfl
  · unfold am_upR dr_R
    simp [h]
theorem R_u2 {M st : am_M} {i : Nat} {x : Int32} : am_up (dr_R M st) 144 i x = dr_R M (am_up st 2 i x) := by
  funext r j
  by_cases h : r = 144
  · subst h
    rfl
  · unfold am_up dr_R
    simp [h]
theorem R_r2 {M st : am_M} {f : Nat → Int32} : am_upR (dr_R M st) 144 f = dr_R M (am_upR st 2 f) := by
  funext r j
  by_cases h : r = 144
  · subst h
    rfl
  · unfold am_upR dr_R
    simp [h]
theorem R_u3 {M st : am_M} {i : Nat} {x : Int32} : am_up (dr_R M st) 145 i x = dr_R M (am_up st 3 i x) := by
  funext r j
  by_cases h : r = 145
  · subst h
    rfl
  · unfold am_up dr_R
    simp [h]
theorem R_r3 {M st : am_M} {f : Nat → Int32} : am_upR (dr_R M st) 145 f = dr_R M (am_upR st 3 f) := by
  funext r j
  by_cases h : r = 145
  · subst h
    rfl
  · unfold am_upR dr_R
    simp [h]
theorem R_u4 {M st : am_M} {i : Nat} {x : Int32} : am_up (dr_R M st) 146 i x = dr_R M (am_up st 4 i x) := by
  funext r j
  by_cases h : r = 146
  · subst h
    rfl
  · unfold am_up dr_R
    simp [h]
theorem R_r4 {M st : am_M} {f : Nat → Int32} : am_upR (dr_R M st) 146 f = dr_R M (am_upR st 4 f) := by
  funext r j
  by_cases h : r = 146
  · subst h
    rfl
  · unfold am_upR dr_R
    simp [h]
theorem R_f12 {M st : am_M} {x : Int32} : am_up (dr_R M st) 120 27 x = dr_R M (am_up st 0 12 x) := by
  funext r j
  by_cases h : r = 120
  · subst h
    by_cases h2 : j = 27
    · subst h2
      rfl
    · unfold am_up dr_R
      simp [h2]
  · unfold am_up dr_R
    simp [h]
theorem R_f13 {M st : am_M} {x : Int32} : am_up (dr_R M st) 120 28 x = dr_R M (am_up st 0 13 x) := by
  funext r j
  by_cases h : r = 120
  · subst h
    by_cases h2 : j = 28
    · subst h2
      rfl
    · unfold am_up dr_R
      simp [h2]
  · unfold am_up dr_R
    simp [h]
theorem R_f14 {M st : am_M} {x : Int32} : am_up (dr_R M st) 120 29 x = dr_R M (am_up st 0 14 x) := by
  funext r j
  by_cases h : r = 120
  · subst h
    by_cases h2 : j = 29
    · subst h2
      rfl
    · unfold am_up dr_R
      simp [h2]
  · unfold am_up dr_R
    simp [h]
theorem R_of (M : am_M) : M = dr_R M (fun k j => if k = 0 then M 120 (15 + j) else M (142 + k) j) := by
  funext r j
  unfold dr_R
  (repeat' split) <;> subst_vars <;> rfl
theorem up_il {g : Nat → Int32} {v : Int32} {i : Nat} : (fun b => if b = i then v else if b < i then v else g b) = fun b => if b < i + 1 then v else g b := by
  funext b
  by_cases h1 : b = i
  · rw [if_pos h1, if_pos (by omega)]
  · rw [if_neg h1]
    by_cases h2 : b < i
    · rw [if_pos h2, if_pos (by omega)]
    · rw [if_neg h2, if_neg (by omega)]
theorem J_r0 {X : am_X} {Q : am_Q} {i pc : Nat} {L S : am_V} {M : am_M} {N : am_N} (k : Nat) {g : Nat → Int32} (h : g = M k) (kk : am_J X Q i pc L S (am_upR M k g) N) : am_J X Q i pc L S M N := by
  subst h
  rw [upR_id] at kk
  exact kk
theorem lp41 {X : am_X} {M : am_M} {N : am_N} {v : Int32} {k n : Nat} (hk : am_SH[k]? = some (.inl (0, n))) (hn31 : n < 2147483648) : ∀ (m i : Nat), i + m = n → ∀ (x : Int32), x = nI i → ∀ (M1 : am_M), M1 = am_upR M k (fun j => if j < i then v else M k j) → am_J X (am_eq none (am_upR M k (fun _ => v)) N) 41 5 [.ref k, .int v, .int x, .int (nI n)] [] M1 N := by
  intro m
  induction m with
  | zero =>
    intro i hm x ex M1 em
    have e : i = n := by omega
    subst e
    subst em
    have hge : nI i ≤ x := by rw [ex]; exact Int32.le_refl _
    refine J_b 2 am_d41 rfl ?_
    refine J_icmp_ge 20 (am_d41 rfl) rfl (fun h7 => ?_) (fun h7 => absurd (hge) h7)
    refine J_mr k (fun _ => v) hk (fun j hj => ?_) ?_
    · rw [upR_r]
      show v = if j < _ then v else _
      rw [if_pos hj]
    · rw [upR_upR]
      exact J_ret (am_d41 rfl) rfl ⟨rfl, rfl, rfl⟩
  | succ m ih =>
    intro i hm x ex M1 em
    subst em
    have hi : i < n := by omega
    have hlt : ¬ nI n ≤ x := by rw [ex, Int32.le_iff_toInt_le, nI_i (by omega), nI_i (by omega)]; omega
    subst ex
    refine J_b 2 am_d41 rfl ?_
    refine J_icmp_ge 20 (am_d41 rfl) rfl (fun h7 => absurd h7 hlt) (fun h7 => ?_)
    refine J_b 3 am_d41 rfl ?_
    refine J_iast (am_d41 rfl) hk (vp_in_nI hi hn31) ?_
    refine J_b 2 am_d41 rfl ?_
    refine ih (i + 1) (by omega) _ ?_ _ ?_
    · exact nI_1 i
    · rw [nI_c (by omega), upR_up, up_il]
theorem sp41 {X : am_X} {M : am_M} {N : am_N} {k n : Nat} {v : Int32} (hk : am_SH[k]? = some (.inl (0, n))) (hn31 : n < 2147483648) : am_J X (am_eq (none) (am_upR M k (fun _ => v)) N) 41 0 (am_en 41 [.ref k, .int v]) [] M N := by
  refine J_en (L := [.ref k, .int v, .retAddr 0, .retAddr 0]) rfl ?_
  refine J_b 3 am_d41 rfl ?_
  refine J_alen (am_d41 rfl) hk ?_
  refine J_b 1 am_d41 rfl ?_
  refine lp41 hk hn31 n 0 (by omega) _ rfl _ ?_
  refine Eq.trans (upR_id (k := k)).symm ?_
  congr 1
theorem lp44 {X : am_X} {M : am_M} {N : am_N} {k n l : Nat} (hk : am_SH[k]? = some (.inl (0, l))) (hn : n ≤ l) (hn31 : l < 2147483648) : ∀ (m i : Nat), i + m = n → ∀ (x : Int32), x = nI i → ∀ (a : Int32), a = smI (M k) i → ∀ (z : Value), am_J X (am_eq (some (.int (smI (M k) n))) M N) 44 10 [.ref k, .int a, .ref k, .int (nI n), .int x, z] [] M N := by
  intro m
  induction m with
  | zero =>
    intro i hm x ex a ea z
    have e : i = n := by omega
    subst e
    subst ea
    have hge : nI i ≤ x := by rw [ex]; exact Int32.le_refl _
    refine J_b 2 am_d44 rfl ?_
    refine J_icmp_ge 33 (am_d44 rfl) rfl (fun h13 => ?_) (fun h13 => absurd (hge) h13)
    refine J_b 1 am_d44 rfl ?_
    exact J_iret (am_d44 rfl) rfl rfl ⟨rfl, rfl, rfl⟩
  | succ m ih =>
    intro i hm x ex a ea z
    have hlt : ¬ nI n ≤ x := by rw [ex, Int32.le_iff_toInt_le, nI_i (by omega), nI_i (by omega)]; omega
    subst ex
    subst ea
    refine J_b 2 am_d44 rfl ?_
    refine J_icmp_ge 33 (am_d44 rfl) rfl (fun h13 => absurd h13 hlt) (fun h13 => ?_)
    refine J_b 2 am_d44 rfl ?_
    refine J_iald (am_d44 rfl) hk (vp_in_nI (by omega) (by omega)) ?_
    refine J_b 7 am_d44 rfl ?_
    rw [nI_c (by omega)]
    refine ih (i + 1) (by omega) _ ?_ _ ?_ _
    · exact nI_1 i
    · rfl
theorem lp159 {X : am_X} {M : am_M} {N : am_N} {k n l : Nat} (hk : am_SH[k]? = some (.inl (0, l))) (hn : n ≤ l) (hn31 : l < 2147483648) : ∀ (m i : Nat), i + m = n → ∀ (x : Int32), x = nI i → ∀ (a : Int32), a = smI (M k) i → am_J X (am_eq (some (.int (smI (M k) n))) M N) 159 5 [.ref 120, .ref k, .int (nI n), .int a, .int x] [] M N := by
  intro m
  induction m with
  | zero =>
    intro i hm x ex a ea
    have e : i = n := by omega
    subst e
    subst ea
    have hge : nI i ≤ x := by rw [ex]; exact Int32.le_refl _
    refine J_b 2 am_d159 rfl ?_
    refine J_icmp_ge 24 (am_d159 rfl) rfl (fun h8 => ?_) (fun h8 => absurd (hge) h8)
    refine J_b 1 am_d159 rfl ?_
    exact J_iret (am_d159 rfl) rfl rfl ⟨rfl, rfl, rfl⟩
  | succ m ih =>
    intro i hm x ex a ea
    have hlt : ¬ nI n ≤ x := by rw [ex, Int32.le_iff_toInt_le, nI_i (by omega), nI_i (by omega)]; omega
    subst ex
    subst ea
    refine J_b 2 am_d159 rfl ?_
    refine J_icmp_ge 24 (am_d159 rfl) rfl (fun h8 => absurd h8 hlt) (fun h8 => ?_)
    refine J_b 3 am_d159 rfl ?_
    refine J_iald (am_d159 rfl) hk (vp_in_nI (by omega) (by omega)) ?_
    refine J_b 4 am_d159 rfl ?_
    rw [nI_c (by omega)]
    refine ih (i + 1) (by omega) _ ?_ _ ?_
    · exact nI_1 i
    · rfl
theorem sp44 {X : am_X} {M : am_M} {N : am_N} {k n : Nat} (hk : am_SH[k]? = some (.inl (0, n))) (hn31 : n < 2147483648) : am_J X (am_eq (some (.int (smI (M k) n))) (M) N) 44 0 (am_en 44 [.ref k]) [] M N := by
  refine J_en (L := [.ref k, .retAddr 0, .retAddr 0, .retAddr 0, .retAddr 0, .retAddr 0]) rfl ?_
  refine J_b 5 am_d44 rfl ?_
  refine J_alen (am_d44 rfl) hk ?_
  refine J_b 3 am_d44 rfl ?_
  exact lp44 hk (Nat.le_refl _) hn31 n 0 (by omega) _ rfl _ rfl _
theorem sp159 {X : am_X} {M : am_M} {N : am_N} {k n l : Nat} (hk : am_SH[k]? = some (.inl (0, l))) (hn : n ≤ l) (hn31 : l < 2147483648) : am_J X (am_eq (some (.int (smI (M k) n))) (M) N) 159 0 (am_en 159 [.ref 120, .ref k, .int (nI n)]) [] M N := by
  refine J_en (L := [.ref 120, .ref k, .int (nI n), .retAddr 0, .retAddr 0]) rfl ?_
  refine J_b 4 am_d159 rfl ?_
  exact lp159 hk hn hn31 n 0 (by omega) _ rfl _ rfl
end
section
/-! ===== the drift: small methods ===== -/
theorem f41 {x : Int32} (h : b_in x (-20) 20) : ∃ k : Fin 41, x = Int32.ofInt ((k.val : Int) - 20) := by
  unfold b_in at h
  refine ⟨⟨(x.toInt + 20).toNat, by omega⟩, I_eq ?_⟩
  have e : (((x.toInt + 20).toNat : Nat) : Int) - 20 = x.toInt := by omega
  show x.toInt = (Int32.ofInt ((((x.toInt + 20).toNat : Nat) : Int) - 20)).toInt
  rw [e, Int32.ofInt_toInt]
def i_sg (x : Int32) : Int32 := if x.toInt < 0 then -1 else if x = 0 then 0 else 1
def i_ab (x : Int32) : Int32 := if 0 ≤ x then x else -x
theorem sg_k : ∀ k : Fin 41, ((Int32.ofInt ((k.val : Int) - 20) >>> ((Int8.ofInt 31).toInt32 &&& 31)) ||| ((-(Int32.ofInt ((k.val : Int) - 20))).toUInt32 >>> ((Int8.ofInt 31).toInt32.toUInt32 &&& 31)).toInt32) = i_sg (Int32.ofInt ((k.val : Int) - 20)) := by
  decide +kernel
theorem sg_t : ∀ k : Fin 41, Int32.ofInt ((k.val : Int) - 20) = 0 ∨ (i_sg (Int32.ofInt ((k.val : Int) - 20))).toInt = c_sg (Int32.ofInt ((k.val : Int) - 20)) := by
  decide +kernel
theorem ab_t : ∀ k : Fin 41, (i_ab (Int32.ofInt ((k.val : Int) - 20))).toInt = ((Int32.ofInt ((k.val : Int) - 20)).toInt.natAbs : Nat) := by
  decide +kernel
theorem i_sg_v {x : Int32} (h : b_in x (-20) 20) (h0 : x.toInt ≠ 0) : (i_sg x).toInt = c_sg x := by
  obtain ⟨k, rfl⟩ := f41 h
  rcases sg_t k with h1 | h1
  · rw [h1] at h0
    exact absurd rfl h0
  · exact h1
theorem i_ab_v {x : Int32} (h : b_in x (-20) 20) : (i_ab x).toInt = (x.toInt.natAbs : Nat) := by
  obtain ⟨k, rfl⟩ := f41 h
  exact ab_t k
theorem c_sg_v (x : Int32) : c_sg x = 1 ∨ c_sg x = -1 := by
  unfold c_sg
  split
  · exact .inr rfl
  · exact .inl rfl
theorem fl_k : ∀ (k : Fin 4) (w : Fin 7), -6 ≤ (c_fl (Int32.ofNat k.val) (Int32.ofInt ((w.val : Int) - 3))).toInt ∧ (c_fl (Int32.ofNat k.val) (Int32.ofInt ((w.val : Int) - 3))).toInt ≤ 6 := by
  decide +kernel
theorem dv_k : ∀ (k : Fin 13), -3 ≤ (Int32.ofInt ((k.val : Int) - 6) / 2).toInt ∧ (Int32.ofInt ((k.val : Int) - 6) / 2).toInt ≤ 3 := by
  decide +kernel
theorem k_4 {x : Int32} (h : b_in x 0 3) : x = 0 ∨ x = 1 ∨ x = 2 ∨ x = 3 := by
  unfold b_in at h
  have h2 : x.toInt = 0 ∨ x.toInt = 1 ∨ x.toInt = 2 ∨ x.toInt = 3 := by omega
  rcases h2 with h2 | h2 | h2 | h2
  · exact .inl (I_eq h2)
  · exact .inr (.inl (I_eq h2))
  · exact .inr (.inr (.inl (I_eq h2)))
  · exact .inr (.inr (.inr (I_eq h2)))
theorem fl_b {k w : Int32} (hk : b_in k 0 3) (hw : b_in w (-3) 3) : b_in (c_fl k w) (-6) 6 := by
  have ek : k = Int32.ofNat k.toNatClampNeg := I_nI hk.1
  have hk2 : k.toNatClampNeg < 4 := by have := I_cl hk.1; have := hk.2; omega
  have ew : w = Int32.ofInt ((((w.toInt + 3).toNat : Nat) : Int) - 3) := by
    have e : (((w.toInt + 3).toNat : Nat) : Int) - 3 = w.toInt := by have := hw.1; omega
    rw [e, Int32.ofInt_toInt]
  have h := fl_k ⟨k.toNatClampNeg, hk2⟩ ⟨(w.toInt + 3).toNat, by have := hw.1; have := hw.2; omega⟩
  rw [← ek, ← ew] at h
  exact h
theorem dv_b {a : Int32} (h : b_in a (-6) 6) : b_in (a / 2) (-3) 3 := by
  have ea : a = Int32.ofInt ((((a.toInt + 6).toNat : Nat) : Int) - 6) := by
    have e : (((a.toInt + 6).toNat : Nat) : Int) - 6 = a.toInt := by have := h.1; omega
    rw [e, Int32.ofInt_toInt]
  have h := dv_k ⟨(a.toInt + 6).toNat, by have := h.1; have := h.2; omega⟩
  rw [← ea] at h
  exact h
theorem b_add {x y : Int32} {a b c d e f : Int} (hx : b_in x a b) (hy : b_in y c d) (h1 : -2147483648 ≤ a + c ∧ b + d < 2147483648) (h2 : e ≤ a + c ∧ b + d ≤ f) : b_in (x + y) e f := by
  unfold b_in at *
  rw [I_add (by omega)]
  omega
theorem wd_b {E : am_M} {a b m : Nat} (ha : ∀ j, b_in (E a j) (-3) 3) (hb : ∀ j, b_in (E b j) (-3) 3) : b_in (c_wd E a b m) (-3) 3 := by
  unfold c_wd
  split
  · exact ha _
  · exact hb _
theorem wd_e {M : am_M} {m : Nat} (h : iv_sb M) : b_in (c_wd (sC M) 9 12 m) (-3) 3 ∧ b_in (c_wd (sC M) 10 13 m) (-3) 3 := by
  obtain ⟨h1, h2, h3, h4, h5, h6, h7, h8, h9, h10, h11, h12⟩ := h
  refine ⟨wd_b h8 (fun j => ?_), wd_b h9 (fun j => ?_)⟩
  · show b_in (if M 14 j = 0 then 0 else M 15 j) (-3) 3
    split
    · exact b_00 (by decide)
    · exact h10 j
  · show b_in (if M 14 j = 0 then 0 else M 16 j) (-3) 3
    split
    · exact b_00 (by decide)
    · exact h11 j
theorem pl_i {x y : Int32} (hx : 0 ≤ x.toInt ∧ x.toInt < 10) (hy : 0 ≤ y.toInt ∧ y.toInt < 6) : vp_in (6 * x + y) 60 ∧ (6 * x + y).toNatClampNeg = (6 * x.toInt + y.toInt).toNat := by
  have z : (6 : Int32).toInt = 6 := rfl
  have e1 : (6 * x).toInt = 6 * x.toInt := by rw [I_mul (by rw [z]; omega), z]
  have e2 : (6 * x + y).toInt = 6 * x.toInt + y.toInt := by rw [I_add (by rw [e1]; omega), e1]
  refine ⟨vp_of (by omega), ?_⟩
  show (6 * x + y).toInt.toNat = _
  rw [e2]
theorem sp53 {X : am_X} {M : am_M} {N : am_N} {x : Int32} (h : b_in x (-20) 20) : am_J X (am_eq (some (.int (i_sg x))) (M) N) 53 0 (am_en 53 [.int x]) [] M N := by
  refine J_en (L := [.int x]) rfl ?_
  refine J_b 8 am_d53 rfl ?_
  exact J_iret (am_d53 rfl) rfl rfl ⟨by obtain ⟨k, rfl⟩ := f41 h; exact congrArg (fun z => some (Value.int z)) (sg_k k), rfl, rfl⟩
theorem sp52b {X : am_X} {M : am_M} {N : am_N} {x : Int32} : am_J X (am_eq (some (.int (i_ab x))) M N) 52 0 (am_en 52 [.int x]) [] M N := sp52
theorem sp46 {X : am_X} {M : am_M} {N : am_N} {m : Nat} (hm : m < 1000) : am_J X (am_eq (some (.int (c_wd (sC M) 9 12 m))) (M) N) 46 0 (am_en 46 [.ref 1, .int (nI m)]) [] M N := by
  have e48 : nI m - nI m / (Int8.ofInt 48).toInt32 * (Int8.ofInt 48).toInt32 = nI (m % 48) := nI_remn (by omega) (by decide) (by decide) rfl
  have e12 : nI m - nI m / (Int8.ofInt 12).toInt32 * (Int8.ofInt 12).toInt32 = nI (m % 12) := nI_remn (by omega) (by decide) (by decide) rfl
  have l48 : m % 48 < 48 := Nat.mod_lt _ (by decide)
  have l12 : m % 12 < 12 := Nat.mod_lt _ (by decide)
  refine J_en (L := [.ref 1, .int (nI m)]) rfl ?_
  refine J_b 5 am_d46 rfl ?_
  rw [e48]
  refine J_zald (am_d46 rfl) rfl (vp_in_nI (by omega) (by decide)) ?_
  rw [nI_c (n := m % 48) (by omega)]
  refine J_if_eq 24 (am_d46 rfl) rfl (fun h9 => ?_) (fun h9 => ?_)
  · refine J_b 5 am_d46 rfl ?_
    rw [e12]
    refine J_iald (am_d46 rfl) rfl (vp_in_nI (by omega) (by decide)) ?_
    rw [nI_c (n := m % 12) (by omega)]
    exact J_iret (am_d46 rfl) rfl rfl ⟨by congr 2; show _ = if M 14 (m % 48) = 0 then M 12 (m % 12) else (if M 14 (m % 48) = 0 then 0 else M 15 (m % 48)); first | (rw [if_pos h9]; done) | rw [if_neg h9, if_neg h9], rfl, rfl⟩
  · refine J_b 5 am_d46 rfl ?_
    rw [e48]
    refine J_iald (am_d46 rfl) rfl (vp_in_nI (by omega) (by decide)) ?_
    rw [nI_c (n := m % 48) (by omega)]
    refine J_b 1 am_d46 rfl ?_
    exact J_iret (am_d46 rfl) rfl rfl ⟨by congr 2; show _ = if M 14 (m % 48) = 0 then M 12 (m % 12) else (if M 14 (m % 48) = 0 then 0 else M 15 (m % 48)); first | (rw [if_pos h9]; done) | rw [if_neg h9, if_neg h9], rfl, rfl⟩
theorem sp48 {X : am_X} {M : am_M} {N : am_N} {m : Nat} (hm : m < 1000) : am_J X (am_eq (some (.int (c_wd (sC M) 10 13 m))) (M) N) 48 0 (am_en 48 [.ref 1, .int (nI m)]) [] M N := by
  have e48 : nI m - nI m / (Int8.ofInt 48).toInt32 * (Int8.ofInt 48).toInt32 = nI (m % 48) := nI_remn (by omega) (by decide) (by decide) rfl
  have e12 : nI m - nI m / (Int8.ofInt 12).toInt32 * (Int8.ofInt 12).toInt32 = nI (m % 12) := nI_remn (by omega) (by decide) (by decide) rfl
  have l48 : m % 48 < 48 := Nat.mod_lt _ (by decide)
  have l12 : m % 12 < 12 := Nat.mod_lt _ (by decide)
  refine J_en (L := [.ref 1, .int (nI m)]) rfl ?_
  refine J_b 5 am_d48 rfl ?_
  rw [e48]
  refine J_zald (am_d48 rfl) rfl (vp_in_nI (by omega) (by decide)) ?_
  rw [nI_c (n := m % 48) (by omega)]
  refine J_if_eq 24 (am_d48 rfl) rfl (fun h9 => ?_) (fun h9 => ?_)
  · refine J_b 5 am_d48 rfl ?_
    rw [e12]
    refine J_iald (am_d48 rfl) rfl (vp_in_nI (by omega) (by decide)) ?_
    rw [nI_c (n := m % 12) (by omega)]
    exact J_iret (am_d48 rfl) rfl rfl ⟨by congr 2; show _ = if M 14 (m % 48) = 0 then M 13 (m % 12) else (if M 14 (m % 48) = 0 then 0 else M 16 (m % 48)); first | (rw [if_pos h9]; done) | rw [if_neg h9, if_neg h9], rfl, rfl⟩
  · refine J_b 5 am_d48 rfl ?_
    rw [e48]
    refine J_iald (am_d48 rfl) rfl (vp_in_nI (by omega) (by decide)) ?_
    rw [nI_c (n := m % 48) (by omega)]
    refine J_b 1 am_d48 rfl ?_
    exact J_iret (am_d48 rfl) rfl rfl ⟨by congr 2; show _ = if M 14 (m % 48) = 0 then M 13 (m % 12) else (if M 14 (m % 48) = 0 then 0 else M 16 (m % 48)); first | (rw [if_pos h9]; done) | rw [if_neg h9, if_neg h9], rfl, rfl⟩
theorem sp49 {X : am_X} {M : am_M} {N : am_N} {p m : Nat} (hp : p < 60) (hm : m < 1000) : am_J X (am_eq (some (.int (am_bi (c_icy (sC M) m p)))) (M) N) 49 0 (am_en 49 [.ref 1, .int (nI p), .int (nI m)]) [] M N := by
  have e48 : nI m - nI m / (Int8.ofInt 48).toInt32 * (Int8.ofInt 48).toInt32 = nI (m % 48) := nI_remn (by omega) (by decide) (by decide) rfl
  have e12 : nI m - nI m / (Int8.ofInt 12).toInt32 * (Int8.ofInt 12).toInt32 = nI (m % 12) := nI_remn (by omega) (by decide) (by decide) rfl
  have l48 : m % 48 < 48 := Nat.mod_lt _ (by decide)
  have l12 : m % 12 < 12 := Nat.mod_lt _ (by decide)
  refine J_en (L := [.ref 1, .int (nI p), .int (nI m)]) rfl ?_
  refine J_b 3 am_d49 rfl ?_
  refine J_aaldk 7 (am_d49 rfl) rfl (am_vi rfl) rfl ?_
  refine J_b 1 am_d49 rfl ?_
  refine J_iald (am_d49 rfl) rfl (vp_in_nI hp (by decide)) ?_
  rw [nI_c (n := p) (by omega)]
  show am_J X _ 49 8 _ (.int (M 7 p) :: _) _ N
  
  refine J_b 7 am_d49 rfl ?_
  refine J_icmp_ne 23 (am_d49 rfl) rfl (fun h16 => ?_) (fun h16 => ?_)
  · rw [e12] at h16
    refine J_b 1 am_d49 rfl ?_
    exact J_iret (am_d49 rfl) rfl rfl ⟨by congr 2; first | exact (if_neg h16).symm | exact (if_pos h16).symm, rfl, rfl⟩
  · rw [e12] at h16
    refine J_b 2 am_d49 rfl ?_
    exact J_iret (am_d49 rfl) rfl rfl ⟨by congr 2; first | exact (if_neg h16).symm | exact (if_pos h16).symm, rfl, rfl⟩
theorem sp47_40 {X : am_X} {M : am_M} {N : am_N} {kd mo sk gn ew nw : Int32} {sh : Nat → Int32} {st : am_M} {w : Int32} (hk : b_in kd 0 3) : am_J X (am_eq (some (.int (c_fl kd w))) (dr_D M 40 kd mo sk gn ew nw sh st) N) 47 0 (am_en 47 [.ref 40, .int w]) [] (dr_D M 40 kd mo sk gn ew nw sh st) N := by
  refine J_en (L := [.ref 40, .int w]) rfl ?_
  rcases k_4 hk with rfl | rfl | rfl | rfl
  · refine J_b 2 am_d47 rfl ?_
    refine J_tsOut 42 (am_d47 rfl) (.inl (show (0 : Int32).toInt < 1 by decide)) rfl ?_
    refine J_b 1 am_d47 rfl ?_
    exact J_iret (am_d47 rfl) rfl rfl ⟨rfl, rfl, rfl⟩
  · refine J_b 2 am_d47 rfl ?_
    refine J_tsIn 32 (am_d47 rfl) (show ¬ (1 : Int32).toInt < 1 by decide) (show ¬ (3 : Int) < (1 : Int32).toInt by decide) rfl rfl ?_
    refine J_b 1 am_d47 rfl ?_
    exact J_iret (am_d47 rfl) rfl rfl ⟨rfl, rfl, rfl⟩
  · refine J_b 2 am_d47 rfl ?_
    refine J_tsIn 34 (am_d47 rfl) (show ¬ (2 : Int32).toInt < 1 by decide) (show ¬ (3 : Int) < (2 : Int32).toInt by decide) rfl rfl ?_
    refine J_b 3 am_d47 rfl ?_
    exact J_iret (am_d47 rfl) rfl rfl ⟨rfl, rfl, rfl⟩
  · refine J_b 2 am_d47 rfl ?_
    refine J_tsIn 38 (am_d47 rfl) (show ¬ (3 : Int32).toInt < 1 by decide) (show ¬ (3 : Int) < (3 : Int32).toInt by decide) rfl rfl ?_
    refine J_b 3 am_d47 rfl ?_
    exact J_iret (am_d47 rfl) rfl rfl ⟨rfl, rfl, rfl⟩
theorem sp47_46 {X : am_X} {M : am_M} {N : am_N} {kd mo sk gn ew nw : Int32} {sh : Nat → Int32} {st : am_M} {w : Int32} (hk : b_in kd 0 3) : am_J X (am_eq (some (.int (c_fl kd w))) (dr_D M 46 kd mo sk gn ew nw sh st) N) 47 0 (am_en 47 [.ref 46, .int w]) [] (dr_D M 46 kd mo sk gn ew nw sh st) N := by
  refine J_en (L := [.ref 46, .int w]) rfl ?_
  rcases k_4 hk with rfl | rfl | rfl | rfl
  · refine J_b 2 am_d47 rfl ?_
    refine J_tsOut 42 (am_d47 rfl) (.inl (show (0 : Int32).toInt < 1 by decide)) rfl ?_
    refine J_b 1 am_d47 rfl ?_
    exact J_iret (am_d47 rfl) rfl rfl ⟨rfl, rfl, rfl⟩
  · refine J_b 2 am_d47 rfl ?_
    refine J_tsIn 32 (am_d47 rfl) (show ¬ (1 : Int32).toInt < 1 by decide) (show ¬ (3 : Int) < (1 : Int32).toInt by decide) rfl rfl ?_
    refine J_b 1 am_d47 rfl ?_
    exact J_iret (am_d47 rfl) rfl rfl ⟨rfl, rfl, rfl⟩
  · refine J_b 2 am_d47 rfl ?_
    refine J_tsIn 34 (am_d47 rfl) (show ¬ (2 : Int32).toInt < 1 by decide) (show ¬ (3 : Int) < (2 : Int32).toInt by decide) rfl rfl ?_
    refine J_b 3 am_d47 rfl ?_
    exact J_iret (am_d47 rfl) rfl rfl ⟨rfl, rfl, rfl⟩
  · refine J_b 2 am_d47 rfl ?_
    refine J_tsIn 38 (am_d47 rfl) (show ¬ (3 : Int32).toInt < 1 by decide) (show ¬ (3 : Int) < (3 : Int32).toInt by decide) rfl rfl ?_
    refine J_b 3 am_d47 rfl ?_
    exact J_iret (am_d47 rfl) rfl rfl ⟨rfl, rfl, rfl⟩
end
section
/-! ===== the drift: parts sent over the sea ===== -/
theorem pth_N {W : Nat → Int32} {dx dy : Int} {b : Nat} {x y : Int} : c_pth W dx dy 0 (b + 1) x y = if c_ic x (y + dy) then (if W (6 * x + (y + dy)).toNat = 1 then (2, (6 * x + (y + dy)).toNat) else if W (6 * x + (y + dy)).toNat = 2 then (0, (6 * x + y).toNat) else c_pth W dx dy 0 b x (y + dy)) else (1, 0) := by
  rw [c_pth]
theorem pth_E {W : Nat → Int32} {dx dy : Int} {a b : Nat} {x y : Int} : c_pth W dx dy (a + 1) b x y = if c_ic (x + dx) y then (if W (6 * (x + dx) + y).toNat = 1 then (2, (6 * (x + dx) + y).toNat) else if W (6 * (x + dx) + y).toNat = 2 then (0, (6 * x + y).toNat) else c_pth W dx dy a b (x + dx) y) else (1, 0) := by
  rw [c_pth]
theorem ap_1 {n : Int32} {st : am_M} : c_ap (1, 0) n st = am_up st 0 13 (st 0 13 + n) := rfl
theorem ap_2 {n : Int32} {st : am_M} {k : Nat} : c_ap (2, k) n st = am_up st 3 k (st 3 k + n) := rfl
theorem ap_0 {n : Int32} {st : am_M} {k : Nat} : c_ap (0, k) n st = am_up st 2 k (st 2 k + n) := rfl
def c_gg (E : am_M) (sh : Nat → Int32) (ew nw : Int32) (m p : Nat) (w : Int32) (st : am_M) : am_M :=
  c_sd E p ((E 5 (c_k E m p) + E 6 (c_k E m p)) / 2 + (ew + sh (E 1 p).toNatClampNeg)) ((E 7 (c_k E m p) + E 8 (c_k E m p)) / 2 + nw) (w - 2 * (w / 4))
    (c_sd E p (E 6 (c_k E m p) + (ew + sh (E 1 p).toNatClampNeg)) (E 8 (c_k E m p) + nw) (w / 4)
      (c_sd E p (E 5 (c_k E m p) + (ew + sh (E 1 p).toNatClampNeg)) (E 7 (c_k E m p) + nw) (w / 4) st))
theorem lp51N_40 {X : am_X} {M : am_M} {N : am_N} {kd mo sk gn ew nw : Int32} {sh : Nat → Int32} {st : am_M} {p e n many eS stp : Int32} {dx : Int} (hn : b_in n (-20) 20) (hS : stp.toInt ≤ 100) : ∀ (k : Nat) (x y i : Int32) (z1 z2 z3 : Value), (0 ≤ x.toInt ∧ x.toInt < 10) → (0 ≤ y.toInt ∧ y.toInt < 6) → eS.toInt ≤ i.toInt → (0 ≤ i.toInt ∧ i.toInt + k = stp.toInt) → (k ≠ 0 → n.toInt ≠ 0) → am_J X (am_eq none (dr_D M 40 kd mo sk gn ew nw sh (c_ap (c_pth (M 3) dx (c_sg n) 0 k x.toInt y.toInt) many st)) N) 51 30 [.ref 40, .int p, .int e, .int n, .int many, .int x, .int y, .int eS, .int stp, .int i, z1, z2, z3] [] (dr_D M 40 kd mo sk gn ew nw sh st) N := by
  intro k
  induction k with
  | zero =>
    intro x y i z1 z2 z3 hx hy hie hi h0
    have hge : stp ≤ i := by rw [Int32.le_iff_toInt_le]; omega
    have hpo := pl_i hx hy
    have hq : c_pth (M 3) dx (c_sg n) 0 0 x.toInt y.toInt = (0, (6 * x.toInt + y.toInt).toNat) := by rw [c_pth]
    refine J_b 2 am_d51 rfl ?_
    refine J_icmp_ge 167 (am_d51 rfl) rfl (fun h34 => ?_) (fun h34 => absurd (hge) h34)
    refine J_b 4 am_d51 rfl ?_
    refine J_S2s 16 (am_d51 rfl) rfl rfl (sp16) ?_
    refine J_b 1 am_d51 rfl ?_
    refine J_iald (am_d51 rfl) rfl (hpo.1) ?_
    refine J_b 2 am_d51 rfl ?_
    refine J_iast (am_d51 rfl) rfl (hpo.1) ?_
    exact J_ret (am_d51 rfl) rfl ⟨rfl, by rw [hpo.2, D40_u2, hq]; rfl, rfl⟩
  | succ k ih =>
    intro x y i z1 z2 z3 hx hy hie1 hi h0
    have hlt : ¬ stp ≤ i := by rw [Int32.le_iff_toInt_le]; omega
    have hie : eS ≤ i := by rw [Int32.le_iff_toInt_le]; omega
    have hn0 := h0 (by omega)
    have hsg := i_sg_v hn hn0
    have hs1 := c_sg_v n
    have hy1 : (y + i_sg n).toInt = y.toInt + c_sg n := by rw [I_add (by omega), hsg]
    have hi1 : (i + 1).toInt = i.toInt + 1 := by rw [I_add (by have : (1 : Int32).toInt = 1 := rfl; omega)]; rfl
    have hpo := pl_i hx hy
    refine J_b 2 am_d51 rfl ?_
    refine J_icmp_ge 167 (am_d51 rfl) rfl (fun h34 => absurd h34 hlt) (fun h34 => ?_)
    refine J_b 2 am_d51 rfl ?_
    refine J_icmp_ge 54 (am_d51 rfl) rfl (fun h41 => ?_) (fun h41 => absurd (hie) h41)
    refine J_b 4 am_d51 rfl ?_
    refine J_icmp_ge 70 (am_d51 rfl) rfl (fun h62 => ?_) (fun h62 => absurd (hie) h62)
    refine J_b 2 am_d51 rfl ?_
    refine J_S1s 53 (am_d51 rfl) rfl rfl (sp53 hn) ?_
    refine J_b 4 am_d51 rfl ?_
    refine J_S2s 12 (am_d51 rfl) rfl rfl (sp12) ?_
    refine J_if_ne 101 (am_d51 rfl) rfl (fun h86 => ?_) (fun h86 => ?_)
    · have hcell := am_bi1.mp h86
      have hpl := pl_i hcell.1 hcell.2
      have hic : c_ic (x.toInt) (y.toInt + c_sg n) := by rw [← hy1]; exact hcell
      have hpe : (6 * x + (y + i_sg n)).toNatClampNeg = (6 * (x.toInt) + (y.toInt + c_sg n)).toNat := by rw [hpl.2, hy1]
      refine J_b 4 am_d51 rfl ?_
      refine J_aaldk 3 (am_d51 rfl) rfl (am_vi rfl) rfl ?_
      refine J_b 2 am_d51 rfl ?_
      refine J_S2s 16 (am_d51 rfl) rfl rfl (sp16) ?_
      refine J_iald (am_d51 rfl) rfl hpl.1 ?_
      rw [hpe]
      show am_J X _ 51 118 _ (.int (M 3 (6 * (x.toInt) + (y.toInt + c_sg n)).toNat) :: _) _ N
      refine J_b 3 am_d51 rfl ?_
      refine J_icmp_ne 144 (am_d51 rfl) rfl (fun h123 => ?_) (fun h123 => ?_)
      · refine J_b 2 am_d51 rfl ?_
        refine J_icmp_ne 153 (am_d51 rfl) rfl (fun h147 => ?_) (fun h147 => ?_)
        · have hq : c_pth (M 3) dx (c_sg n) 0 (k + 1) x.toInt y.toInt = c_pth (M 3) dx (c_sg n) 0 k (x.toInt) (y.toInt + c_sg n) := by rw [pth_N, if_pos hic, if_neg (show ¬ M 3 (6 * (x.toInt) + (y.toInt + c_sg n)).toNat = 1 from h123), if_neg (show ¬ M 3 (6 * (x.toInt) + (y.toInt + c_sg n)).toNat = 2 from h147)]
          rw [hq]
          rw [← hy1]
          refine J_b 6 am_d51 rfl ?_
          exact ih x (y + i_sg n) (i + 1) _ _ _ hx hcell.2 (by rw [hi1]; omega) (by rw [hi1]; omega) (fun _ => hn0)
        · refine J_b 1 am_d51 rfl ?_
          have hq : c_pth (M 3) dx (c_sg n) 0 (k + 1) x.toInt y.toInt = (0, (6 * x.toInt + y.toInt).toNat) := by rw [pth_N, if_pos hic, if_neg (show ¬ M 3 (6 * (x.toInt) + (y.toInt + c_sg n)).toNat = 1 from h123), if_pos (show  M 3 (6 * (x.toInt) + (y.toInt + c_sg n)).toNat = 2 from h147)]
          refine J_b 4 am_d51 rfl ?_
          refine J_S2s 16 (am_d51 rfl) rfl rfl (sp16) ?_
          refine J_b 1 am_d51 rfl ?_
          refine J_iald (am_d51 rfl) rfl (hpo.1) ?_
          refine J_b 2 am_d51 rfl ?_
          refine J_iast (am_d51 rfl) rfl (hpo.1) ?_
          exact J_ret (am_d51 rfl) rfl ⟨rfl, by rw [hpo.2, D40_u2, hq]; rfl, rfl⟩
      · have hq : c_pth (M 3) dx (c_sg n) 0 (k + 1) x.toInt y.toInt = (2, (6 * (x.toInt) + (y.toInt + c_sg n)).toNat) := by rw [pth_N, if_pos hic, if_pos (show  M 3 (6 * (x.toInt) + (y.toInt + c_sg n)).toNat = 1 from h123)]
        refine J_b 4 am_d51 rfl ?_
        refine J_S2s 16 (am_d51 rfl) rfl rfl (sp16) ?_
        refine J_b 1 am_d51 rfl ?_
        refine J_iald (am_d51 rfl) rfl (hpl.1) ?_
        refine J_b 2 am_d51 rfl ?_
        refine J_iast (am_d51 rfl) rfl (hpl.1) ?_
        exact J_ret (am_d51 rfl) rfl ⟨rfl, by rw [hpe, D40_u3, hq]; rfl, rfl⟩
    · have hq : c_pth (M 3) dx (c_sg n) 0 (k + 1) x.toInt y.toInt = (1, 0) := by rw [pth_N, if_neg (fun hc => absurd h86 (am_bi1.mpr (by rw [hy1]; exact hc)))]
      refine J_b 5 am_d51 rfl ?_
      refine J_puti (am_d51 rfl) rfl ?_
      exact J_ret (am_d51 rfl) rfl ⟨rfl, by rw [D40_f13, hq]; rfl, rfl⟩
theorem lp51E_40 {X : am_X} {M : am_M} {N : am_N} {kd mo sk gn ew nw : Int32} {sh : Nat → Int32} {st : am_M} {p e n many eS stp : Int32} {kb : Nat} (he : b_in e (-20) 20) (hn : b_in n (-20) 20) (hS : stp.toInt = eS.toInt + kb ∧ eS.toInt ≤ 20 ∧ kb ≤ 20) (hn0 : kb ≠ 0 → n.toInt ≠ 0) (he0 : eS.toInt ≠ 0 → e.toInt ≠ 0) : ∀ (k : Nat) (x y i : Int32) (z1 z2 z3 : Value), (0 ≤ x.toInt ∧ x.toInt < 10) → (0 ≤ y.toInt ∧ y.toInt < 6) → (0 ≤ i.toInt ∧ i.toInt + k = eS.toInt) → True → am_J X (am_eq none (dr_D M 40 kd mo sk gn ew nw sh (c_ap (c_pth (M 3) (c_sg e) (c_sg n) k kb x.toInt y.toInt) many st)) N) 51 30 [.ref 40, .int p, .int e, .int n, .int many, .int x, .int y, .int eS, .int stp, .int i, z1, z2, z3] [] (dr_D M 40 kd mo sk gn ew nw sh st) N := by
  intro k
  induction k with
  | zero =>
    intro x y i z1 z2 z3 hx hy hi _
    exact lp51N_40 hn (by omega) kb x y i z1 z2 z3 hx hy (by omega) (by omega) hn0
  | succ k ih =>
    intro x y i z1 z2 z3 hx hy hi _
    have hlt : ¬ stp ≤ i := by rw [Int32.le_iff_toInt_le]; omega
    have hie : ¬ eS ≤ i := by rw [Int32.le_iff_toInt_le]; omega
    have hsg := i_sg_v he (he0 (by omega))
    have hs1 := c_sg_v e
    have hx1 : (x + i_sg e).toInt = x.toInt + c_sg e := by rw [I_add (by omega), hsg]
    have hi1 : (i + 1).toInt = i.toInt + 1 := by rw [I_add (by have : (1 : Int32).toInt = 1 := rfl; omega)]; rfl
    have hpo := pl_i hx hy
    refine J_b 2 am_d51 rfl ?_
    refine J_icmp_ge 167 (am_d51 rfl) rfl (fun h34 => absurd h34 hlt) (fun h34 => ?_)
    refine J_b 2 am_d51 rfl ?_
    refine J_icmp_ge 54 (am_d51 rfl) rfl (fun h41 => absurd h41 hie) (fun h41 => ?_)
    refine J_b 2 am_d51 rfl ?_
    refine J_S1s 53 (am_d51 rfl) rfl rfl (sp53 he) ?_
    refine J_b 5 am_d51 rfl ?_
    refine J_icmp_ge 70 (am_d51 rfl) rfl (fun h62 => absurd h62 hie) (fun h62 => ?_)
    refine J_b 5 am_d51 rfl ?_
    refine J_S2s 12 (am_d51 rfl) rfl rfl (sp12) ?_
    refine J_if_ne 101 (am_d51 rfl) rfl (fun h86 => ?_) (fun h86 => ?_)
    · have hcell := am_bi1.mp h86
      have hpl := pl_i hcell.1 hcell.2
      have hic : c_ic (x.toInt + c_sg e) (y.toInt) := by rw [← hx1]; exact hcell
      have hpe : (6 * (x + i_sg e) + y).toNatClampNeg = (6 * (x.toInt + c_sg e) + (y.toInt)).toNat := by rw [hpl.2, hx1]
      refine J_b 4 am_d51 rfl ?_
      refine J_aaldk 3 (am_d51 rfl) rfl (am_vi rfl) rfl ?_
      refine J_b 2 am_d51 rfl ?_
      refine J_S2s 16 (am_d51 rfl) rfl rfl (sp16) ?_
      refine J_iald (am_d51 rfl) rfl hpl.1 ?_
      rw [hpe]
      show am_J X _ 51 118 _ (.int (M 3 (6 * (x.toInt + c_sg e) + (y.toInt)).toNat) :: _) _ N
      refine J_b 3 am_d51 rfl ?_
      refine J_icmp_ne 144 (am_d51 rfl) rfl (fun h123 => ?_) (fun h123 => ?_)
      · refine J_b 2 am_d51 rfl ?_
        refine J_icmp_ne 153 (am_d51 rfl) rfl (fun h147 => ?_) (fun h147 => ?_)
        · have hq : c_pth (M 3) (c_sg e) (c_sg n) (k + 1) kb x.toInt y.toInt = c_pth (M 3) (c_sg e) (c_sg n) k kb (x.toInt + c_sg e) (y.toInt) := by rw [pth_E, if_pos hic, if_neg (show ¬ M 3 (6 * (x.toInt + c_sg e) + (y.toInt)).toNat = 1 from h123), if_neg (show ¬ M 3 (6 * (x.toInt + c_sg e) + (y.toInt)).toNat = 2 from h147)]
          rw [hq]
          rw [← hx1]
          refine J_b 6 am_d51 rfl ?_
          exact ih (x + i_sg e) y (i + 1) _ _ _ hcell.1 hy (by rw [hi1]; omega) trivial
        · refine J_b 1 am_d51 rfl ?_
          have hq : c_pth (M 3) (c_sg e) (c_sg n) (k + 1) kb x.toInt y.toInt = (0, (6 * x.toInt + y.toInt).toNat) := by rw [pth_E, if_pos hic, if_neg (show ¬ M 3 (6 * (x.toInt + c_sg e) + (y.toInt)).toNat = 1 from h123), if_pos (show  M 3 (6 * (x.toInt + c_sg e) + (y.toInt)).toNat = 2 from h147)]
          refine J_b 4 am_d51 rfl ?_
          refine J_S2s 16 (am_d51 rfl) rfl rfl (sp16) ?_
          refine J_b 1 am_d51 rfl ?_
          refine J_iald (am_d51 rfl) rfl (hpo.1) ?_
          refine J_b 2 am_d51 rfl ?_
          refine J_iast (am_d51 rfl) rfl (hpo.1) ?_
          exact J_ret (am_d51 rfl) rfl ⟨rfl, by rw [hpo.2, D40_u2, hq]; rfl, rfl⟩
      · have hq : c_pth (M 3) (c_sg e) (c_sg n) (k + 1) kb x.toInt y.toInt = (2, (6 * (x.toInt + c_sg e) + (y.toInt)).toNat) := by rw [pth_E, if_pos hic, if_pos (show  M 3 (6 * (x.toInt + c_sg e) + (y.toInt)).toNat = 1 from h123)]
        refine J_b 4 am_d51 rfl ?_
        refine J_S2s 16 (am_d51 rfl) rfl rfl (sp16) ?_
        refine J_b 1 am_d51 rfl ?_
        refine J_iald (am_d51 rfl) rfl (hpl.1) ?_
        refine J_b 2 am_d51 rfl ?_
        refine J_iast (am_d51 rfl) rfl (hpl.1) ?_
        exact J_ret (am_d51 rfl) rfl ⟨rfl, by rw [hpe, D40_u3, hq]; rfl, rfl⟩
    · have hq : c_pth (M 3) (c_sg e) (c_sg n) (k + 1) kb x.toInt y.toInt = (1, 0) := by rw [pth_E, if_neg (fun hc => absurd h86 (am_bi1.mpr (by rw [hx1]; exact hc)))]
      refine J_b 5 am_d51 rfl ?_
      refine J_puti (am_d51 rfl) rfl ?_
      exact J_ret (am_d51 rfl) rfl ⟨rfl, by rw [D40_f13, hq]; rfl, rfl⟩
theorem sp51_40 {X : am_X} {M : am_M} {N : am_N} {kd mo sk gn ew nw : Int32} {sh : Nat → Int32} {st : am_M} {p : Nat} {e n many : Int32} (hp : p < 60) (he : b_in e (-20) 20) (hn : b_in n (-20) 20) : am_J X (am_eq (none) (dr_D M 40 kd mo sk gn ew nw sh (c_sd (sC M) p e n many st)) N) 51 0 (am_en 51 [.ref 40, .int (nI p), .int e, .int n, .int many]) [] (dr_D M 40 kd mo sk gn ew nw sh st) N := by
  have ha := i_ab_v he
  have hb := i_ab_v hn
  have hae : e.toInt.natAbs ≤ 20 := by unfold b_in at he; omega
  have hbn : n.toInt.natAbs ≤ 20 := by unfold b_in at hn; omega
  have hs : (i_ab e + i_ab n).toInt = (i_ab e).toInt + (n.toInt.natAbs : Nat) := by rw [I_add (by omega), hb]
  have e6 : nI p / (Int8.ofInt 6).toInt32 = nI (p / 6) := nI_divn (by omega) (by decide) (by decide) rfl
  have r6 : nI p - nI p / (Int8.ofInt 6).toInt32 * (Int8.ofInt 6).toInt32 = nI (p % 6) := nI_remn (by omega) (by decide) (by decide) rfl
  have l6 : p % 6 < 6 := Nat.mod_lt _ (by decide)
  have l10 : p / 6 < 10 := by omega
  have i1 := nI_i (n := p / 6) (by omega)
  have i2 := nI_i (n := p % 6) (by omega)
  refine J_en (L := [.ref 40, .int (nI p), .int e, .int n, .int many, .retAddr 0, .retAddr 0, .retAddr 0, .retAddr 0, .retAddr 0, .retAddr 0, .retAddr 0, .retAddr 0]) rfl ?_
  refine J_b 9 am_d51 rfl ?_
  refine J_S1s 52 (am_d51 rfl) rfl rfl (sp52b) ?_
  refine J_b 3 am_d51 rfl ?_
  refine J_S1s 52 (am_d51 rfl) rfl rfl (sp52b) ?_
  refine J_b 4 am_d51 rfl ?_
  rw [r6, e6]
  unfold c_sd
  rw [← i1, ← i2]
  exact lp51E_40 he hn ⟨hs, by omega, hbn⟩ (by omega) (by omega) _ _ _ _ _ _ _ (by omega) (by omega) ⟨by decide, by rw [ha]; exact Int.zero_add _⟩ trivial
theorem lp51N_46 {X : am_X} {M : am_M} {N : am_N} {kd mo sk gn ew nw : Int32} {sh : Nat → Int32} {st : am_M} {p e n many eS stp : Int32} {dx : Int} (hn : b_in n (-20) 20) (hS : stp.toInt ≤ 100) : ∀ (k : Nat) (x y i : Int32) (z1 z2 z3 : Value), (0 ≤ x.toInt ∧ x.toInt < 10) → (0 ≤ y.toInt ∧ y.toInt < 6) → eS.toInt ≤ i.toInt → (0 ≤ i.toInt ∧ i.toInt + k = stp.toInt) → (k ≠ 0 → n.toInt ≠ 0) → am_J X (am_eq none (dr_D M 46 kd mo sk gn ew nw sh (c_ap (c_pth (M 3) dx (c_sg n) 0 k x.toInt y.toInt) many st)) N) 51 30 [.ref 46, .int p, .int e, .int n, .int many, .int x, .int y, .int eS, .int stp, .int i, z1, z2, z3] [] (dr_D M 46 kd mo sk gn ew nw sh st) N := by
  intro k
  induction k with
  | zero =>
    intro x y i z1 z2 z3 hx hy hie hi h0
    have hge : stp ≤ i := by rw [Int32.le_iff_toInt_le]; omega
    have hpo := pl_i hx hy
    have hq : c_pth (M 3) dx (c_sg n) 0 0 x.toInt y.toInt = (0, (6 * x.toInt + y.toInt).toNat) := by rw [c_pth]
    refine J_b 2 am_d51 rfl ?_
    refine J_icmp_ge 167 (am_d51 rfl) rfl (fun h34 => ?_) (fun h34 => absurd (hge) h34)
    refine J_b 4 am_d51 rfl ?_
    refine J_S2s 16 (am_d51 rfl) rfl rfl (sp16) ?_
    refine J_b 1 am_d51 rfl ?_
    refine J_iald (am_d51 rfl) rfl (hpo.1) ?_
    refine J_b 2 am_d51 rfl ?_
    refine J_iast (am_d51 rfl) rfl (hpo.1) ?_
    exact J_ret (am_d51 rfl) rfl ⟨rfl, by rw [hpo.2, D46_u2, hq]; rfl, rfl⟩
  | succ k ih =>
    intro x y i z1 z2 z3 hx hy hie1 hi h0
    have hlt : ¬ stp ≤ i := by rw [Int32.le_iff_toInt_le]; omega
    have hie : eS ≤ i := by rw [Int32.le_iff_toInt_le]; omega
    have hn0 := h0 (by omega)
    have hsg := i_sg_v hn hn0
    have hs1 := c_sg_v n
    have hy1 : (y + i_sg n).toInt = y.toInt + c_sg n := by rw [I_add (by omega), hsg]
    have hi1 : (i + 1).toInt = i.toInt + 1 := by rw [I_add (by have : (1 : Int32).toInt = 1 := rfl; omega)]; rfl
    have hpo := pl_i hx hy
    refine J_b 2 am_d51 rfl ?_
    refine J_icmp_ge 167 (am_d51 rfl) rfl (fun h34 => absurd h34 hlt) (fun h34 => ?_)
    refine J_b 2 am_d51 rfl ?_
    refine J_icmp_ge 54 (am_d51 rfl) rfl (fun h41 => ?_) (fun h41 => absurd (hie) h41)
    refine J_b 4 am_d51 rfl ?_
    refine J_icmp_ge 70 (am_d51 rfl) rfl (fun h62 => ?_) (fun h62 => absurd (hie) h62)
    refine J_b 2 am_d51 rfl ?_
    refine J_S1s 53 (am_d51 rfl) rfl rfl (sp53 hn) ?_
    refine J_b 4 am_d51 rfl ?_
    refine J_S2s 12 (am_d51 rfl) rfl rfl (sp12) ?_
    refine J_if_ne 101 (am_d51 rfl) rfl (fun h86 => ?_) (fun h86 => ?_)
    · have hcell := am_bi1.mp h86
      have hpl := pl_i hcell.1 hcell.2
      have hic : c_ic (x.toInt) (y.toInt + c_sg n) := by rw [← hy1]; exact hcell
      have hpe : (6 * x + (y + i_sg n)).toNatClampNeg = (6 * (x.toInt) + (y.toInt + c_sg n)).toNat := by rw [hpl.2, hy1]
      refine J_b 4 am_d51 rfl ?_
      refine J_aaldk 3 (am_d51 rfl) rfl (am_vi rfl) rfl ?_
      refine J_b 2 am_d51 rfl ?_
      refine J_S2s 16 (am_d51 rfl) rfl rfl (sp16) ?_
      refine J_iald (am_d51 rfl) rfl hpl.1 ?_
      rw [hpe]
      show am_J X _ 51 118 _ (.int (M 3 (6 * (x.toInt) + (y.toInt + c_sg n)).toNat) :: _) _ N
      refine J_b 3 am_d51 rfl ?_
      refine J_icmp_ne 144 (am_d51 rfl) rfl (fun h123 => ?_) (fun h123 => ?_)
      · refine J_b 2 am_d51 rfl ?_
        refine J_icmp_ne 153 (am_d51 rfl) rfl (fun h147 => ?_) (fun h147 => ?_)
        · have hq : c_pth (M 3) dx (c_sg n) 0 (k + 1) x.toInt y.toInt = c_pth (M 3) dx (c_sg n) 0 k (x.toInt) (y.toInt + c_sg n) := by rw [pth_N, if_pos hic, if_neg (show ¬ M 3 (6 * (x.toInt) + (y.toInt + c_sg n)).toNat = 1 from h123), if_neg (show ¬ M 3 (6 * (x.toInt) + (y.toInt + c_sg n)).toNat = 2 from h147)]
          rw [hq]
          rw [← hy1]
          refine J_b 6 am_d51 rfl ?_
          exact ih x (y + i_sg n) (i + 1) _ _ _ hx hcell.2 (by rw [hi1]; omega) (by rw [hi1]; omega) (fun _ => hn0)
        · refine J_b 1 am_d51 rfl ?_
          have hq : c_pth (M 3) dx (c_sg n) 0 (k + 1) x.toInt y.toInt = (0, (6 * x.toInt + y.toInt).toNat) := by rw [pth_N, if_pos hic, if_neg (show ¬ M 3 (6 * (x.toInt) + (y.toInt + c_sg n)).toNat = 1 from h123), if_pos (show  M 3 (6 * (x.toInt) + (y.toInt + c_sg n)).toNat = 2 from h147)]
          refine J_b 4 am_d51 rfl ?_
          refine J_S2s 16 (am_d51 rfl) rfl rfl (sp16) ?_
          refine J_b 1 am_d51 rfl ?_
          refine J_iald (am_d51 rfl) rfl (hpo.1) ?_
          refine J_b 2 am_d51 rfl ?_
          refine J_iast (am_d51 rfl) rfl (hpo.1) ?_
          exact J_ret (am_d51 rfl) rfl ⟨rfl, by rw [hpo.2, D46_u2, hq]; rfl, rfl⟩
      · have hq : c_pth (M 3) dx (c_sg n) 0 (k + 1) x.toInt y.toInt = (2, (6 * (x.toInt) + (y.toInt + c_sg n)).toNat) := by rw [pth_N, if_pos hic, if_pos (show  M 3 (6 * (x.toInt) + (y.toInt + c_sg n)).toNat = 1 from h123)]
        refine J_b 4 am_d51 rfl ?_
        refine J_S2s 16 (am_d51 rfl) rfl rfl (sp16) ?_
        refine J_b 1 am_d51 rfl ?_
        refine J_iald (am_d51 rfl) rfl (hpl.1) ?_
        refine J_b 2 am_d51 rfl ?_
        refine J_iast (am_d51 rfl) rfl (hpl.1) ?_
        exact J_ret (am_d51 rfl) rfl ⟨rfl, by rw [hpe, D46_u3, hq]; rfl, rfl⟩
    · have hq : c_pth (M 3) dx (c_sg n) 0 (k + 1) x.toInt y.toInt = (1, 0) := by rw [pth_N, if_neg (fun hc => absurd h86 (am_bi1.mpr (by rw [hy1]; exact hc)))]
      refine J_b 5 am_d51 rfl ?_
      refine J_puti (am_d51 rfl) rfl ?_
      exact J_ret (am_d51 rfl) rfl ⟨rfl, by rw [D46_f13, hq]; rfl, rfl⟩
theorem lp51E_46 {X : am_X} {M : am_M} {N : am_N} {kd mo sk gn ew nw : Int32} {sh : Nat → Int32} {st : am_M} {p e n many eS stp : Int32} {kb : Nat} (he : b_in e (-20) 20) (hn : b_in n (-20) 20) (hS : stp.toInt = eS.toInt + kb ∧ eS.toInt ≤ 20 ∧ kb ≤ 20) (hn0 : kb ≠ 0 → n.toInt ≠ 0) (he0 : eS.toInt ≠ 0 → e.toInt ≠ 0) : ∀ (k : Nat) (x y i : Int32) (z1 z2 z3 : Value), (0 ≤ x.toInt ∧ x.toInt < 10) → (0 ≤ y.toInt ∧ y.toInt < 6) → (0 ≤ i.toInt ∧ i.toInt + k = eS.toInt) → True → am_J X (am_eq none (dr_D M 46 kd mo sk gn ew nw sh (c_ap (c_pth (M 3) (c_sg e) (c_sg n) k kb x.toInt y.toInt) many st)) N) 51 30 [.ref 46, .int p, .int e, .int n, .int many, .int x, .int y, .int eS, .int stp, .int i, z1, z2, z3] [] (dr_D M 46 kd mo sk gn ew nw sh st) N := by
  intro k
  induction k with
  | zero =>
    intro x y i z1 z2 z3 hx hy hi _
    exact lp51N_46 hn (by omega) kb x y i z1 z2 z3 hx hy (by omega) (by omega) hn0
  | succ k ih =>
    intro x y i z1 z2 z3 hx hy hi _
    have hlt : ¬ stp ≤ i := by rw [Int32.le_iff_toInt_le]; omega
    have hie : ¬ eS ≤ i := by rw [Int32.le_iff_toInt_le]; omega
    have hsg := i_sg_v he (he0 (by omega))
    have hs1 := c_sg_v e
    have hx1 : (x + i_sg e).toInt = x.toInt + c_sg e := by rw [I_add (by omega), hsg]
    have hi1 : (i + 1).toInt = i.toInt + 1 := by rw [I_add (by have : (1 : Int32).toInt = 1 := rfl; omega)]; rfl
    have hpo := pl_i hx hy
    refine J_b 2 am_d51 rfl ?_
    refine J_icmp_ge 167 (am_d51 rfl) rfl (fun h34 => absurd h34 hlt) (fun h34 => ?_)
    refine J_b 2 am_d51 rfl ?_
    refine J_icmp_ge 54 (am_d51 rfl) rfl (fun h41 => absurd h41 hie) (fun h41 => ?_)
    refine J_b 2 am_d51 rfl ?_
    refine J_S1s 53 (am_d51 rfl) rfl rfl (sp53 he) ?_
    refine J_b 5 am_d51 rfl ?_
    refine J_icmp_ge 70 (am_d51 rfl) rfl (fun h62 => absurd h62 hie) (fun h62 => ?_)
    refine J_b 5 am_d51 rfl ?_
    refine J_S2s 12 (am_d51 rfl) rfl rfl (sp12) ?_
    refine J_if_ne 101 (am_d51 rfl) rfl (fun h86 => ?_) (fun h86 => ?_)
    · have hcell := am_bi1.mp h86
      have hpl := pl_i hcell.1 hcell.2
      have hic : c_ic (x.toInt + c_sg e) (y.toInt) := by rw [← hx1]; exact hcell
      have hpe : (6 * (x + i_sg e) + y).toNatClampNeg = (6 * (x.toInt + c_sg e) + (y.toInt)).toNat := by rw [hpl.2, hx1]
      refine J_b 4 am_d51 rfl ?_
      refine J_aaldk 3 (am_d51 rfl) rfl (am_vi rfl) rfl ?_
      refine J_b 2 am_d51 rfl ?_
      refine J_S2s 16 (am_d51 rfl) rfl rfl (sp16) ?_
      refine J_iald (am_d51 rfl) rfl hpl.1 ?_
      rw [hpe]
      show am_J X _ 51 118 _ (.int (M 3 (6 * (x.toInt + c_sg e) + (y.toInt)).toNat) :: _) _ N
      refine J_b 3 am_d51 rfl ?_
      refine J_icmp_ne 144 (am_d51 rfl) rfl (fun h123 => ?_) (fun h123 => ?_)
      · refine J_b 2 am_d51 rfl ?_
        refine J_icmp_ne 153 (am_d51 rfl) rfl (fun h147 => ?_) (fun h147 => ?_)
        · have hq : c_pth (M 3) (c_sg e) (c_sg n) (k + 1) kb x.toInt y.toInt = c_pth (M 3) (c_sg e) (c_sg n) k kb (x.toInt + c_sg e) (y.toInt) := by rw [pth_E, if_pos hic, if_neg (show ¬ M 3 (6 * (x.toInt + c_sg e) + (y.toInt)).toNat = 1 from h123), if_neg (show ¬ M 3 (6 * (x.toInt + c_sg e) + (y.toInt)).toNat = 2 from h147)]
          rw [hq]
          rw [← hx1]
          refine J_b 6 am_d51 rfl ?_
          exact ih (x + i_sg e) y (i + 1) _ _ _ hcell.1 hy (by rw [hi1]; omega) trivial
        · refine J_b 1 am_d51 rfl ?_
          have hq : c_pth (M 3) (c_sg e) (c_sg n) (k + 1) kb x.toInt y.toInt = (0, (6 * x.toInt + y.toInt).toNat) := by rw [pth_E, if_pos hic, if_neg (show ¬ M 3 (6 * (x.toInt + c_sg e) + (y.toInt)).toNat = 1 from h123), if_pos (show  M 3 (6 * (x.toInt + c_sg e) + (y.toInt)).toNat = 2 from h147)]
          refine J_b 4 am_d51 rfl ?_
          refine J_S2s 16 (am_d51 rfl) rfl rfl (sp16) ?_
          refine J_b 1 am_d51 rfl ?_
          refine J_iald (am_d51 rfl) rfl (hpo.1) ?_
          refine J_b 2 am_d51 rfl ?_
          refine J_iast (am_d51 rfl) rfl (hpo.1) ?_
          exact J_ret (am_d51 rfl) rfl ⟨rfl, by rw [hpo.2, D46_u2, hq]; rfl, rfl⟩
      · have hq : c_pth (M 3) (c_sg e) (c_sg n) (k + 1) kb x.toInt y.toInt = (2, (6 * (x.toInt + c_sg e) + (y.toInt)).toNat) := by rw [pth_E, if_pos hic, if_pos (show  M 3 (6 * (x.toInt + c_sg e) + (y.toInt)).toNat = 1 from h123)]
        refine J_b 4 am_d51 rfl ?_
        refine J_S2s 16 (am_d51 rfl) rfl rfl (sp16) ?_
        refine J_b 1 am_d51 rfl ?_
        refine J_iald (am_d51 rfl) rfl (hpl.1) ?_
        refine J_b 2 am_d51 rfl ?_
        refine J_iast (am_d51 rfl) rfl (hpl.1) ?_
        exact J_ret (am_d51 rfl) rfl ⟨rfl, by rw [hpe, D46_u3, hq]; rfl, rfl⟩
    · have hq : c_pth (M 3) (c_sg e) (c_sg n) (k + 1) kb x.toInt y.toInt = (1, 0) := by rw [pth_E, if_neg (fun hc => absurd h86 (am_bi1.mpr (by rw [hx1]; exact hc)))]
      refine J_b 5 am_d51 rfl ?_
      refine J_puti (am_d51 rfl) rfl ?_
      exact J_ret (am_d51 rfl) rfl ⟨rfl, by rw [D46_f13, hq]; rfl, rfl⟩
theorem sp51_46 {X : am_X} {M : am_M} {N : am_N} {kd mo sk gn ew nw : Int32} {sh : Nat → Int32} {st : am_M} {p : Nat} {e n many : Int32} (hp : p < 60) (he : b_in e (-20) 20) (hn : b_in n (-20) 20) : am_J X (am_eq (none) (dr_D M 46 kd mo sk gn ew nw sh (c_sd (sC M) p e n many st)) N) 51 0 (am_en 51 [.ref 46, .int (nI p), .int e, .int n, .int many]) [] (dr_D M 46 kd mo sk gn ew nw sh st) N := by
  have ha := i_ab_v he
  have hb := i_ab_v hn
  have hae : e.toInt.natAbs ≤ 20 := by unfold b_in at he; omega
  have hbn : n.toInt.natAbs ≤ 20 := by unfold b_in at hn; omega
  have hs : (i_ab e + i_ab n).toInt = (i_ab e).toInt + (n.toInt.natAbs : Nat) := by rw [I_add (by omega), hb]
  have e6 : nI p / (Int8.ofInt 6).toInt32 = nI (p / 6) := nI_divn (by omega) (by decide) (by decide) rfl
  have r6 : nI p - nI p / (Int8.ofInt 6).toInt32 * (Int8.ofInt 6).toInt32 = nI (p % 6) := nI_remn (by omega) (by decide) (by decide) rfl
  have l6 : p % 6 < 6 := Nat.mod_lt _ (by decide)
  have l10 : p / 6 < 10 := by omega
  have i1 := nI_i (n := p / 6) (by omega)
  have i2 := nI_i (n := p % 6) (by omega)
  refine J_en (L := [.ref 46, .int (nI p), .int e, .int n, .int many, .retAddr 0, .retAddr 0, .retAddr 0, .retAddr 0, .retAddr 0, .retAddr 0, .retAddr 0, .retAddr 0]) rfl ?_
  refine J_b 9 am_d51 rfl ?_
  refine J_S1s 52 (am_d51 rfl) rfl rfl (sp52b) ?_
  refine J_b 3 am_d51 rfl ?_
  refine J_S1s 52 (am_d51 rfl) rfl rfl (sp52b) ?_
  refine J_b 4 am_d51 rfl ?_
  rw [r6, e6]
  unfold c_sd
  rw [← i1, ← i2]
  exact lp51E_46 he hn ⟨hs, by omega, hbn⟩ (by omega) (by omega) _ _ _ _ _ _ _ (by omega) (by omega) ⟨by decide, by rw [ha]; exact Int.zero_add _⟩ trivial
end
section
/-! ===== the drift: from a cell, a month ===== -/
theorem k_36 {M : am_M} {m p : Nat} (hb : iv_sb M) : c_k (sC M) m p < 36 ∧ M 4 p * (Int8.ofInt 12).toInt32 + nI (m % 12) = nI (c_k (sC M) m p) ∧ vp_in (M 4 p) 3 := by
  have h := hb.1 p
  unfold b_in at h
  have h1 := I_cl h.1
  have l12 : m % 12 < 12 := Nat.mod_lt _ (by decide)
  have e0 : M 4 p = nI (M 4 p).toNatClampNeg := I_nI h.1
  have ek : c_k (sC M) m p = 12 * (M 4 p).toNatClampNeg + m % 12 := rfl
  have e1 : M 4 p * (Int8.ofInt 12).toInt32 = nI (12 * (M 4 p).toNatClampNeg) := by
    rw [show (Int8.ofInt 12).toInt32 = nI 12 from rfl, Nat.mul_comm 12, ← nI_mul, ← e0]
  refine ⟨by rw [ek]; omega, ?_, vp_of (by omega)⟩
  rw [e1, nI_add, ek]
theorem J_L {X : am_X} {Q : am_Q} {i pc : Nat} {L L' S : am_V} {M : am_M} {N : am_N} (e : L = L') (kk : am_J X Q i pc L' S M N) : am_J X Q i pc L S M N := by
  rw [e]
  exact kk
theorem cpy0 {f g : Nat → Int32} {n : Nat} : va_cpy f g 0 0 n = fun j => if j < n then f j else g j := by
  funext j
  unfold va_cpy
  by_cases h : j < n
  · rw [if_pos (by omega), if_pos h, Nat.zero_add, Nat.sub_zero]
  · rw [if_neg (by omega), if_neg h]
theorem go_0 {E : am_M} {sh : Nat → Int32} {kd : Int32} {m p : Nat} {st : am_M} (h : st 1 p = 0) : c_go E sh kd m p st = st := if_pos h
theorem go_1 {E : am_M} {sh : Nat → Int32} {kd : Int32} {m p : Nat} {st : am_M} (h : ¬ st 1 p = 0) (h2 : c_icy E m p) : c_go E sh kd m p st = am_up st 2 p (st 2 p + st 1 p) := by
  unfold c_go
  rw [if_neg h, if_pos h2]
theorem go_2 {E : am_M} {sh : Nat → Int32} {kd : Int32} {m p : Nat} {st : am_M} (h : ¬ st 1 p = 0) (h2 : ¬ c_icy E m p) : c_go E sh kd m p st = c_gg E sh (c_fl kd (c_wd E 9 12 m)) (c_fl kd (c_wd E 10 13 m)) m p (st 1 p) st := by
  unfold c_go
  rw [if_neg h, if_neg h2]
  rfl
theorem itr_s {α : Type} {f : Nat → α → α} {n : Nat} {a : α} : itr f (n + 1) a = f n (itr f n a) := rfl
def c_bi (E : am_M) (t : Nat) (st : am_M) (i : Nat) : am_M :=
  am_upR (am_upR (am_up st 0 12 (st 0 12 + smI (c_cv E st) i)) 3 (fun c => if c < i then st 3 c - c_tk E st c - c_cv E st c else st 3 c)) 4 (fun k => if 60 * t ≤ k ∧ k < 60 * t + i then c_tk E st (k - 60 * t) else st 4 k)
theorem bi_0 {E st : am_M} {t : Nat} : c_bi E t st 0 = st := by
  funext a j
  unfold c_bi
  by_cases h4 : a = 4
  · subst h4
    show (if 60 * t ≤ j ∧ j < 60 * t + 0 then c_tk E st (j - 60 * t) else st 4 j) = st 4 j
    rw [if_neg (by omega)]
  · by_cases h3 : a = 3
    · subst h3
      show (if j < 0 then st 3 j - c_tk E st j - c_cv E st j else st 3 j) = st 3 j
      rw [if_neg (by omega)]
    · by_cases h0 : a = 0
      · subst h0
        by_cases hj : j = 12
        · subst hj
          exact Int32.add_zero _
        · simp [am_up, am_upR, hj]
      · simp [am_up, am_upR, h4, h3, h0]
theorem bi_s {E st : am_M} {t i : Nat} : am_up (am_up (am_up (c_bi E t st i) 4 (60 * t + i) (c_tk E st i)) 0 12 (c_bi E t st i 0 12 + c_cv E st i)) 3 i (st 3 i - c_tk E st i - c_cv E st i) = c_bi E t st (i + 1) := by
  funext a j
  unfold c_bi
  by_cases h4 : a = 4
  · subst h4
    show (if j = 60 * t + i then c_tk E st i else if 60 * t ≤ j ∧ j < 60 * t + i then c_tk E st (j - 60 * t) else st 4 j) = if 60 * t ≤ j ∧ j < 60 * t + (i + 1) then c_tk E st (j - 60 * t) else st 4 j
    by_cases h : j = 60 * t + i
    · rw [if_pos h, if_pos (by omega), h, Nat.add_sub_cancel_left]
    · rw [if_neg h]
      by_cases h2 : 60 * t ≤ j ∧ j < 60 * t + i
      · rw [if_pos h2, if_pos (by omega)]
      · rw [if_neg h2, if_neg (by omega)]
  · by_cases h3 : a = 3
    · subst h3
      show (if j = i then st 3 i - c_tk E st i - c_cv E st i else if j < i then st 3 j - c_tk E st j - c_cv E st j else st 3 j) = if j < i + 1 then st 3 j - c_tk E st j - c_cv E st j else st 3 j
      by_cases h : j = i
      · rw [if_pos h, if_pos (by omega), h]
      · rw [if_neg h]
        by_cases h2 : j < i
        · rw [if_pos h2, if_pos (by omega)]
        · rw [if_neg h2, if_neg (by omega)]
    · by_cases h0 : a = 0
      · subst h0
        by_cases hj : j = 12
        · subst hj
          show st 0 12 + smI (c_cv E st) i + c_cv E st i = st 0 12 + (smI (c_cv E st) i + c_cv E st i)
          rw [Int32.add_assoc]
        · simp [am_up, am_upR, hj]
      · simp [am_up, am_upR, h4, h3, h0]
theorem I_z16 {x : Int32} : (0 : Int32) * x / 16 = 0 := by
  rw [Int32.zero_mul]
  rfl
theorem bi_n {E st : am_M} {t i : Nat} (h : st 3 i = 0) (h4 : st 4 (60 * t + i) = 0) : c_bi E t st (i + 1) = c_bi E t st i := by
  have e1 : c_tk E st i = 0 := by
    unfold c_tk
    rw [h]
    exact I_z16
  have e2 : c_cv E st i = 0 := by
    unfold c_cv
    rw [e1, h]
    exact I_z16
  rw [← bi_s, e1, e2, h]
  rw [up_id (M := c_bi E t st i) (by show (if 60 * t ≤ 60 * t + i ∧ 60 * t + i < 60 * t + i then _ else st 4 (60 * t + i)) = 0; rw [if_neg (by omega)]; exact h4)]
  rw [up_id (Int32.add_zero _).symm]
  rw [up_id (by show (if i < i then _ else st 3 i) = _; rw [if_neg (by omega), h]; rfl)]
theorem sp50_40 {X : am_X} {M : am_M} {N : am_N} {kd mo sk gn ew nw : Int32} {sh : Nat → Int32} {st : am_M} {m p : Nat} (hp : p < 60) (hm : m < 1000) (hb : iv_sb M) (hsh : ∀ j, b_in (sh j) (-1) 1) (hew : b_in ew (-6) 6) (hnw : b_in nw (-6) 6) : am_J X (am_eq (none) (dr_D M 40 kd mo sk gn ew nw sh (c_gg (sC M) sh ew nw m p (st 1 p) st)) N) 50 0 (am_en 50 [.ref 40, .int (nI p), .int (nI m)]) [] (dr_D M 40 kd mo sk gn ew nw sh st) N := by
  have e12 : nI m - nI m / (Int8.ofInt 12).toInt32 * (Int8.ofInt 12).toInt32 = nI (m % 12) := nI_remn (by omega) (by decide) (by decide) rfl
  have l12 : m % 12 < 12 := Nat.mod_lt _ (by decide)
  obtain ⟨hk1, hk2, hr⟩ := k_36 (m := m) (p := p) hb
  obtain ⟨b1, b2, b3, b4, b5, b6, b7, b8, b9, b10, b11, b12⟩ := hb
  have be := b_add (e := -7) (f := 7) hew (hsh (M 4 p).toNatClampNeg) (by decide) (by decide)
  have he1 : b_in (M 8 (c_k (sC M) m p) + (ew + sh (M 4 p).toNatClampNeg)) (-20) 20 := b_add (b4 _) be (by decide) (by decide)
  have he2 : b_in (M 9 (c_k (sC M) m p) + (ew + sh (M 4 p).toNatClampNeg)) (-20) 20 := b_add (b5 _) be (by decide) (by decide)
  have he3 : b_in ((M 8 (c_k (sC M) m p) + M 9 (c_k (sC M) m p)) / 2 + (ew + sh (M 4 p).toNatClampNeg)) (-20) 20 := b_add (dv_b (b_add (b4 _) (b5 _) (by decide) (by decide))) be (by decide) (by decide)
  have hn1 : b_in (M 10 (c_k (sC M) m p) + nw) (-20) 20 := b_add (b6 _) hnw (by decide) (by decide)
  have hn2 : b_in (M 11 (c_k (sC M) m p) + nw) (-20) 20 := b_add (b7 _) hnw (by decide) (by decide)
  have hn3 : b_in ((M 10 (c_k (sC M) m p) + M 11 (c_k (sC M) m p)) / 2 + nw) (-20) 20 := b_add (dv_b (b_add (b6 _) (b7 _) (by decide) (by decide))) hnw (by decide) (by decide)
  refine J_en (L := [.ref 40, .int (nI p), .int (nI m), .retAddr 0, .retAddr 0, .retAddr 0, .retAddr 0, .retAddr 0]) rfl ?_
  refine J_b 4 am_d50 rfl ?_
  refine J_aaldk 4 (am_d50 rfl) rfl (am_vi rfl) rfl ?_
  refine J_b 1 am_d50 rfl ?_
  refine J_iald (am_d50 rfl) rfl (vp_in_nI hp (by decide)) ?_
  rw [nI_c (n := p) (by omega)]
  show am_J X _ 50 11 _ (.int (M 4 p) :: _) _ N
  refine J_b 7 am_d50 rfl ?_
  rw [e12]
  refine J_b 2 am_d50 rfl ?_
  refine J_L (L' := [.ref 40, .int (nI p), .int (nI m), .int (M 4 p), .int (nI (c_k (sC M) m p)), .retAddr 0, .retAddr 0, .retAddr 0]) (congrArg (fun z => ([.ref 40, .int (nI p), .int (nI m), .int (M 4 p), .int z, .retAddr 0, .retAddr 0, .retAddr 0] : am_V)) hk2) ?_
  refine J_b 5 am_d50 rfl ?_
  refine J_iald (am_d50 rfl) rfl hr ?_
  show am_J X _ 50 33 _ (.int (sh (M 4 p).toNatClampNeg) :: .int ew :: _) _ N
  refine J_b 5 am_d50 rfl ?_
  refine J_iald (am_d50 rfl) rfl (vp_in_nI hp (by decide)) ?_
  rw [nI_c (n := p) (by omega)]
  show am_J X _ 50 42 _ (.int (st 1 p) :: _) _ N
  refine J_b 6 am_d50 rfl ?_
  refine J_iald (am_d50 rfl) rfl (vp_in_nI hp (by decide)) ?_
  rw [nI_c (n := p) (by omega)]
  show am_J X _ 50 52 _ (.int (st 1 p) :: _) _ N
  refine J_b 5 am_d50 rfl ?_
  show am_J X _ 50 59 [.ref 40, .int (nI p), .int (nI m), .int (M 4 p), .int (nI (c_k (sC M) m p)), .int (ew + sh (M 4 p).toNatClampNeg), .int (st 1 p / 4), .int (st 1 p - 2 * (st 1 p / 4))] [] _ N
  refine J_b 1 am_d50 rfl ?_
  refine J_b 5 am_d50 rfl ?_
  refine J_iald (am_d50 rfl) rfl (vp_in_nI hk1 (by decide)) ?_
  rw [nI_c (n := (c_k (sC M) m p)) (by omega)]
  show am_J X _ 50 71 _ (.int (M 8 (c_k (sC M) m p)) :: _) _ N
  refine J_b 6 am_d50 rfl ?_
  refine J_iald (am_d50 rfl) rfl (vp_in_nI hk1 (by decide)) ?_
  rw [nI_c (n := (c_k (sC M) m p)) (by omega)]
  show am_J X _ 50 84 _ (.int (M 10 (c_k (sC M) m p)) :: _) _ N
  refine J_b 4 am_d50 rfl ?_
  refine J_V4n 51 (am_d50 rfl) rfl rfl (sp51_40 hp he1 hn1) ?_
  refine J_b 6 am_d50 rfl ?_
  refine J_iald (am_d50 rfl) rfl (vp_in_nI hk1 (by decide)) ?_
  rw [nI_c (n := (c_k (sC M) m p)) (by omega)]
  show am_J X _ 50 106 _ (.int (M 9 (c_k (sC M) m p)) :: _) _ N
  refine J_b 6 am_d50 rfl ?_
  refine J_iald (am_d50 rfl) rfl (vp_in_nI hk1 (by decide)) ?_
  rw [nI_c (n := (c_k (sC M) m p)) (by omega)]
  show am_J X _ 50 119 _ (.int (M 11 (c_k (sC M) m p)) :: _) _ N
  refine J_b 4 am_d50 rfl ?_
  refine J_V4n 51 (am_d50 rfl) rfl rfl (sp51_40 hp he2 hn2) ?_
  refine J_b 6 am_d50 rfl ?_
  refine J_iald (am_d50 rfl) rfl (vp_in_nI hk1 (by decide)) ?_
  rw [nI_c (n := (c_k (sC M) m p)) (by omega)]
  show am_J X _ 50 141 _ (.int (M 8 (c_k (sC M) m p)) :: _) _ N
  refine J_b 4 am_d50 rfl ?_
  refine J_iald (am_d50 rfl) rfl (vp_in_nI hk1 (by decide)) ?_
  rw [nI_c (n := (c_k (sC M) m p)) (by omega)]
  show am_J X _ 50 151 _ (.int (M 9 (c_k (sC M) m p)) :: _) _ N
  refine J_b 9 am_d50 rfl ?_
  refine J_iald (am_d50 rfl) rfl (vp_in_nI hk1 (by decide)) ?_
  rw [nI_c (n := (c_k (sC M) m p)) (by omega)]
  show am_J X _ 50 167 _ (.int (M 10 (c_k (sC M) m p)) :: _) _ N
  refine J_b 4 am_d50 rfl ?_
  refine J_iald (am_d50 rfl) rfl (vp_in_nI hk1 (by decide)) ?_
  rw [nI_c (n := (c_k (sC M) m p)) (by omega)]
  show am_J X _ 50 177 _ (.int (M 11 (c_k (sC M) m p)) :: _) _ N
  refine J_b 7 am_d50 rfl ?_
  refine J_V4n 51 (am_d50 rfl) rfl rfl (sp51_40 hp he3 hn3) ?_
  exact J_ret (am_d50 rfl) rfl ⟨rfl, rfl, rfl⟩
theorem sp50_46 {X : am_X} {M : am_M} {N : am_N} {kd mo sk gn ew nw : Int32} {sh : Nat → Int32} {st : am_M} {m p : Nat} (hp : p < 60) (hm : m < 1000) (hb : iv_sb M) (hsh : ∀ j, b_in (sh j) (-1) 1) (hew : b_in ew (-6) 6) (hnw : b_in nw (-6) 6) : am_J X (am_eq (none) (dr_D M 46 kd mo sk gn ew nw sh (c_gg (sC M) sh ew nw m p (st 1 p) st)) N) 50 0 (am_en 50 [.ref 46, .int (nI p), .int (nI m)]) [] (dr_D M 46 kd mo sk gn ew nw sh st) N := by
  have e12 : nI m - nI m / (Int8.ofInt 12).toInt32 * (Int8.ofInt 12).toInt32 = nI (m % 12) := nI_remn (by omega) (by decide) (by decide) rfl
  have l12 : m % 12 < 12 := Nat.mod_lt _ (by decide)
  obtain ⟨hk1, hk2, hr⟩ := k_36 (m := m) (p := p) hb
  obtain ⟨b1, b2, b3, b4, b5, b6, b7, b8, b9, b10, b11, b12⟩ := hb
  have be := b_add (e := -7) (f := 7) hew (hsh (M 4 p).toNatClampNeg) (by decide) (by decide)
  have he1 : b_in (M 8 (c_k (sC M) m p) + (ew + sh (M 4 p).toNatClampNeg)) (-20) 20 := b_add (b4 _) be (by decide) (by decide)
  have he2 : b_in (M 9 (c_k (sC M) m p) + (ew + sh (M 4 p).toNatClampNeg)) (-20) 20 := b_add (b5 _) be (by decide) (by decide)
  have he3 : b_in ((M 8 (c_k (sC M) m p) + M 9 (c_k (sC M) m p)) / 2 + (ew + sh (M 4 p).toNatClampNeg)) (-20) 20 := b_add (dv_b (b_add (b4 _) (b5 _) (by decide) (by decide))) be (by decide) (by decide)
  have hn1 : b_in (M 10 (c_k (sC M) m p) + nw) (-20) 20 := b_add (b6 _) hnw (by decide) (by decide)
  have hn2 : b_in (M 11 (c_k (sC M) m p) + nw) (-20) 20 := b_add (b7 _) hnw (by decide) (by decide)
  have hn3 : b_in ((M 10 (c_k (sC M) m p) + M 11 (c_k (sC M) m p)) / 2 + nw) (-20) 20 := b_add (dv_b (b_add (b6 _) (b7 _) (by decide) (by decide))) hnw (by decide) (by decide)
  refine J_en (L := [.ref 46, .int (nI p), .int (nI m), .retAddr 0, .retAddr 0, .retAddr 0, .retAddr 0, .retAddr 0]) rfl ?_
  refine J_b 4 am_d50 rfl ?_
  refine J_aaldk 4 (am_d50 rfl) rfl (am_vi rfl) rfl ?_
  refine J_b 1 am_d50 rfl ?_
  refine J_iald (am_d50 rfl) rfl (vp_in_nI hp (by decide)) ?_
  rw [nI_c (n := p) (by omega)]
  show am_J X _ 50 11 _ (.int (M 4 p) :: _) _ N
  refine J_b 7 am_d50 rfl ?_
  rw [e12]
  refine J_b 2 am_d50 rfl ?_
  refine J_L (L' := [.ref 46, .int (nI p), .int (nI m), .int (M 4 p), .int (nI (c_k (sC M) m p)), .retAddr 0, .retAddr 0, .retAddr 0]) (congrArg (fun z => ([.ref 46, .int (nI p), .int (nI m), .int (M 4 p), .int z, .retAddr 0, .retAddr 0, .retAddr 0] : am_V)) hk2) ?_
  refine J_b 5 am_d50 rfl ?_
  refine J_iald (am_d50 rfl) rfl hr ?_
  show am_J X _ 50 33 _ (.int (sh (M 4 p).toNatClampNeg) :: .int ew :: _) _ N
  refine J_b 5 am_d50 rfl ?_
  refine J_iald (am_d50 rfl) rfl (vp_in_nI hp (by decide)) ?_
  rw [nI_c (n := p) (by omega)]
  show am_J X _ 50 42 _ (.int (st 1 p) :: _) _ N
  refine J_b 6 am_d50 rfl ?_
  refine J_iald (am_d50 rfl) rfl (vp_in_nI hp (by decide)) ?_
  rw [nI_c (n := p) (by omega)]
  show am_J X _ 50 52 _ (.int (st 1 p) :: _) _ N
  refine J_b 5 am_d50 rfl ?_
  show am_J X _ 50 59 [.ref 46, .int (nI p), .int (nI m), .int (M 4 p), .int (nI (c_k (sC M) m p)), .int (ew + sh (M 4 p).toNatClampNeg), .int (st 1 p / 4), .int (st 1 p - 2 * (st 1 p / 4))] [] _ N
  refine J_b 1 am_d50 rfl ?_
  refine J_b 5 am_d50 rfl ?_
  refine J_iald (am_d50 rfl) rfl (vp_in_nI hk1 (by decide)) ?_
  rw [nI_c (n := (c_k (sC M) m p)) (by omega)]
  show am_J X _ 50 71 _ (.int (M 8 (c_k (sC M) m p)) :: _) _ N
  refine J_b 6 am_d50 rfl ?_
  refine J_iald (am_d50 rfl) rfl (vp_in_nI hk1 (by decide)) ?_
  rw [nI_c (n := (c_k (sC M) m p)) (by omega)]
  show am_J X _ 50 84 _ (.int (M 10 (c_k (sC M) m p)) :: _) _ N
  refine J_b 4 am_d50 rfl ?_
  refine J_V4n 51 (am_d50 rfl) rfl rfl (sp51_46 hp he1 hn1) ?_
  refine J_b 6 am_d50 rfl ?_
  refine J_iald (am_d50 rfl) rfl (vp_in_nI hk1 (by decide)) ?_
  rw [nI_c (n := (c_k (sC M) m p)) (by omega)]
  show am_J X _ 50 106 _ (.int (M 9 (c_k (sC M) m p)) :: _) _ N
  refine J_b 6 am_d50 rfl ?_
  refine J_iald (am_d50 rfl) rfl (vp_in_nI hk1 (by decide)) ?_
  rw [nI_c (n := (c_k (sC M) m p)) (by omega)]
  show am_J X _ 50 119 _ (.int (M 11 (c_k (sC M) m p)) :: _) _ N
  refine J_b 4 am_d50 rfl ?_
  refine J_V4n 51 (am_d50 rfl) rfl rfl (sp51_46 hp he2 hn2) ?_
  refine J_b 6 am_d50 rfl ?_
  refine J_iald (am_d50 rfl) rfl (vp_in_nI hk1 (by decide)) ?_
  rw [nI_c (n := (c_k (sC M) m p)) (by omega)]
  show am_J X _ 50 141 _ (.int (M 8 (c_k (sC M) m p)) :: _) _ N
  refine J_b 4 am_d50 rfl ?_
  refine J_iald (am_d50 rfl) rfl (vp_in_nI hk1 (by decide)) ?_
  rw [nI_c (n := (c_k (sC M) m p)) (by omega)]
  show am_J X _ 50 151 _ (.int (M 9 (c_k (sC M) m p)) :: _) _ N
  refine J_b 9 am_d50 rfl ?_
  refine J_iald (am_d50 rfl) rfl (vp_in_nI hk1 (by decide)) ?_
  rw [nI_c (n := (c_k (sC M) m p)) (by omega)]
  show am_J X _ 50 167 _ (.int (M 10 (c_k (sC M) m p)) :: _) _ N
  refine J_b 4 am_d50 rfl ?_
  refine J_iald (am_d50 rfl) rfl (vp_in_nI hk1 (by decide)) ?_
  rw [nI_c (n := (c_k (sC M) m p)) (by omega)]
  show am_J X _ 50 177 _ (.int (M 11 (c_k (sC M) m p)) :: _) _ N
  refine J_b 7 am_d50 rfl ?_
  refine J_V4n 51 (am_d50 rfl) rfl rfl (sp51_46 hp he3 hn3) ?_
  exact J_ret (am_d50 rfl) rfl ⟨rfl, rfl, rfl⟩
end
section
/-! ===== the drift: a month, months, its beginning ===== -/
theorem ap_4 {o : Nat × Nat} {n : Int32} {st : am_M} : c_ap o n st 4 = st 4 := by
  unfold c_ap
  split
  · exact up_n (by decide)
  · split
    · exact up_n (by decide)
    · exact up_n (by decide)
theorem ap_1r {o : Nat × Nat} {n : Int32} {st : am_M} : c_ap o n st 1 = st 1 := by
  unfold c_ap
  split
  · exact up_n (by decide)
  · split
    · exact up_n (by decide)
    · exact up_n (by decide)
theorem go_4 {E : am_M} {sh : Nat → Int32} {kd : Int32} {m p : Nat} {st : am_M} : c_go E sh kd m p st 4 = st 4 := by
  unfold c_go
  split
  · rfl
  · split
    · exact up_n (by decide)
    · unfold c_gf c_sd
      rw [ap_4, ap_4, ap_4]
theorem gi_4 {E : am_M} {sh : Nat → Int32} {kd : Int32} {m : Nat} {st : am_M} (n : Nat) : itr (c_go E sh kd m) n st 4 = st 4 := by
  induction n with
  | zero => rfl
  | succ n ih => rw [itr_s, go_4, ih]
theorem gw_4 {E : am_M} {sh : Nat → Int32} {kd : Int32} {m : Nat} {st : am_M} : c_gw E sh kd m st 4 = st 4 := by
  unfold c_gw c_wa
  rw [upR_n (by decide), gi_4, upR_n (by decide)]
theorem sk_4 {kd sk : Int32} {t : Nat} {st : am_M} : c_sk kd sk t st 4 = st 4 := by
  unfold c_sk
  split
  · rw [upR_n (by decide), up_n (by decide)]
  · rfl
theorem mo_4 {E : am_M} {sh : Nat → Int32} {kd sk : Int32} {m t : Nat} {st : am_M} {k : Nat} (h : 60 * t + 60 ≤ k) : c_mo E sh kd m sk t st 4 k = st 4 k := by
  unfold c_mo
  show (if 60 * t ≤ k ∧ k < 60 * t + 60 then _ else c_gw E sh kd (m + t) (c_sk kd sk t st) 4 k) = st 4 k
  rw [if_neg (by omega), gw_4, sk_4]
theorem dr_4 {E : am_M} {sh : Nat → Int32} {kd sk : Int32} {m : Nat} {st : am_M} (h : ∀ k, st 4 k = 0) (t : Nat) : ∀ k, 60 * t ≤ k → itr (c_mo E sh kd m sk) t st 4 k = 0 := by
  induction t with
  | zero => exact fun k _ => h k
  | succ t ih =>
    intro k hk
    rw [itr_s, mo_4 (by omega), ih k (by omega)]
theorem nI_60 {t i : Nat} : nI t * (Int8.ofInt 60).toInt32 + nI i = nI (60 * t + i) := by
  rw [show (Int8.ofInt 60).toInt32 = nI 60 from rfl, nI_mul, nI_add, Nat.mul_comm]
theorem z_l {i : Nat} (h : i < 60) : ¬ (Int8.ofInt 60).toInt32 ≤ nI i := by
  rw [show (Int8.ofInt 60).toInt32 = nI 60 from rfl, Int32.le_iff_toInt_le, nI_i (by omega), nI_i (by omega)]
  omega
theorem lp45_40 {X : am_X} {M : am_M} {N : am_N} {kd mo sk gn : Int32} {sh : Nat → Int32} {st0 : am_M} {m : Nat} (hm : m < 1000) (hb : iv_sb M) (hk : b_in kd 0 3) (hsh : ∀ j, b_in (sh j) (-1) 1) : ∀ (n i : Nat), i + n = 60 → ∀ (x : Int32), x = nI i → ∀ (st1 : am_M), st1 = itr (c_go (sC M) sh kd m) i st0 → am_J X (am_eq none (dr_D M 40 kd mo sk gn (c_fl kd (c_wd (sC M) 9 12 m)) (c_fl kd (c_wd (sC M) 10 13 m)) sh (c_wa (itr (c_go (sC M) sh kd m) 60 st0))) N) 45 42 [.ref 40, .int (nI m), .int x] [] (dr_D M 40 kd mo sk gn (c_fl kd (c_wd (sC M) 9 12 m)) (c_fl kd (c_wd (sC M) 10 13 m)) sh st1) N := by
  intro n
  induction n with
  | zero =>
    intro i hn x ex st1 es
    have e : i = 60 := by omega
    have es2 : itr (c_go (sC M) sh kd m) 60 st0 = st1 := by rw [es, e]
    rw [es2]
    have hge : (Int8.ofInt 60).toInt32 ≤ x := by rw [ex, e]; exact Int32.le_refl _
    refine J_b 2 am_d45 rfl ?_
    refine J_icmp_ge 102 (am_d45 rfl) rfl (fun h45 => ?_) (fun h45 => absurd (hge) h45)
    refine J_b 7 am_d45 rfl ?_
    refine J_copy (am_d45 rfl) rfl rfl rfl (by decide) (by decide) (by decide) (by decide) (by decide) ?_
    exact J_ret (am_d45 rfl) rfl ⟨rfl, by rw [D40_r1]; exact congrArg (fun z => dr_D M 40 kd mo sk gn (c_fl kd (c_wd (sC M) 9 12 m)) (c_fl kd (c_wd (sC M) 10 13 m)) sh (am_upR st1 1 z)) (cpy0 (f := st1 2) (g := st1 1) (n := 60)), rfl⟩
  | succ n ih =>
    intro i hn x ex st1 es
    have hi : i < 60 := by omega
    subst ex
    refine J_b 2 am_d45 rfl ?_
    refine J_icmp_ge 102 (am_d45 rfl) rfl (fun h45 => absurd h45 (z_l hi)) (fun h45 => ?_)
    refine J_b 3 am_d45 rfl ?_
    refine J_iald (am_d45 rfl) rfl (vp_in_nI hi (by decide)) ?_
    rw [nI_c (n := i) (by omega)]
    show am_J X _ 45 54 _ (.int (st1 1 i) :: _) _ N
    refine J_if_ne 60 (am_d45 rfl) rfl (fun h54 => ?_) (fun h54 => ?_)
    · refine J_b 4 am_d45 rfl ?_
      refine J_V2s 49 (am_d45 rfl) rfl rfl (sp49 hi hm) ?_
      refine J_if_eq 90 (am_d45 rfl) rfl (fun h69 => ?_) (fun h69 => ?_)
      · have hc : ¬ c_icy (sC M) m i := am_bi0.mp h69
        refine J_b 3 am_d45 rfl ?_
        refine J_V2n 50 (am_d45 rfl) rfl rfl (sp50_40 (m := m) hi hm hb hsh (fl_b hk (wd_e hb).1) (fl_b hk (wd_e hb).2)) ?_
        refine J_b 1 am_d45 rfl ?_
        refine J_b 1 am_d45 rfl ?_
        refine ih (i + 1) (by omega) _ (nI_1 i) _ ?_
        rw [itr_s, ← es, go_2 h54 hc]
      · have hc : c_icy (sC M) m i := am_bi1.mp h69
        refine J_b 4 am_d45 rfl ?_
        refine J_iald (am_d45 rfl) rfl (vp_in_nI hi (by decide)) ?_
        rw [nI_c (n := i) (by omega)]
        show am_J X _ 45 79 _ (.int (st1 2 i) :: _) _ N
        refine J_b 3 am_d45 rfl ?_
        refine J_iald (am_d45 rfl) rfl (vp_in_nI hi (by decide)) ?_
        rw [nI_c (n := i) (by omega)]
        show am_J X _ 45 85 _ (.int (st1 1 i) :: _) _ N
        refine J_b 1 am_d45 rfl ?_
        refine J_iast (am_d45 rfl) rfl (vp_in_nI hi (by decide)) ?_
        refine J_b 1 am_d45 rfl ?_
        rw [nI_c (n := i) (by omega), D40_u2]
        refine J_b 1 am_d45 rfl ?_
        refine J_b 1 am_d45 rfl ?_
        refine ih (i + 1) (by omega) _ (nI_1 i) _ ?_
        rw [itr_s, ← es, go_1 h54 hc]
    · refine J_b 1 am_d45 rfl ?_
      refine J_b 1 am_d45 rfl ?_
      refine J_b 1 am_d45 rfl ?_
      refine ih (i + 1) (by omega) _ (nI_1 i) _ ?_
      rw [itr_s, ← es, go_0 h54]
theorem sp45_40 {X : am_X} {M : am_M} {N : am_N} {kd mo sk gn ew nw : Int32} {sh : Nat → Int32} {st : am_M} {m : Nat} (hm : m < 1000) (hb : iv_sb M) (hk : b_in kd 0 3) (hsh : ∀ j, b_in (sh j) (-1) 1) : am_J X (am_eq (none) (dr_D M 40 kd mo sk gn (c_fl kd (c_wd (sC M) 9 12 m)) (c_fl kd (c_wd (sC M) 10 13 m)) sh (c_gw (sC M) sh kd m st)) N) 45 0 (am_en 45 [.ref 40, .int (nI m)]) [] (dr_D M 40 kd mo sk gn ew nw sh st) N := by
  refine J_en (L := [.ref 40, .int (nI m), .retAddr 0]) rfl ?_
  refine J_b 5 am_d45 rfl ?_
  refine J_V1s 46 (am_d45 rfl) rfl rfl (sp46 hm) ?_
  refine J_V1s 47 (am_d45 rfl) rfl rfl (sp47_40 hk) ?_
  refine J_puti (am_d45 rfl) rfl ?_
  rw [D40_f10]
  refine J_b 5 am_d45 rfl ?_
  refine J_V1s 48 (am_d45 rfl) rfl rfl (sp48 hm) ?_
  refine J_V1s 47 (am_d45 rfl) rfl rfl (sp47_40 hk) ?_
  refine J_puti (am_d45 rfl) rfl ?_
  rw [D40_f11]
  refine J_b 3 am_d45 rfl ?_
  have q := sp41 (X := X) (N := N) (M := dr_D M 40 kd mo sk gn (c_fl kd (c_wd (sC M) 9 12 m)) (c_fl kd (c_wd (sC M) 10 13 m)) sh st) (k := 42) (n := 60) (v := 0) rfl (by decide)
  rw [D40_r2] at q
  refine J_S2n 41 (am_d45 rfl) rfl rfl q ?_
  refine J_b 2 am_d45 rfl ?_
  exact lp45_40 hm hb hk hsh 60 0 rfl _ rfl _ rfl
theorem sp43_40 {X : am_X} {M : am_M} {N : am_N} {kd mo sk gn ew nw : Int32} {sh : Nat → Int32} {st : am_M} : am_J X (am_eq (none) (dr_D M 40 kd mo sk gn ew nw sh (am_upR (am_up st 0 14 (st 0 14 + smI (st 1) 60)) 1 c_z)) N) 43 0 (am_en 43 [.ref 40]) [] (dr_D M 40 kd mo sk gn ew nw sh st) N := by
  refine J_en (L := [.ref 40]) rfl ?_
  refine J_b 5 am_d43 rfl ?_
  refine J_S1s 44 (am_d43 rfl) rfl rfl (sp44 (k := 41) (n := 60) rfl (by decide)) ?_
  refine J_b 1 am_d43 rfl ?_
  refine J_puti (am_d43 rfl) rfl ?_
  rw [D40_f14]
  refine J_b 3 am_d43 rfl ?_
  have q := sp41 (X := X) (N := N) (M := dr_D M 40 kd mo sk gn ew nw sh (am_up st 0 14 (st 0 14 + smI (st 1) 60))) (k := 41) (n := 60) (v := 0) rfl (by decide)
  rw [D40_r1] at q
  refine J_S2n 41 (am_d43 rfl) rfl rfl q ?_
  exact J_ret (am_d43 rfl) rfl ⟨rfl, rfl, rfl⟩
theorem lp54_40 {X : am_X} {M : am_M} {N : am_N} {kd mo sk ew nw : Int32} {sh : Nat → Int32} {st : am_M} {t : Nat} (ht : t < 12) (hz : ∀ k, 60 * t ≤ k → st 4 k = 0) : ∀ (n i : Nat), i + n = 60 → ∀ (x : Int32), x = nI i → ∀ (z1 z2 z3 : Value) (st1 : am_M), st1 = c_bi (sC M) t st i → am_J X (am_eq none (dr_D M 40 kd mo sk (nI t) ew nw sh (c_bw (sC M) t st)) N) 54 2 [.ref 40, .int x, z1, z2, z3] [] (dr_D M 40 kd mo sk (nI t) ew nw sh st1) N := by
  intro n
  induction n with
  | zero =>
    intro i hn x ex z1 z2 z3 st1 es
    have e : i = 60 := by omega
    subst e
    subst ex
    subst es
    refine J_b 2 am_d54 rfl ?_
    refine J_icmp_ge 111 (am_d54 rfl) rfl (fun h5 => ?_) (fun h5 => absurd (Int32.le_refl _) h5)
    exact J_ret (am_d54 rfl) rfl ⟨rfl, rfl, rfl⟩
  | succ n ih =>
    intro i hn x ex z1 z2 z3 st1 es
    have hi : i < 60 := by omega
    subst ex
    subst es
    have e3 : (c_bi (sC M) t st i) 3 i = st 3 i := by show (if i < i then _ else st 3 i) = st 3 i; rw [if_neg (by omega)]
    refine J_b 2 am_d54 rfl ?_
    refine J_icmp_ge 111 (am_d54 rfl) rfl (fun h5 => absurd h5 (z_l hi)) (fun h5 => ?_)
    refine J_b 3 am_d54 rfl ?_
    refine J_iald (am_d54 rfl) rfl (vp_in_nI hi (by decide)) ?_
    rw [nI_c (n := i) (by omega)]
    show am_J X _ 54 14 _ (.int ((c_bi (sC M) t st i) 3 i) :: _) _ N
    rw [e3]
    refine J_if_ne 20 (am_d54 rfl) rfl (fun h14 => ?_) (fun h14 => ?_)
    · refine J_b 3 am_d54 rfl ?_
      refine J_iald (am_d54 rfl) rfl (vp_in_nI hi (by decide)) ?_
      rw [nI_c (n := i) (by omega)]
      show am_J X _ 54 26 _ (.int ((c_bi (sC M) t st i) 3 i) :: _) _ N
      rw [e3]
      refine J_b 4 am_d54 rfl ?_
      refine J_aaldk 6 (am_d54 rfl) rfl (am_vi rfl) rfl ?_
      refine J_b 1 am_d54 rfl ?_
      refine J_iald (am_d54 rfl) rfl (vp_in_nI hi (by decide)) ?_
      rw [nI_c (n := i) (by omega)]
      show am_J X _ 54 37 _ (.int (M 6 i) :: _) _ N
      refine J_b 7 am_d54 rfl ?_
      refine J_iald (am_d54 rfl) rfl (vp_in_nI hi (by decide)) ?_
      rw [nI_c (n := i) (by omega)]
      show am_J X _ 54 48 _ (.int ((c_bi (sC M) t st i) 3 i) :: _) _ N
      rw [e3]
      refine J_b 8 am_d54 rfl ?_
      refine J_aaldk 5 (am_d54 rfl) rfl (am_vi rfl) rfl ?_
      refine J_b 1 am_d54 rfl ?_
      refine J_iald (am_d54 rfl) rfl (vp_in_nI hi (by decide)) ?_
      rw [nI_c (n := i) (by omega)]
      show am_J X _ 54 63 _ (.int (M 5 i) :: _) _ N
      refine J_b 4 am_d54 rfl ?_
      show am_J X _ 54 69 [.ref 40, .int (nI i), .int (c_tk (sC M) st i), .int (st 3 i - c_tk (sC M) st i), .int (c_cv (sC M) st i)] [] _ N
      refine J_b 1 am_d54 rfl ?_
      refine J_b 8 am_d54 rfl ?_
      show am_J X _ 54 83 _ (_ :: .int (nI t * (Int8.ofInt 60).toInt32 + nI i) :: _) _ N
      rw [nI_60]
      refine J_iast (am_d54 rfl) rfl (vp_in_nI (by omega) (by decide)) ?_
      rw [nI_c (n := 60 * t + i) (by omega), D40_u4]
      refine J_b 5 am_d54 rfl ?_
      refine J_puti (am_d54 rfl) rfl ?_
      rw [D40_f12]
      refine J_b 6 am_d54 rfl ?_
      refine J_iast (am_d54 rfl) rfl (vp_in_nI hi (by decide)) ?_
      rw [nI_c (n := i) (by omega), D40_u3]
      refine J_b 1 am_d54 rfl ?_
      refine J_b 1 am_d54 rfl ?_
      refine ih (i + 1) (by omega) _ (nI_1 i) _ _ _ _ ?_
      rw [← bi_s]
      rfl
    · refine J_b 1 am_d54 rfl ?_
      refine J_b 1 am_d54 rfl ?_
      refine J_b 1 am_d54 rfl ?_
      refine ih (i + 1) (by omega) _ (nI_1 i) _ _ _ _ ?_
      rw [bi_n h14 (hz _ (by omega))]
theorem sp54_40 {X : am_X} {M : am_M} {N : am_N} {kd mo sk ew nw : Int32} {sh : Nat → Int32} {st : am_M} {t : Nat} (ht : t < 12) (hz : ∀ k, 60 * t ≤ k → st 4 k = 0) : am_J X (am_eq (none) (dr_D M 40 kd mo sk (nI t) ew nw sh (c_bw (sC M) t st)) N) 54 0 (am_en 54 [.ref 40]) [] (dr_D M 40 kd mo sk (nI t) ew nw sh st) N := by
  refine J_en (L := [.ref 40, .retAddr 0, .retAddr 0, .retAddr 0, .retAddr 0]) rfl ?_
  refine J_b 2 am_d54 rfl ?_
  exact lp54_40 ht hz 60 0 rfl _ rfl _ _ _ _ bi_0.symm
theorem lp45_46 {X : am_X} {M : am_M} {N : am_N} {kd mo sk gn : Int32} {sh : Nat → Int32} {st0 : am_M} {m : Nat} (hm : m < 1000) (hb : iv_sb M) (hk : b_in kd 0 3) (hsh : ∀ j, b_in (sh j) (-1) 1) : ∀ (n i : Nat), i + n = 60 → ∀ (x : Int32), x = nI i → ∀ (st1 : am_M), st1 = itr (c_go (sC M) sh kd m) i st0 → am_J X (am_eq none (dr_D M 46 kd mo sk gn (c_fl kd (c_wd (sC M) 9 12 m)) (c_fl kd (c_wd (sC M) 10 13 m)) sh (c_wa (itr (c_go (sC M) sh kd m) 60 st0))) N) 45 42 [.ref 46, .int (nI m), .int x] [] (dr_D M 46 kd mo sk gn (c_fl kd (c_wd (sC M) 9 12 m)) (c_fl kd (c_wd (sC M) 10 13 m)) sh st1) N := by
  intro n
  induction n with
  | zero =>
    intro i hn x ex st1 es
    have e : i = 60 := by omega
    have es2 : itr (c_go (sC M) sh kd m) 60 st0 = st1 := by rw [es, e]
    rw [es2]
    have hge : (Int8.ofInt 60).toInt32 ≤ x := by rw [ex, e]; exact Int32.le_refl _
    refine J_b 2 am_d45 rfl ?_
    refine J_icmp_ge 102 (am_d45 rfl) rfl (fun h45 => ?_) (fun h45 => absurd (hge) h45)
    refine J_b 7 am_d45 rfl ?_
    refine J_copy (am_d45 rfl) rfl rfl rfl (by decide) (by decide) (by decide) (by decide) (by decide) ?_
    exact J_ret (am_d45 rfl) rfl ⟨rfl, by rw [D46_r1]; exact congrArg (fun z => dr_D M 46 kd mo sk gn (c_fl kd (c_wd (sC M) 9 12 m)) (c_fl kd (c_wd (sC M) 10 13 m)) sh (am_upR st1 1 z)) (cpy0 (f := st1 2) (g := st1 1) (n := 60)), rfl⟩
  | succ n ih =>
    intro i hn x ex st1 es
    have hi : i < 60 := by omega
    subst ex
    refine J_b 2 am_d45 rfl ?_
    refine J_icmp_ge 102 (am_d45 rfl) rfl (fun h45 => absurd h45 (z_l hi)) (fun h45 => ?_)
    refine J_b 3 am_d45 rfl ?_
    refine J_iald (am_d45 rfl) rfl (vp_in_nI hi (by decide)) ?_
    rw [nI_c (n := i) (by omega)]
    show am_J X _ 45 54 _ (.int (st1 1 i) :: _) _ N
    refine J_if_ne 60 (am_d45 rfl) rfl (fun h54 => ?_) (fun h54 => ?_)
    · refine J_b 4 am_d45 rfl ?_
      refine J_V2s 49 (am_d45 rfl) rfl rfl (sp49 hi hm) ?_
      refine J_if_eq 90 (am_d45 rfl) rfl (fun h69 => ?_) (fun h69 => ?_)
      · have hc : ¬ c_icy (sC M) m i := am_bi0.mp h69
        refine J_b 3 am_d45 rfl ?_
        refine J_V2n 50 (am_d45 rfl) rfl rfl (sp50_46 (m := m) hi hm hb hsh (fl_b hk (wd_e hb).1) (fl_b hk (wd_e hb).2)) ?_
        refine J_b 1 am_d45 rfl ?_
        refine J_b 1 am_d45 rfl ?_
        refine ih (i + 1) (by omega) _ (nI_1 i) _ ?_
        rw [itr_s, ← es, go_2 h54 hc]
      · have hc : c_icy (sC M) m i := am_bi1.mp h69
        refine J_b 4 am_d45 rfl ?_
        refine J_iald (am_d45 rfl) rfl (vp_in_nI hi (by decide)) ?_
        rw [nI_c (n := i) (by omega)]
        show am_J X _ 45 79 _ (.int (st1 2 i) :: _) _ N
        refine J_b 3 am_d45 rfl ?_
        refine J_iald (am_d45 rfl) rfl (vp_in_nI hi (by decide)) ?_
        rw [nI_c (n := i) (by omega)]
        show am_J X _ 45 85 _ (.int (st1 1 i) :: _) _ N
        refine J_b 1 am_d45 rfl ?_
        refine J_iast (am_d45 rfl) rfl (vp_in_nI hi (by decide)) ?_
        refine J_b 1 am_d45 rfl ?_
        rw [nI_c (n := i) (by omega), D46_u2]
        refine J_b 1 am_d45 rfl ?_
        refine J_b 1 am_d45 rfl ?_
        refine ih (i + 1) (by omega) _ (nI_1 i) _ ?_
        rw [itr_s, ← es, go_1 h54 hc]
    · refine J_b 1 am_d45 rfl ?_
      refine J_b 1 am_d45 rfl ?_
      refine J_b 1 am_d45 rfl ?_
      refine ih (i + 1) (by omega) _ (nI_1 i) _ ?_
      rw [itr_s, ← es, go_0 h54]
theorem sp45_46 {X : am_X} {M : am_M} {N : am_N} {kd mo sk gn ew nw : Int32} {sh : Nat → Int32} {st : am_M} {m : Nat} (hm : m < 1000) (hb : iv_sb M) (hk : b_in kd 0 3) (hsh : ∀ j, b_in (sh j) (-1) 1) : am_J X (am_eq (none) (dr_D M 46 kd mo sk gn (c_fl kd (c_wd (sC M) 9 12 m)) (c_fl kd (c_wd (sC M) 10 13 m)) sh (c_gw (sC M) sh kd m st)) N) 45 0 (am_en 45 [.ref 46, .int (nI m)]) [] (dr_D M 46 kd mo sk gn ew nw sh st) N := by
  refine J_en (L := [.ref 46, .int (nI m), .retAddr 0]) rfl ?_
  refine J_b 5 am_d45 rfl ?_
  refine J_V1s 46 (am_d45 rfl) rfl rfl (sp46 hm) ?_
  refine J_V1s 47 (am_d45 rfl) rfl rfl (sp47_46 hk) ?_
  refine J_puti (am_d45 rfl) rfl ?_
  rw [D46_f10]
  refine J_b 5 am_d45 rfl ?_
  refine J_V1s 48 (am_d45 rfl) rfl rfl (sp48 hm) ?_
  refine J_V1s 47 (am_d45 rfl) rfl rfl (sp47_46 hk) ?_
  refine J_puti (am_d45 rfl) rfl ?_
  rw [D46_f11]
  refine J_b 3 am_d45 rfl ?_
  have q := sp41 (X := X) (N := N) (M := dr_D M 46 kd mo sk gn (c_fl kd (c_wd (sC M) 9 12 m)) (c_fl kd (c_wd (sC M) 10 13 m)) sh st) (k := 48) (n := 60) (v := 0) rfl (by decide)
  rw [D46_r2] at q
  refine J_S2n 41 (am_d45 rfl) rfl rfl q ?_
  refine J_b 2 am_d45 rfl ?_
  exact lp45_46 hm hb hk hsh 60 0 rfl _ rfl _ rfl
theorem sp43_46 {X : am_X} {M : am_M} {N : am_N} {kd mo sk gn ew nw : Int32} {sh : Nat → Int32} {st : am_M} : am_J X (am_eq (none) (dr_D M 46 kd mo sk gn ew nw sh (am_upR (am_up st 0 14 (st 0 14 + smI (st 1) 60)) 1 c_z)) N) 43 0 (am_en 43 [.ref 46]) [] (dr_D M 46 kd mo sk gn ew nw sh st) N := by
  refine J_en (L := [.ref 46]) rfl ?_
  refine J_b 5 am_d43 rfl ?_
  refine J_S1s 44 (am_d43 rfl) rfl rfl (sp44 (k := 47) (n := 60) rfl (by decide)) ?_
  refine J_b 1 am_d43 rfl ?_
  refine J_puti (am_d43 rfl) rfl ?_
  rw [D46_f14]
  refine J_b 3 am_d43 rfl ?_
  have q := sp41 (X := X) (N := N) (M := dr_D M 46 kd mo sk gn ew nw sh (am_up st 0 14 (st 0 14 + smI (st 1) 60))) (k := 47) (n := 60) (v := 0) rfl (by decide)
  rw [D46_r1] at q
  refine J_S2n 41 (am_d43 rfl) rfl rfl q ?_
  exact J_ret (am_d43 rfl) rfl ⟨rfl, rfl, rfl⟩
theorem lp54_46 {X : am_X} {M : am_M} {N : am_N} {kd mo sk ew nw : Int32} {sh : Nat → Int32} {st : am_M} {t : Nat} (ht : t < 12) (hz : ∀ k, 60 * t ≤ k → st 4 k = 0) : ∀ (n i : Nat), i + n = 60 → ∀ (x : Int32), x = nI i → ∀ (z1 z2 z3 : Value) (st1 : am_M), st1 = c_bi (sC M) t st i → am_J X (am_eq none (dr_D M 46 kd mo sk (nI t) ew nw sh (c_bw (sC M) t st)) N) 54 2 [.ref 46, .int x, z1, z2, z3] [] (dr_D M 46 kd mo sk (nI t) ew nw sh st1) N := by
  intro n
  induction n with
  | zero =>
    intro i hn x ex z1 z2 z3 st1 es
    have e : i = 60 := by omega
    subst e
    subst ex
    subst es
    refine J_b 2 am_d54 rfl ?_
    refine J_icmp_ge 111 (am_d54 rfl) rfl (fun h5 => ?_) (fun h5 => absurd (Int32.le_refl _) h5)
    exact J_ret (am_d54 rfl) rfl ⟨rfl, rfl, rfl⟩
  | succ n ih =>
    intro i hn x ex z1 z2 z3 st1 es
    have hi : i < 60 := by omega
    subst ex
    subst es
    have e3 : (c_bi (sC M) t st i) 3 i = st 3 i := by show (if i < i then _ else st 3 i) = st 3 i; rw [if_neg (by omega)]
    refine J_b 2 am_d54 rfl ?_
    refine J_icmp_ge 111 (am_d54 rfl) rfl (fun h5 => absurd h5 (z_l hi)) (fun h5 => ?_)
    refine J_b 3 am_d54 rfl ?_
    refine J_iald (am_d54 rfl) rfl (vp_in_nI hi (by decide)) ?_
    rw [nI_c (n := i) (by omega)]
    show am_J X _ 54 14 _ (.int ((c_bi (sC M) t st i) 3 i) :: _) _ N
    rw [e3]
    refine J_if_ne 20 (am_d54 rfl) rfl (fun h14 => ?_) (fun h14 => ?_)
    · refine J_b 3 am_d54 rfl ?_
      refine J_iald (am_d54 rfl) rfl (vp_in_nI hi (by decide)) ?_
      rw [nI_c (n := i) (by omega)]
      show am_J X _ 54 26 _ (.int ((c_bi (sC M) t st i) 3 i) :: _) _ N
      rw [e3]
      refine J_b 4 am_d54 rfl ?_
      refine J_aaldk 6 (am_d54 rfl) rfl (am_vi rfl) rfl ?_
      refine J_b 1 am_d54 rfl ?_
      refine J_iald (am_d54 rfl) rfl (vp_in_nI hi (by decide)) ?_
      rw [nI_c (n := i) (by omega)]
      show am_J X _ 54 37 _ (.int (M 6 i) :: _) _ N
      refine J_b 7 am_d54 rfl ?_
      refine J_iald (am_d54 rfl) rfl (vp_in_nI hi (by decide)) ?_
      rw [nI_c (n := i) (by omega)]
      show am_J X _ 54 48 _ (.int ((c_bi (sC M) t st i) 3 i) :: _) _ N
      rw [e3]
      refine J_b 8 am_d54 rfl ?_
      refine J_aaldk 5 (am_d54 rfl) rfl (am_vi rfl) rfl ?_
      refine J_b 1 am_d54 rfl ?_
      refine J_iald (am_d54 rfl) rfl (vp_in_nI hi (by decide)) ?_
      rw [nI_c (n := i) (by omega)]
      show am_J X _ 54 63 _ (.int (M 5 i) :: _) _ N
      refine J_b 4 am_d54 rfl ?_
      show am_J X _ 54 69 [.ref 46, .int (nI i), .int (c_tk (sC M) st i), .int (st 3 i - c_tk (sC M) st i), .int (c_cv (sC M) st i)] [] _ N
      refine J_b 1 am_d54 rfl ?_
      refine J_b 8 am_d54 rfl ?_
      show am_J X _ 54 83 _ (_ :: .int (nI t * (Int8.ofInt 60).toInt32 + nI i) :: _) _ N
      rw [nI_60]
      refine J_iast (am_d54 rfl) rfl (vp_in_nI (by omega) (by decide)) ?_
      rw [nI_c (n := 60 * t + i) (by omega), D46_u4]
      refine J_b 5 am_d54 rfl ?_
      refine J_puti (am_d54 rfl) rfl ?_
      rw [D46_f12]
      refine J_b 6 am_d54 rfl ?_
      refine J_iast (am_d54 rfl) rfl (vp_in_nI hi (by decide)) ?_
      rw [nI_c (n := i) (by omega), D46_u3]
      refine J_b 1 am_d54 rfl ?_
      refine J_b 1 am_d54 rfl ?_
      refine ih (i + 1) (by omega) _ (nI_1 i) _ _ _ _ ?_
      rw [← bi_s]
      rfl
    · refine J_b 1 am_d54 rfl ?_
      refine J_b 1 am_d54 rfl ?_
      refine J_b 1 am_d54 rfl ?_
      refine ih (i + 1) (by omega) _ (nI_1 i) _ _ _ _ ?_
      rw [bi_n h14 (hz _ (by omega))]
theorem sp54_46 {X : am_X} {M : am_M} {N : am_N} {kd mo sk ew nw : Int32} {sh : Nat → Int32} {st : am_M} {t : Nat} (ht : t < 12) (hz : ∀ k, 60 * t ≤ k → st 4 k = 0) : am_J X (am_eq (none) (dr_D M 46 kd mo sk (nI t) ew nw sh (c_bw (sC M) t st)) N) 54 0 (am_en 54 [.ref 46]) [] (dr_D M 46 kd mo sk (nI t) ew nw sh st) N := by
  refine J_en (L := [.ref 46, .retAddr 0, .retAddr 0, .retAddr 0, .retAddr 0]) rfl ?_
  refine J_b 2 am_d54 rfl ?_
  exact lp54_46 ht hz 60 0 rfl _ rfl _ _ _ _ bi_0.symm
end
