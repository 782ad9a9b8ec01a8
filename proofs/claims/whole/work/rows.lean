section
-- ===== PART A: goes FIRST, ahead of the names: the tables' words, and 'selects' of the private methods out of them =====
/-- a private method of a class that the tables say can be made, by its rows of tables_1 -/
def lw_okq (q : MethodName × Nat) : Prop := (q.1.cls ≠ "java/lang/invoke/MethodHandle" ∧ q.1.cls ≠ "java/lang/invoke/VarHandle") ∧ Cond.instantiable q.1.cls q.2 ∈ tables_1 ∧ Cond.privateMethod q.1 ∈ tables_1 ∧ Cond.instanceMethod q.1 ∈ tables_1
theorem lw_p0 : lw_okq (⟨"java/lang/Throwable", "fillInStackTrace", "(I)Ljava/lang/Throwable;"⟩, 6) := ⟨⟨by decide +kernel, by decide +kernel⟩, List.mem_of_getElem? (i := 313) (by decide +kernel), List.mem_of_getElem? (i := 311) (by decide +kernel), List.mem_of_getElem? (i := 312) (by decide +kernel)⟩
theorem lw_p1 : lw_okq (⟨"java/util/ArrayList", "add", "(Ljava/lang/Object;[Ljava/lang/Object;I)V"⟩, 3) := ⟨⟨by decide +kernel, by decide +kernel⟩, List.mem_of_getElem? (i := 85) (by decide +kernel), List.mem_of_getElem? (i := 408) (by decide +kernel), List.mem_of_getElem? (i := 409) (by decide +kernel)⟩
theorem lw_p2 : lw_okq (⟨"java/util/ArrayList", "grow", "()[Ljava/lang/Object;"⟩, 3) := ⟨⟨by decide +kernel, by decide +kernel⟩, List.mem_of_getElem? (i := 85) (by decide +kernel), List.mem_of_getElem? (i := 412) (by decide +kernel), List.mem_of_getElem? (i := 413) (by decide +kernel)⟩
theorem lw_p3 : lw_okq (⟨"java/util/ArrayList", "grow", "(I)[Ljava/lang/Object;"⟩, 3) := ⟨⟨by decide +kernel, by decide +kernel⟩, List.mem_of_getElem? (i := 85) (by decide +kernel), List.mem_of_getElem? (i := 416) (by decide +kernel), List.mem_of_getElem? (i := 417) (by decide +kernel)⟩
theorem lw_p4 : lw_okq (⟨"MillstreamPayments$Exchange", "settleFirst", "(II)I"⟩, 8) := ⟨⟨by decide +kernel, by decide +kernel⟩, List.mem_of_getElem? (i := 38) (by decide +kernel), List.mem_of_getElem? (i := 470) (by decide +kernel), List.mem_of_getElem? (i := 471) (by decide +kernel)⟩
theorem lw_p5 : lw_okq (⟨"MillstreamPayments$Exchange", "mayMove", "(LMillstreamPayments$Payment;)Z"⟩, 8) := ⟨⟨by decide +kernel, by decide +kernel⟩, List.mem_of_getElem? (i := 38) (by decide +kernel), List.mem_of_getElem? (i := 501) (by decide +kernel), List.mem_of_getElem? (i := 502) (by decide +kernel)⟩
theorem lw_p6 : lw_okq (⟨"MillstreamPayments$Batch", "count", "(LMillstreamPayments$Terms;J)V"⟩, 3) := ⟨⟨by decide +kernel, by decide +kernel⟩, List.mem_of_getElem? (i := 181) (by decide +kernel), List.mem_of_getElem? (i := 535) (by decide +kernel), List.mem_of_getElem? (i := 536) (by decide +kernel)⟩
theorem lw_p7 : lw_okq (⟨"MillstreamPayments$Exchange", "settleBatch", "()I"⟩, 8) := ⟨⟨by decide +kernel, by decide +kernel⟩, List.mem_of_getElem? (i := 38) (by decide +kernel), List.mem_of_getElem? (i := 569) (by decide +kernel), List.mem_of_getElem? (i := 570) (by decide +kernel)⟩
theorem lw_p8 : lw_okq (⟨"MillstreamPayments", "needPayment", "(I)LMillstreamPayments$Payment;"⟩, 1) := ⟨⟨by decide +kernel, by decide +kernel⟩, List.mem_of_getElem? (i := 30) (by decide +kernel), List.mem_of_getElem? (i := 838) (by decide +kernel), List.mem_of_getElem? (i := 839) (by decide +kernel)⟩
theorem lw_p9 : lw_okq (⟨"MillstreamPayments$Exchange", "nextToTakeOut", "(IZ)LMillstreamPayments$Payment;"⟩, 8) := ⟨⟨by decide +kernel, by decide +kernel⟩, List.mem_of_getElem? (i := 38) (by decide +kernel), List.mem_of_getElem? (i := 895) (by decide +kernel), List.mem_of_getElem? (i := 896) (by decide +kernel)⟩
theorem lw_p10 : lw_okq (⟨"MillstreamPayments$Exchange", "lastInBatch", "(IIZ)LMillstreamPayments$Payment;"⟩, 8) := ⟨⟨by decide +kernel, by decide +kernel⟩, List.mem_of_getElem? (i := 38) (by decide +kernel), List.mem_of_getElem? (i := 900) (by decide +kernel), List.mem_of_getElem? (i := 901) (by decide +kernel)⟩
theorem lw_p11 : lw_okq (⟨"MillstreamPayments$Exchange", "giveBackWhatMayNotStay", "()V"⟩, 8) := ⟨⟨by decide +kernel, by decide +kernel⟩, List.mem_of_getElem? (i := 38) (by decide +kernel), List.mem_of_getElem? (i := 943) (by decide +kernel), List.mem_of_getElem? (i := 944) (by decide +kernel)⟩
theorem lw_p12 : lw_okq (⟨"MillstreamPayments$Exchange", "chargeBanks", "()V"⟩, 8) := ⟨⟨by decide +kernel, by decide +kernel⟩, List.mem_of_getElem? (i := 38) (by decide +kernel), List.mem_of_getElem? (i := 948) (by decide +kernel), List.mem_of_getElem? (i := 949) (by decide +kernel)⟩
theorem lw_p13 : lw_okq (⟨"MillstreamPayments$Exchange", "charge", "(IIJ)V"⟩, 8) := ⟨⟨by decide +kernel, by decide +kernel⟩, List.mem_of_getElem? (i := 38) (by decide +kernel), List.mem_of_getElem? (i := 960) (by decide +kernel), List.mem_of_getElem? (i := 961) (by decide +kernel)⟩
theorem lw_p14 : lw_okq (⟨"MillstreamPayments$Exchange", "letWaitingEnter", "()V"⟩, 8) := ⟨⟨by decide +kernel, by decide +kernel⟩, List.mem_of_getElem? (i := 38) (by decide +kernel), List.mem_of_getElem? (i := 971) (by decide +kernel), List.mem_of_getElem? (i := 972) (by decide +kernel)⟩
theorem lw_p15 : lw_okq (⟨"MillstreamPaymentsModel", "isAlike", "(IIIIIIZIZ)Z"⟩, 37) := ⟨⟨by decide +kernel, by decide +kernel⟩, List.mem_of_getElem? (i := 1070) (by decide +kernel), List.mem_of_getElem? (i := 1212) (by decide +kernel), List.mem_of_getElem? (i := 1213) (by decide +kernel)⟩
def lw_privs_1 : List (MethodName × Nat) := [(⟨"java/lang/Throwable", "fillInStackTrace", "(I)Ljava/lang/Throwable;"⟩, 6), (⟨"java/util/ArrayList", "add", "(Ljava/lang/Object;[Ljava/lang/Object;I)V"⟩, 3), (⟨"java/util/ArrayList", "grow", "()[Ljava/lang/Object;"⟩, 3), (⟨"java/util/ArrayList", "grow", "(I)[Ljava/lang/Object;"⟩, 3), (⟨"MillstreamPayments$Exchange", "settleFirst", "(II)I"⟩, 8), (⟨"MillstreamPayments$Exchange", "mayMove", "(LMillstreamPayments$Payment;)Z"⟩, 8), (⟨"MillstreamPayments$Batch", "count", "(LMillstreamPayments$Terms;J)V"⟩, 3), (⟨"MillstreamPayments$Exchange", "settleBatch", "()I"⟩, 8), (⟨"MillstreamPayments", "needPayment", "(I)LMillstreamPayments$Payment;"⟩, 1), (⟨"MillstreamPayments$Exchange", "nextToTakeOut", "(IZ)LMillstreamPayments$Payment;"⟩, 8), (⟨"MillstreamPayments$Exchange", "lastInBatch", "(IIZ)LMillstreamPayments$Payment;"⟩, 8), (⟨"MillstreamPayments$Exchange", "giveBackWhatMayNotStay", "()V"⟩, 8), (⟨"MillstreamPayments$Exchange", "chargeBanks", "()V"⟩, 8), (⟨"MillstreamPayments$Exchange", "charge", "(IIJ)V"⟩, 8), (⟨"MillstreamPayments$Exchange", "letWaitingEnter", "()V"⟩, 8), (⟨"MillstreamPaymentsModel", "isAlike", "(IIIIIIZIZ)Z"⟩, 37)]
theorem lw_r1 : ∀ q ∈ lw_privs_1, lw_okq q := List.forall_mem_cons.mpr ⟨lw_p0, List.forall_mem_cons.mpr ⟨lw_p1, List.forall_mem_cons.mpr ⟨lw_p2, List.forall_mem_cons.mpr ⟨lw_p3, List.forall_mem_cons.mpr ⟨lw_p4, List.forall_mem_cons.mpr ⟨lw_p5, List.forall_mem_cons.mpr ⟨lw_p6, List.forall_mem_cons.mpr ⟨lw_p7, List.forall_mem_cons.mpr ⟨lw_p8, List.forall_mem_cons.mpr ⟨lw_p9, List.forall_mem_cons.mpr ⟨lw_p10, List.forall_mem_cons.mpr ⟨lw_p11, List.forall_mem_cons.mpr ⟨lw_p12, List.forall_mem_cons.mpr ⟨lw_p13, List.forall_mem_cons.mpr ⟨lw_p14, List.forall_mem_cons.mpr ⟨lw_p15, fun _ h => absurd h List.not_mem_nil⟩⟩⟩⟩⟩⟩⟩⟩⟩⟩⟩⟩⟩⟩⟩⟩
theorem lw_p16 : lw_okq (⟨"MillstreamPaymentsModel", "goes", "(ZZZ)Z"⟩, 37) := ⟨⟨by decide +kernel, by decide +kernel⟩, List.mem_of_getElem? (i := 1070) (by decide +kernel), List.mem_of_getElem? (i := 1216) (by decide +kernel), List.mem_of_getElem? (i := 1217) (by decide +kernel)⟩
theorem lw_p17 : lw_okq (⟨"MillstreamPaymentsModel", "comes", "(IIIIIIZIZ)I"⟩, 37) := ⟨⟨by decide +kernel, by decide +kernel⟩, List.mem_of_getElem? (i := 1070) (by decide +kernel), List.mem_of_getElem? (i := 1220) (by decide +kernel), List.mem_of_getElem? (i := 1221) (by decide +kernel)⟩
theorem lw_p18 : lw_okq (⟨"MillstreamPaymentsModel", "isOpen", "(II)Z"⟩, 37) := ⟨⟨by decide +kernel, by decide +kernel⟩, List.mem_of_getElem? (i := 1070) (by decide +kernel), List.mem_of_getElem? (i := 1224) (by decide +kernel), List.mem_of_getElem? (i := 1225) (by decide +kernel)⟩
theorem lw_p19 : lw_okq (⟨"MillstreamPaymentsModel", "enters", "(I)V"⟩, 37) := ⟨⟨by decide +kernel, by decide +kernel⟩, List.mem_of_getElem? (i := 1070) (by decide +kernel), List.mem_of_getElem? (i := 1228) (by decide +kernel), List.mem_of_getElem? (i := 1229) (by decide +kernel)⟩
theorem lw_p20 : lw_okq (⟨"MillstreamPaymentsModel", "runs", "()I"⟩, 37) := ⟨⟨by decide +kernel, by decide +kernel⟩, List.mem_of_getElem? (i := 1070) (by decide +kernel), List.mem_of_getElem? (i := 1232) (by decide +kernel), List.mem_of_getElem? (i := 1233) (by decide +kernel)⟩
theorem lw_p21 : lw_okq (⟨"MillstreamPaymentsModel", "settlesFirst", "(II)I"⟩, 37) := ⟨⟨by decide +kernel, by decide +kernel⟩, List.mem_of_getElem? (i := 1070) (by decide +kernel), List.mem_of_getElem? (i := 1236) (by decide +kernel), List.mem_of_getElem? (i := 1237) (by decide +kernel)⟩
theorem lw_p22 : lw_okq (⟨"MillstreamPaymentsModel", "queued", "(III)I"⟩, 37) := ⟨⟨by decide +kernel, by decide +kernel⟩, List.mem_of_getElem? (i := 1070) (by decide +kernel), List.mem_of_getElem? (i := 1240) (by decide +kernel), List.mem_of_getElem? (i := 1241) (by decide +kernel)⟩
theorem lw_p23 : lw_okq (⟨"MillstreamPaymentsModel", "clears", "()V"⟩, 37) := ⟨⟨by decide +kernel, by decide +kernel⟩, List.mem_of_getElem? (i := 1070) (by decide +kernel), List.mem_of_getElem? (i := 1244) (by decide +kernel), List.mem_of_getElem? (i := 1245) (by decide +kernel)⟩
theorem lw_p24 : lw_okq (⟨"MillstreamPaymentsModel", "sums", "()V"⟩, 37) := ⟨⟨by decide +kernel, by decide +kernel⟩, List.mem_of_getElem? (i := 1070) (by decide +kernel), List.mem_of_getElem? (i := 1248) (by decide +kernel), List.mem_of_getElem? (i := 1249) (by decide +kernel)⟩
theorem lw_p25 : lw_okq (⟨"MillstreamPaymentsModel", "areAtWork", "()Z"⟩, 37) := ⟨⟨by decide +kernel, by decide +kernel⟩, List.mem_of_getElem? (i := 1070) (by decide +kernel), List.mem_of_getElem? (i := 1258) (by decide +kernel), List.mem_of_getElem? (i := 1259) (by decide +kernel)⟩
theorem lw_p26 : lw_okq (⟨"MillstreamPaymentsModel", "fits", "(I)Z"⟩, 37) := ⟨⟨by decide +kernel, by decide +kernel⟩, List.mem_of_getElem? (i := 1070) (by decide +kernel), List.mem_of_getElem? (i := 1262) (by decide +kernel), List.mem_of_getElem? (i := 1263) (by decide +kernel)⟩
theorem lw_p27 : lw_okq (⟨"MillstreamPaymentsModel", "isShort", "(II)Z"⟩, 37) := ⟨⟨by decide +kernel, by decide +kernel⟩, List.mem_of_getElem? (i := 1070) (by decide +kernel), List.mem_of_getElem? (i := 1266) (by decide +kernel), List.mem_of_getElem? (i := 1267) (by decide +kernel)⟩
theorem lw_p28 : lw_okq (⟨"MillstreamPaymentsModel", "isPassed", "(III)Z"⟩, 37) := ⟨⟨by decide +kernel, by decide +kernel⟩, List.mem_of_getElem? (i := 1070) (by decide +kernel), List.mem_of_getElem? (i := 1270) (by decide +kernel), List.mem_of_getElem? (i := 1271) (by decide +kernel)⟩
theorem lw_p29 : lw_okq (⟨"MillstreamPaymentsModel", "settles", "()I"⟩, 37) := ⟨⟨by decide +kernel, by decide +kernel⟩, List.mem_of_getElem? (i := 1070) (by decide +kernel), List.mem_of_getElem? (i := 1274) (by decide +kernel), List.mem_of_getElem? (i := 1275) (by decide +kernel)⟩
theorem lw_p30 : lw_okq (⟨"MillstreamPaymentsModel", "books", "(IIIJI)V"⟩, 37) := ⟨⟨by decide +kernel, by decide +kernel⟩, List.mem_of_getElem? (i := 1070) (by decide +kernel), List.mem_of_getElem? (i := 1278) (by decide +kernel), List.mem_of_getElem? (i := 1279) (by decide +kernel)⟩
theorem lw_p31 : lw_okq (⟨"MillstreamPaymentsModel", "isPayment", "(I)Z"⟩, 37) := ⟨⟨by decide +kernel, by decide +kernel⟩, List.mem_of_getElem? (i := 1070) (by decide +kernel), List.mem_of_getElem? (i := 1290) (by decide +kernel), List.mem_of_getElem? (i := 1291) (by decide +kernel)⟩
def lw_privs_2 : List (MethodName × Nat) := [(⟨"MillstreamPaymentsModel", "goes", "(ZZZ)Z"⟩, 37), (⟨"MillstreamPaymentsModel", "comes", "(IIIIIIZIZ)I"⟩, 37), (⟨"MillstreamPaymentsModel", "isOpen", "(II)Z"⟩, 37), (⟨"MillstreamPaymentsModel", "enters", "(I)V"⟩, 37), (⟨"MillstreamPaymentsModel", "runs", "()I"⟩, 37), (⟨"MillstreamPaymentsModel", "settlesFirst", "(II)I"⟩, 37), (⟨"MillstreamPaymentsModel", "queued", "(III)I"⟩, 37), (⟨"MillstreamPaymentsModel", "clears", "()V"⟩, 37), (⟨"MillstreamPaymentsModel", "sums", "()V"⟩, 37), (⟨"MillstreamPaymentsModel", "areAtWork", "()Z"⟩, 37), (⟨"MillstreamPaymentsModel", "fits", "(I)Z"⟩, 37), (⟨"MillstreamPaymentsModel", "isShort", "(II)Z"⟩, 37), (⟨"MillstreamPaymentsModel", "isPassed", "(III)Z"⟩, 37), (⟨"MillstreamPaymentsModel", "settles", "()I"⟩, 37), (⟨"MillstreamPaymentsModel", "books", "(IIIJI)V"⟩, 37), (⟨"MillstreamPaymentsModel", "isPayment", "(I)Z"⟩, 37)]
theorem lw_r2 : ∀ q ∈ lw_privs_2, lw_okq q := List.forall_mem_cons.mpr ⟨lw_p16, List.forall_mem_cons.mpr ⟨lw_p17, List.forall_mem_cons.mpr ⟨lw_p18, List.forall_mem_cons.mpr ⟨lw_p19, List.forall_mem_cons.mpr ⟨lw_p20, List.forall_mem_cons.mpr ⟨lw_p21, List.forall_mem_cons.mpr ⟨lw_p22, List.forall_mem_cons.mpr ⟨lw_p23, List.forall_mem_cons.mpr ⟨lw_p24, List.forall_mem_cons.mpr ⟨lw_p25, List.forall_mem_cons.mpr ⟨lw_p26, List.forall_mem_cons.mpr ⟨lw_p27, List.forall_mem_cons.mpr ⟨lw_p28, List.forall_mem_cons.mpr ⟨lw_p29, List.forall_mem_cons.mpr ⟨lw_p30, List.forall_mem_cons.mpr ⟨lw_p31, fun _ h => absurd h List.not_mem_nil⟩⟩⟩⟩⟩⟩⟩⟩⟩⟩⟩⟩⟩⟩⟩⟩
theorem lw_p32 : lw_okq (⟨"MillstreamPaymentsModel", "canJoin", "(II)Z"⟩, 37) := ⟨⟨by decide +kernel, by decide +kernel⟩, List.mem_of_getElem? (i := 1070) (by decide +kernel), List.mem_of_getElem? (i := 1294) (by decide +kernel), List.mem_of_getElem? (i := 1295) (by decide +kernel)⟩
theorem lw_p33 : lw_okq (⟨"MillstreamPaymentsModel", "ends", "(I)Z"⟩, 37) := ⟨⟨by decide +kernel, by decide +kernel⟩, List.mem_of_getElem? (i := 1070) (by decide +kernel), List.mem_of_getElem? (i := 1298) (by decide +kernel), List.mem_of_getElem? (i := 1299) (by decide +kernel)⟩
theorem lw_p34 : lw_okq (⟨"MillstreamPaymentsModel", "returns", "(I)I"⟩, 37) := ⟨⟨by decide +kernel, by decide +kernel⟩, List.mem_of_getElem? (i := 1070) (by decide +kernel), List.mem_of_getElem? (i := 1306) (by decide +kernel), List.mem_of_getElem? (i := 1307) (by decide +kernel)⟩
theorem lw_p35 : lw_okq (⟨"MillstreamPaymentsModel", "reduces", "(IZ)I"⟩, 37) := ⟨⟨by decide +kernel, by decide +kernel⟩, List.mem_of_getElem? (i := 1070) (by decide +kernel), List.mem_of_getElem? (i := 1322) (by decide +kernel), List.mem_of_getElem? (i := 1323) (by decide +kernel)⟩
theorem lw_p36 : lw_okq (⟨"MillstreamPaymentsModel", "last", "(IIZ)I"⟩, 37) := ⟨⟨by decide +kernel, by decide +kernel⟩, List.mem_of_getElem? (i := 1070) (by decide +kernel), List.mem_of_getElem? (i := 1326) (by decide +kernel), List.mem_of_getElem? (i := 1327) (by decide +kernel)⟩
theorem lw_p37 : lw_okq (⟨"MillstreamPaymentsModel", "isShortAny", "(I)Z"⟩, 37) := ⟨⟨by decide +kernel, by decide +kernel⟩, List.mem_of_getElem? (i := 1070) (by decide +kernel), List.mem_of_getElem? (i := 1330) (by decide +kernel), List.mem_of_getElem? (i := 1331) (by decide +kernel)⟩
theorem lw_p38 : lw_okq (⟨"MillstreamPaymentsModel", "cutsOff", "(I)I"⟩, 37) := ⟨⟨by decide +kernel, by decide +kernel⟩, List.mem_of_getElem? (i := 1070) (by decide +kernel), List.mem_of_getElem? (i := 1370) (by decide +kernel), List.mem_of_getElem? (i := 1371) (by decide +kernel)⟩
theorem lw_p39 : lw_okq (⟨"MillstreamPaymentsModel", "charges", "(II)V"⟩, 37) := ⟨⟨by decide +kernel, by decide +kernel⟩, List.mem_of_getElem? (i := 1070) (by decide +kernel), List.mem_of_getElem? (i := 1374) (by decide +kernel), List.mem_of_getElem? (i := 1375) (by decide +kernel)⟩
theorem lw_p40 : lw_okq (⟨"MillstreamPaymentsModel", "adviceAt", "(II)I"⟩, 37) := ⟨⟨by decide +kernel, by decide +kernel⟩, List.mem_of_getElem? (i := 1070) (by decide +kernel), List.mem_of_getElem? (i := 1423) (by decide +kernel), List.mem_of_getElem? (i := 1424) (by decide +kernel)⟩
def lw_privs_3 : List (MethodName × Nat) := [(⟨"MillstreamPaymentsModel", "canJoin", "(II)Z"⟩, 37), (⟨"MillstreamPaymentsModel", "ends", "(I)Z"⟩, 37), (⟨"MillstreamPaymentsModel", "returns", "(I)I"⟩, 37), (⟨"MillstreamPaymentsModel", "reduces", "(IZ)I"⟩, 37), (⟨"MillstreamPaymentsModel", "last", "(IIZ)I"⟩, 37), (⟨"MillstreamPaymentsModel", "isShortAny", "(I)Z"⟩, 37), (⟨"MillstreamPaymentsModel", "cutsOff", "(I)I"⟩, 37), (⟨"MillstreamPaymentsModel", "charges", "(II)V"⟩, 37), (⟨"MillstreamPaymentsModel", "adviceAt", "(II)I"⟩, 37)]
theorem lw_r3 : ∀ q ∈ lw_privs_3, lw_okq q := List.forall_mem_cons.mpr ⟨lw_p32, List.forall_mem_cons.mpr ⟨lw_p33, List.forall_mem_cons.mpr ⟨lw_p34, List.forall_mem_cons.mpr ⟨lw_p35, List.forall_mem_cons.mpr ⟨lw_p36, List.forall_mem_cons.mpr ⟨lw_p37, List.forall_mem_cons.mpr ⟨lw_p38, List.forall_mem_cons.mpr ⟨lw_p39, List.forall_mem_cons.mpr ⟨lw_p40, fun _ h => absurd h List.not_mem_nil⟩⟩⟩⟩⟩⟩⟩⟩⟩
def lw_privs : List (MethodName × Nat) := lw_privs_1 ++ (lw_privs_2 ++ (lw_privs_3))
def lw_tbl : List Cond := k2_sels lw_privs ++ tables_1
theorem lw_privs_ok : ∀ q ∈ lw_privs, lw_okq q := by
  show ∀ q ∈ lw_privs_1 ++ (lw_privs_2 ++ (lw_privs_3)), lw_okq q
  exact List.forall_mem_append.mpr ⟨lw_r1, List.forall_mem_append.mpr ⟨lw_r2, lw_r3⟩⟩
end
section
/-! ===== BEGIN words of one list among another's, by their places ===== -/
theorem goodIn_r {big : List Cond} (ws : List Cond) (ps : List Nat) (hp : ws = ps.filterMap (fun i => big[i]?)) (h : ws.all goodWord = true) : GoodIn big ws := by
  intro w hw
  have h1 := List.all_eq_true.mp h w hw
  rw [hp] at hw
  obtain ⟨i, -, hi⟩ := List.mem_filterMap.mp hw
  have hm : w ∈ big := by first | exact List.mem_of_getElem? hi | exact List.getElem?_mem hi
  exact ⟨hm, good_of_word h1⟩
theorem goodIn_app {big a b : List Cond} (ha : GoodIn big a) (hb : GoodIn big b) : GoodIn big (a ++ b) := fun w h => (List.mem_append.mp h).elim (ha w) (hb w)
theorem goodIn_ca {big a b : List Cond} {c : Cond} (ha : GoodIn big (c :: a)) (hb : GoodIn big b) : GoodIn big (c :: (a ++ b)) := fun w h => (List.mem_cons.mp h).elim (fun e => ha w (List.mem_cons.mpr (Or.inl e))) (fun h => (List.mem_append.mp h).elim (fun h => ha w (List.mem_cons.mpr (Or.inr h))) (hb w))
theorem goodIn_sub {big ws : List Cond} (hm : ∀ w ∈ ws, w ∈ big) (h : ws.all goodWord = true) : GoodIn big ws := fun w hw => ⟨hm w hw, good_of_word (List.all_eq_true.mp h w hw)⟩
/-! ===== END ===== -/

/-! ===== BEGIN exceptions that leave a method, and their catching by the caller (launches without stack traces) ===== -/
section VXA
/-! The laws vx_back, vx_callV, vx_callS, vx_callSW, vx_throw0, vx_throwS follow proofs of the library, with one case more: JvmDerived/Free/Laws.lean (Back.of_free), Shelf42/LK1.lean (callV, callS), Shelf/KitTraced.lean (throwNew0V, throwNewS). -/
/-- where a method has thrown q: the class by its name, the cell, what was written, the world -/
def vx_T (XC : String → State → State → Prop) (st : State) (q : Addr) (t : State) (mc ms : Nat) (free : Addr → Prop) : Prop :=
  ∃ (E : String) (ce : Cell) (L : List Loc), XC E st t ∧ t.heap[q]? = some ce ∧ ce.vm = .none ∧ st.vm.findClass E = some ce.cls ∧ st.WarmedH t.vm ∧ st.sameButNew ({ t with vm := st.vm } : State) L mc ms ∧ ∀ z ∈ L, free z.base
def vx_Q (Qc : Array Value → State → Outcome → State → Prop) (XC : String → State → State → Prop) (mc ms : Nat) (free : Addr → Prop) : Array Value → State → Outcome → State → Prop := fun a st o t =>
  (Qc a st o t ∧ ∃ L, FrameEnd st o t L mc ms ∧ ∀ q ∈ L, free q.base) ∨ ∃ q, o = .threw q ∧ vx_T XC st q t mc ms free
/-- a callee that returns or throws -/
def vx_Met (l : Launch) (y : MethodName) (ws : List Cond) (rm : Room) (Pc : Array Value → State → Prop) (Qc : Array Value → State → Outcome → State → Prop) (XC : String → State → State → Prop) (mc ms : Nat) (free : Addr → Prop) : Prop :=
  MetFree l y (headSpec ws rm) Pc (fun _ _ _ _ _ => True) (vx_Q Qc XC mc ms free)
def vx_Post (XC : String → State → State → Prop) (mc ms : Nat) (free : Addr → Prop) : Pt → Array Value → Addr → Pt → Prop := fun A a q B =>
  ∃ (g : JFrame) (mk : MethodId) (t : State) (L : List Loc) (E : String) (ce : Cell), B.U.heap = t.heap ∧ B.U.vm = t.vm ∧ XC E (A.U.calling g mk a) t ∧ t.heap[q]? = some ce ∧ ce.vm = .none ∧ A.U.vm.findClass E = some ce.cls ∧ B.locs = A.locs ++ L ∧ (∀ z ∈ L, free z.base) ∧ B.cells = A.cells + mc ∧ B.slots = A.slots + ms
def vx_Back (l : Launch) (R : Room) (p : Program) (e : Env) (below : List Frame) (s : State) (sargs : Array Value) (y : MethodName) (len W9 : Nat)
    (Pre : Pt → Array Value → Prop) (Post : Pt → Array Value → Option Value → Pt → Prop) (PostX : Pt → Array Value → Addr → Pt → Prop) : Prop :=
  ∀ (m : MethodId) (meth : Method) (c : Code) (A : Pt) (g : JFrame) (ig : Instr) (mk : MethodId) (a : Array Value),
    Stand p l e R s m sargs below meth c A.U A.locs A.cells A.slots → g.method = m → g.locals.size = c.maxLocals → decode c.code g.pc = .ok (ig, len) →
    2 * g.monitorRoom + (g.stack.map fun v => v.category).sum ≤ W9 → A.U.methodNamed? y = some mk → Pre A a →
    (∃ (v : Option Value) (B : Pt), Stand p l e R s m sargs below meth c B.U B.locs B.cells B.slots ∧ Post A a v B ∧
      Steps p.tables e below (doInvoke e (A.U.setTop g) [] mk a).1 (B.U.setTop { g with pc := g.pc + len, stack := v.toList ++ g.stack })) ∨
    (∃ (q : Addr) (B : Pt), Stand p l e R s m sargs below meth c B.U B.locs B.cells B.slots ∧ PostX A a q B ∧
      Steps p.tables e below (doInvoke e (A.U.setTop g) [] mk a).1 ((B.U.setTop g).pushFrame (.throwing q)))
section Payer
variable {l : Launch} {R : Room} {p : Program} {e : Env} {below : List Frame} {s : State} {sargs : Array Value} {y : MethodName} {len W9 : Nat}
theorem vx_back {ws : List Cond} {rm : Room} {Pc : Array Value → State → Prop} {Qc : Array Value → State → Outcome → State → Prop} {XC : String → State → State → Prop} {mc ms : Nat} {free : Addr → Prop} {bytes : ByteArray} {maxL : Nat} {ret : Option FieldType}
    (hM : vx_Met l y ws rm Pc Qc XC mc ms free) (hblind : FrameBlind Pc) (hrc : rm.cells = mc) (hrs : rm.slots = ms)
    (hframes : rm.frames + 1 ≤ R.frames) (hlocals : W9 + (maxL + 11) + rm.locals ≤ R.locals)
    (hws : ∀ w ∈ ws, ∀ a' U, s.WarmedH U.vm → w.before a' U = true) (hcode : Cond.code y bytes maxL ret ∈ ws) (hinit : ∀ a' U, s.WarmedH U.vm → (Cond.initialized y.cls).before a' U = true) :
    vx_Back l R p e below s sargs y len W9 (PreOf R mc ms Pc) (PostOf Qc mc ms free) (vx_Post XC mc ms free) := by
  intro m meth c A g ig mk a X hg hsize hdg hW hn hp
  have h1 : (headSpec ws rm).pre.before a A.U = true := atoms_intro fun w hw => hws w hw _ _ X.warmed
  have h2 : (Cond.code y bytes maxL ret).before a A.U = true := hws _ hcode _ _ X.warmed
  have h3 : (Cond.initialized y.cls).before a A.U = true := hinit _ _ X.warmed
  have h4 : A.cells + (headSpec ws rm).room.cells ≤ R.cells := by rw [show (headSpec ws rm).room.cells = mc from hrc]; exact hp.1
  have h5 : A.slots + (headSpec ws rm).room.slots ≤ R.slots := by rw [show (headSpec ws rm).room.slots = ms from hrs]; exact hp.2.1
  have hPc : Pc a (A.U.calling g mk a) := hblind _ _ _ _ hp.2.2
  obtain ⟨U, Ls, c0, s0⟩ := A
  dsimp only [Pt.U, Pt.locs, Pt.cells, Pt.slots] at h1 h2 h3 h4 h5 X hn hPc ⊢
  obtain ⟨methY, cY, hmY, hcY, -, hlY, -, -, -, -⟩ := Cond.code_spec hn h2
  obtain ⟨kY, hkY, -⟩ := className_of_methodNamed hn
  have hinitY : kY.init = .initialized := Cond.initialized_spec (findClass_of_methodNamed hn) hkY h3
  have h : At U g.method c below := by rw [hg]; exact X.here
  have hlocals9 : W9 + (maxL + 11) + (headSpec ws rm).room.locals ≤ R.locals := hlocals
  have happ : (headSpec ws rm).appliesLoose y e.platform (U.calling g mk a) = true :=
    Spec.appliesLoose_calling (g := g) h hdg hn hkY hinitY
      (X.room_calling (g := g) (R' := (headSpec ws rm).room) hsize hmY hcY hframes (by rw [hlY]; omega) h4 h5) h1
  obtain ⟨mid, hmid⟩ := h.above
  have hfr : (U.setTop g).frames = (.java g :: mid) ++ below := by rw [State.frames_setTop' g h.top, hmid]; rfl
  obtain ⟨o, s₂, hsteps, -, hend, hq⟩ := Steps.callFree hM p X.admits X.cas X.clock (acts := []) hfr happ hPc trivial
  have hq' : vx_Q Qc XC mc ms free a (U.calling g mk a) o s₂ := hq
  rw [State.frames_setTop' g h.top] at hend
  obtain ⟨g₀, hg0⟩ := Option.isSome_iff_exists.mp h.top
  obtain ⟨r, hr⟩ := State.topJava?_eq_some.mp hg0
  have hr' : (({ U with heap := s₂.heap, slotsUsed := s₂.slotsUsed } : State).setVm s₂.vm).frames = .java g₀ :: r := hr
  rcases hq' with ⟨hqc, L, hfe, hL⟩ | ⟨q, rfl, E, ce, L, hx, hce, hcv, hcl, hW₂, hsm, hL⟩
  · obtain ⟨⟨v, rfl⟩, hW₂, e2, q2, q3, q4, q5, q6⟩ := id hfe
    have e3 : s₂ = ({ (U.calling g mk a).setFrames s₂.frames with heap := s₂.heap, slotsUsed := s₂.slotsUsed } : State).setVm s₂.vm := by
      have : s₂ = ({ s₂ with vm := (U.calling g mk a).vm } : State).setVm s₂.vm := rfl
      rw [e2] at this
      exact this
    obtain ⟨c₂, i₂, len₂, hc₂, hd₂, hf₂⟩ := hend
    have hW' : U.WarmedH s₂.vm := hW₂
    have hcc : c₂ = c := by
      have h1 : s₂.code? g.method = U.code? g.method := by
        rw [State.code?_eq, State.code?_eq, hW'.alike.method?]
      exact Option.some.inj (hc₂.symm.trans (h1.trans h.code))
    subst hcc
    have hlen : len₂ = len := by rw [hdg] at hd₂; cases hd₂; rfl
    subst hlen
    have hs₂ : s₂ = (({ U with heap := s₂.heap, slotsUsed := s₂.slotsUsed } : State).setVm s₂.vm).setTop { g with pc := g.pc + len₂, stack := v.toList ++ g.stack } := by
      refine e3.trans ?_
      rw [hf₂, State.calling_eq h.top, State.setFrames_setFrames, State.setTop_of_frames _ hr', hr]
      rfl
    have hsame : U.sameButNew ({ U with heap := s₂.heap, slotsUsed := s₂.slotsUsed } : State) L mc ms := by
      refine ⟨?_, q2, q3, q4, q5, q6⟩
      obtain ⟨t, ht, -⟩ := State.frames_cons hr
      show ({ U with heap := s₂.heap, slotsUsed := s₂.slotsUsed } : State) = { U.setFrames U.frames with heap := s₂.heap, slotsUsed := s₂.slotsUsed }
      rw [State.setFrames_self ht]
    subst hg
    refine Or.inl ⟨v, ⟨(({ U with heap := s₂.heap, slotsUsed := s₂.slotsUsed } : State).setVm s₂.vm), Ls ++ L, c0 + mc, s0 + ms⟩,
      ⟨X.admits, X.cas, X.clock, X.frames, X.room, X.hears, X.method, X.code, (X.here.setHeapUsed s₂.heap s₂.slotsUsed).setVm hW'.alike, X.tail, State.WarmedH.trans X.warmed hW', X.limits, X.bytes, X.same.trans (hsame.setVm s.vm)⟩,
      ⟨g, mk, s₂, L, rfl, rfl, hqc, rfl, hL, rfl, rfl⟩, ?_⟩
    show Steps p.tables e below _ ((({ U with heap := s₂.heap, slotsUsed := s₂.slotsUsed } : State).setVm s₂.vm).setTop { g with pc := g.pc + len₂, stack := v.toList ++ g.stack })
    rw [← hs₂]
    exact hsteps
  · obtain ⟨e2, q2, q3, q4, q5, q6⟩ := id hsm
    have e3 : s₂ = ({ (U.calling g mk a).setFrames s₂.frames with heap := s₂.heap, slotsUsed := s₂.slotsUsed } : State).setVm s₂.vm := by
      have : s₂ = ({ s₂ with vm := (U.calling g mk a).vm } : State).setVm s₂.vm := rfl
      rw [e2] at this
      exact this
    have hf₂ : s₂.frames = .throwing q :: .java g :: U.frames.tail := hend
    have hW' : U.WarmedH s₂.vm := hW₂
    have hs₂ : s₂ = ((({ U with heap := s₂.heap, slotsUsed := s₂.slotsUsed } : State).setVm s₂.vm).setTop g).pushFrame (.throwing q) := by
      refine e3.trans ?_
      rw [hf₂, State.calling_eq h.top, State.setFrames_setFrames, State.pushFrame, State.frames_setTop _ hr', State.setTop_of_frames _ hr', State.setFrames_setFrames, hr]
      rfl
    have hsame : U.sameButNew ({ U with heap := s₂.heap, slotsUsed := s₂.slotsUsed } : State) L mc ms := by
      refine ⟨?_, q2, q3, q4, q5, q6⟩
      obtain ⟨t, ht, -⟩ := State.frames_cons hr
      show ({ U with heap := s₂.heap, slotsUsed := s₂.slotsUsed } : State) = { U.setFrames U.frames with heap := s₂.heap, slotsUsed := s₂.slotsUsed }
      rw [State.setFrames_self ht]
    subst hg
    refine Or.inr ⟨q, ⟨(({ U with heap := s₂.heap, slotsUsed := s₂.slotsUsed } : State).setVm s₂.vm), Ls ++ L, c0 + mc, s0 + ms⟩,
      ⟨X.admits, X.cas, X.clock, X.frames, X.room, X.hears, X.method, X.code, (X.here.setHeapUsed s₂.heap s₂.slotsUsed).setVm hW'.alike, X.tail, State.WarmedH.trans X.warmed hW', X.limits, X.bytes, X.same.trans (hsame.setVm s.vm)⟩,
      ⟨g, mk, s₂, L, E, ce, rfl, rfl, hx, hce, hcv, hcl, rfl, hL, rfl, rfl⟩, ?_⟩
    show Steps p.tables e below _ (((({ U with heap := s₂.heap, slotsUsed := s₂.slotsUsed } : State).setVm s₂.vm).setTop g).pushFrame (.throwing q))
    rw [← hs₂]
    exact hsteps
end Payer
section Calls
variable {p : Program} {l : Launch} {e : Env} {R : Room} {s : State} {m : MethodId} {args : Array Value} {below : List Frame} {meth : Method} {c : Code} {T : State} {locs : List Loc} {cells slots : Nat}
theorem vx_callV (X : Stand p l e R s m args below meth c T locs cells slots) (hexec : p.tables.exec = Jvm.exec) {own C : String} {index : Nat} {y : MethodName} {bytes : ByteArray} {maxL : Nat} {ret : Option FieldType}
    (hown : s.vm.findClass own = some m.cls) (hlink : (Cond.methodLink own index y).before args s = true) (hinst : (Cond.instanceMethod y).before args s = true) (hsel : (Cond.selects C y y).before args s = true)
    (hcode : (Cond.code y bytes maxL ret).before args s = true) (hy : y.cls ≠ "java/lang/invoke/MethodHandle" ∧ y.cls ≠ "java/lang/invoke/VarHandle")
    {W9 : Nat} {Pre : Pt → Array Value → Prop} {Post : Pt → Array Value → Option Value → Pt → Prop} {PostX : Pt → Array Value → Addr → Pt → Prop} (hK : vx_Back l R p e below s args y 3 W9 Pre Post PostX)
    {b : Addr} {cellB : Cell} (hcell : T.heap[b]? = some cellB) (hobj : cellB.vm.isStatics = false) (hcls : s.vm.findClass C = some cellB.cls)
    {g : JFrame} (hg : g.method = m) (hsize : g.locals.size = c.maxLocals) {argsL rest : List Value} (hlen : ∀ sig, parseMethodDescriptor y.desc = some sig → argsL.length = sig.parameters.length)
    (hstack : g.stack = argsL.reverse ++ .ref b :: rest) (hW : 2 * g.monitorRoom + (rest.map fun v => v.category).sum ≤ W9) (hdg : decode c.code g.pc = .ok (.invokevirtual index, 3))
    (hpre : ∀ vm₁, s.WarmedH vm₁ → Pre ⟨T.setVm vm₁, locs, cells, slots⟩ (Value.ref b :: argsL).toArray) :
    (∃ (v : Option Value) (vm₁ : Vm) (B : Pt), s.WarmedH vm₁ ∧ Stand p l e R s m args below meth c B.U B.locs B.cells B.slots ∧ Post ⟨T.setVm vm₁, locs, cells, slots⟩ (Value.ref b :: argsL).toArray v B ∧
      ∀ target, Steps p.tables e below (B.U.setTop { g with pc := g.pc + 3, stack := v.toList ++ rest }) target → Steps p.tables e below (T.setTop g) target) ∨
    (∃ (q : Addr) (vm₁ : Vm) (B : Pt), s.WarmedH vm₁ ∧ Stand p l e R s m args below meth c B.U B.locs B.cells B.slots ∧ PostX ⟨T.setVm vm₁, locs, cells, slots⟩ (Value.ref b :: argsL).toArray q B ∧
      Steps p.tables e below (T.setTop g) ((B.U.setTop { g with stack := rest }).pushFrame (.throwing q))) := by
  obtain ⟨mk, methM, hnamed, hmethM, hstM, habM⟩ := Cond.instanceMethod_spec hinst
  obtain ⟨methM', cM, hmethM', -, -, -, -, -, -, hsigM⟩ := Cond.code_spec hnamed hcode
  cases hmethM.symm.trans hmethM'
  obtain ⟨c2, r2, m2, q1, q2, q3, q4, kP, hkP, hkPi⟩ := Cond.selects_spec hsel
  cases hcls.symm.trans q1
  cases (State.methodFound?_of_named hnamed hy).symm.trans q2
  cases hnamed.symm.trans q3
  have hselP : selectMethod e.platform s.vm cellB.cls mk = .method mk := by rw [Launch.admits_selectMethod X.admits]; exact q4
  obtain ⟨vm₁, X₁, hstep₁⟩ := X.invokevirtual hexec hown hlink hnamed hmethM hstM hkP hkPi hy (a := b) (cell := cellB) hcell
    (fun z h => by rw [h] at hobj; cases hobj) hselP hmethM habM hkP hkPi (g := g) hg (argsL := argsL) (rest := rest) (hlen _ hsigM) hstack hdg
  rcases hK m meth c ⟨T.setVm vm₁, locs, cells, slots⟩ { g with stack := rest } (.invokevirtual index) mk (Value.ref b :: argsL).toArray X₁ hg hsize hdg hW (X₁.named hnamed) (hpre vm₁ X₁.warmed) with ⟨v, B, X', hpost, hsteps⟩ | ⟨q, B, X', hpost, hsteps⟩
  · exact Or.inl ⟨v, vm₁, B, X₁.warmed, X', hpost, fun target h => hstep₁ _ fun acts => by rw [doInvoke_state]; exact hsteps.trans h⟩
  · exact Or.inr ⟨q, vm₁, B, X₁.warmed, X', hpost, hstep₁ _ fun acts => by rw [doInvoke_state]; exact hsteps⟩
theorem vx_callS (X : Stand p l e R s m args below meth c T locs cells slots) (hexec : p.tables.exec = Jvm.exec) {own : String} {index : Nat} {y : MethodName} {bytes : ByteArray} {maxL : Nat} {ret : Option FieldType}
    (hown : s.vm.findClass own = some m.cls) (hlink : (Cond.methodLink own index y).before args s = true) (hstat : (Cond.static y).before args s = true) (hinit : (Cond.initialized y.cls).before args s = true)
    (hcode : (Cond.code y bytes maxL ret).before args s = true) (hy : y.cls ≠ "java/lang/invoke/MethodHandle" ∧ y.cls ≠ "java/lang/invoke/VarHandle")
    {W9 : Nat} {Pre : Pt → Array Value → Prop} {Post : Pt → Array Value → Option Value → Pt → Prop} {PostX : Pt → Array Value → Addr → Pt → Prop} (hK : vx_Back l R p e below s args y 3 W9 Pre Post PostX)
    {g : JFrame} (hg : g.method = m) (hsize : g.locals.size = c.maxLocals) {argsL rest : List Value} (hlen : ∀ sig, parseMethodDescriptor y.desc = some sig → argsL.length = sig.parameters.length)
    (hstack : g.stack = argsL.reverse ++ rest) (hW : 2 * g.monitorRoom + (rest.map fun v => v.category).sum ≤ W9) (hdg : decode c.code g.pc = .ok (.invokestatic index, 3))
    (hpre : ∀ vm₁, s.WarmedH vm₁ → Pre ⟨T.setVm vm₁, locs, cells, slots⟩ argsL.toArray) :
    (∃ (v : Option Value) (vm₁ : Vm) (B : Pt), s.WarmedH vm₁ ∧ Stand p l e R s m args below meth c B.U B.locs B.cells B.slots ∧ Post ⟨T.setVm vm₁, locs, cells, slots⟩ argsL.toArray v B ∧
      ∀ target, Steps p.tables e below (B.U.setTop { g with pc := g.pc + 3, stack := v.toList ++ rest }) target → Steps p.tables e below (T.setTop g) target) ∨
    (∃ (q : Addr) (vm₁ : Vm) (B : Pt), s.WarmedH vm₁ ∧ Stand p l e R s m args below meth c B.U B.locs B.cells B.slots ∧ PostX ⟨T.setVm vm₁, locs, cells, slots⟩ argsL.toArray q B ∧
      Steps p.tables e below (T.setTop g) ((B.U.setTop { g with stack := rest }).pushFrame (.throwing q))) := by
  obtain ⟨mk, hnamed⟩ := Cond.code_named hcode
  obtain ⟨methM, cM, hmethM, -, -, -, -, -, -, hsigM⟩ := Cond.code_spec hnamed hcode
  have hstatic : methM.isStatic = true := Cond.static_spec hnamed hmethM hstat
  obtain ⟨kP, hkP, -⟩ := className_of_methodNamed hnamed
  have hinitP : kP.init = .initialized := Cond.initialized_spec (findClass_of_methodNamed hnamed) hkP hinit
  obtain ⟨vm₁, X₁, hstep₁⟩ := X.invokestatic hexec hown hlink hnamed hmethM hstatic hkP hinitP hy (g := g) hg (argsL := argsL) (rest := rest) (hlen _ hsigM) hstack hdg
  rcases hK m meth c ⟨T.setVm vm₁, locs, cells, slots⟩ { g with stack := rest } (.invokestatic index) mk argsL.toArray X₁ hg hsize hdg hW (X₁.named hnamed) (hpre vm₁ X₁.warmed) with ⟨v, B, X', hpost, hsteps⟩ | ⟨q, B, X', hpost, hsteps⟩
  · exact Or.inl ⟨v, vm₁, B, X₁.warmed, X', hpost, fun target h => hstep₁ _ fun acts => by rw [doInvoke_state]; exact hsteps.trans h⟩
  · exact Or.inr ⟨q, vm₁, B, X₁.warmed, X', hpost, hstep₁ _ fun acts => by rw [doInvoke_state]; exact hsteps⟩
end Calls
theorem vx_cls {s : State} {T : State} {vm₁ : Vm} {E : String} {k : ClassId} (hW : s.WarmedH vm₁) (h : (T.setVm vm₁).vm.findClass E = some k) : s.vm.findClass E = some k := by
  have h1 : vm₁.findClass E = some k := h
  rw [hW.alike.findClass] at h1
  exact h1
/-- the method's frame g, with q thrown over it -/
def vx_W (p : Program) (l : Launch) (e : Env) (R : Room) (s : State) (m : MethodId) (args : Array Value) (below : List Frame) (meth : Method) (c : Code) (H : Heap) (locs : List Loc) (cells slots : Nat) (Q : State → Prop) (g : JFrame) (q : Addr) : Prop :=
  ∀ T : State, T.heap = H → Stand p l e R s m args below meth c T locs cells slots → ∃ t, Steps p.tables e below ((T.setTop g).pushFrame (.throwing q)) t ∧ Q t
def vx_Run (p : Program) (l : Launch) (e : Env) (R : Room) (s : State) (m : MethodId) (args : Array Value) (below : List Frame) (meth : Method) (c : Code) (H : Heap) (locs : List Loc) (cells slots mc ms : Nat) (g : JFrame) (rest : List Value) (Qa : State → Outcome → State → Prop) (XC : String → State → State → Prop) (free : Addr → Prop) : Prop :=
  ∀ T : State, T.heap = H → Stand p l e R s m args below meth c T locs cells slots →
    (∃ (v : Option Value) (st₀ t T' : State) (L : List Loc), st₀.heap = H ∧ Stand p l e R s m args below meth c T' (locs ++ L) (cells + mc) (slots + ms) ∧ (∀ q ∈ L, free q.base) ∧ T'.heap = t.heap ∧ T'.vm = t.vm ∧ Qa st₀ (.returned v) t ∧
      Goes p e below T g T' { g with pc := g.pc + 3, stack := v.toList ++ rest }) ∨
    (∃ (q : Addr) (st₀ t T' : State) (L : List Loc) (E : String) (ce : Cell), st₀.heap = H ∧ Stand p l e R s m args below meth c T' (locs ++ L) (cells + mc) (slots + ms) ∧ (∀ z ∈ L, free z.base) ∧ T'.heap = t.heap ∧ T'.vm = t.vm ∧ XC E st₀ t ∧ t.heap[q]? = some ce ∧ ce.vm = .none ∧ s.vm.findClass E = some ce.cls ∧
      Steps p.tables e below (T.setTop g) ((T'.setTop { g with stack := rest }).pushFrame (.throwing q)))
def vx_X {S : Type} (px : S → Prop) (B : String → S → State → Prop) (A : Nat → Prop) : String → State → State → Prop := fun E st t => ∃ u : S, px u ∧ B E u t ∧ va_F A st t
section Runs
variable {p : Program} {l : Launch} {e : Env} {R : Room} {s : State} {m : MethodId} {args : Array Value} {below : List Frame} {meth : Method} {c : Code} {H : Heap} {locs : List Loc} {cells slots : Nat}
variable {y : MethodName} {bytes cc : ByteArray} {maxL nL mc ms n index : Nat} {ret : Option FieldType} {ws : List Cond} {rm : Room} {Pc : Array Value → State → Prop} {Qc : Array Value → State → Outcome → State → Prop} {XC : String → State → State → Prop} {free : Addr → Prop} {Ts : List Cond} {own C : String} {b : Addr} {As rest : List Value} {g : JFrame}
theorem vx_callBack (cb : CallB R s args own index y bytes maxL ret ws rm mc ms n) (hM : vx_Met l y ws rm Pc Qc XC mc ms free) (hbl : FrameBlind Pc) : vx_Back l R p e below s args y 3 8 (PreOf R mc ms Pc) (PostOf Qc mc ms free) (vx_Post XC mc ms free) := by
  obtain ⟨hrc, hrs, hfr, hlo, hws, hcw, -, hini, -⟩ := cb
  exact vx_back (bytes := bytes) (maxL := maxL) (ret := ret) hM hbl hrc hrs hfr hlo hws hcw (fun a' U hW => word_at hW (Or.inl (by first | rfl | simp [Cond.onTables, Cond.keeps, Cond.steady])) hini)
theorem vx_runV (S : CallFix p m c cc nL s args Ts own) (hM : vx_Met l y ws rm Pc Qc XC mc ms free) (cw : CallW R s args own C index y bytes maxL ret ws rm mc ms n) (hp : PreV s H C b Pc As)
    (hg : g.method = m) (hn : As.length = n) (hsize : g.locals.size = nL) (hstack : g.stack = As.reverse ++ .ref b :: rest) (hW : 2 * g.monitorRoom + (rest.map fun v => v.category).sum ≤ 8) (hdg : decode cc g.pc = .ok (.invokevirtual index, 3)) (hf : cells + mc ≤ R.cells ∧ slots + ms ≤ R.slots) :
    vx_Run p l e R s m args below meth c H locs cells slots mc ms g rest (Qc (Value.ref b :: As).toArray) XC free := by
  have hK : vx_Back l R p e below s args y 3 8 (PreOf R mc ms Pc) (PostOf Qc mc ms free) (vx_Post XC mc ms free) := vx_callBack cw.1 hM hp.1
  obtain ⟨⟨-, -, -, -, -, -, hcode, -, hy, hlen, hl⟩, hin, hse⟩ := cw
  obtain ⟨hx, hb, hml, ho, -⟩ := S
  obtain ⟨-, ⟨cellB, hcB, hoB, hclB⟩, hPc⟩ := hp
  intro T hT X
  rcases vx_callV X hx (C := C) (bytes := bytes) (maxL := maxL) (ret := ret) ho hl hin hse hcode hy hK (by rw [hT]; exact hcB) hoB hclB hg (hsize.trans hml.symm) (argsL := As) (rest := rest) (fun sig h => hn.trans (hlen sig h)) hstack hW (by rw [hb]; exact hdg)
    (fun vm₁ hW₁ => ⟨hf.1, hf.2, hPc (T.setVm vm₁) hT hW₁⟩) with ⟨v, vm₁, ⟨U', l2, c2, s2⟩, hW₁, X', ⟨g', mk, t, L, e1, e2, hq, h1, hL, h2, h3⟩, st⟩ | ⟨q, vm₁, ⟨U', l2, c2, s2⟩, hW₁, X', ⟨g', mk, t, L, E, ce, e1, e2, hq, hce, hcv, hcl, h1, hL, h2, h3⟩, st⟩
  · dsimp only [Pt.U, Pt.locs, Pt.cells, Pt.slots] at X' e1 e2 h1 h2 h3 st
    subst h1; subst h2; subst h3
    exact Or.inl ⟨v, (T.setVm vm₁).calling g' mk (Value.ref b :: As).toArray, t, U', L, hT, X', hL, e1, e2, hq, st⟩
  · dsimp only [Pt.U, Pt.locs, Pt.cells, Pt.slots] at X' e1 e2 h1 h2 h3 st hcl
    subst h1; subst h2; subst h3
    exact Or.inr ⟨q, (T.setVm vm₁).calling g' mk (Value.ref b :: As).toArray, t, U', L, E, ce, hT, X', hL, e1, e2, hq, hce, hcv, vx_cls hW₁ hcl, st⟩
theorem vx_runS (S : CallFix p m c cc nL s args Ts own) (hM : vx_Met l y ws rm Pc Qc XC mc ms free) (cw : CallB R s args own index y bytes maxL ret ws rm mc ms n ∧ (Cond.static y).before args s = true) (hp : PreS s H Pc As)
    (hg : g.method = m) (hn : As.length = n) (hsize : g.locals.size = nL) (hstack : g.stack = As.reverse ++ rest) (hW : 2 * g.monitorRoom + (rest.map fun v => v.category).sum ≤ 8) (hdg : decode cc g.pc = .ok (.invokestatic index, 3)) (hf : cells + mc ≤ R.cells ∧ slots + ms ≤ R.slots) :
    vx_Run p l e R s m args below meth c H locs cells slots mc ms g rest (Qc As.toArray) XC free := by
  have hK : vx_Back l R p e below s args y 3 8 (PreOf R mc ms Pc) (PostOf Qc mc ms free) (vx_Post XC mc ms free) := vx_callBack cw.1 hM hp.1
  obtain ⟨⟨-, -, -, -, -, -, hcode, hini, hy, hlen, hl⟩, hstt⟩ := cw
  obtain ⟨hx, hb, hml, ho, -⟩ := S
  intro T hT X
  rcases vx_callS X hx (bytes := bytes) (maxL := maxL) (ret := ret) ho hl hstt hini hcode hy hK hg (hsize.trans hml.symm) (argsL := As) (rest := rest) (fun sig h => hn.trans (hlen sig h)) hstack hW (by rw [hb]; exact hdg)
    (fun vm₁ hW₁ => ⟨hf.1, hf.2, hp.2 (T.setVm vm₁) hT hW₁⟩) with ⟨v, vm₁, ⟨U', l2, c2, s2⟩, hW₁, X', ⟨g', mk, t, L, e1, e2, hq, h1, hL, h2, h3⟩, st⟩ | ⟨q, vm₁, ⟨U', l2, c2, s2⟩, hW₁, X', ⟨g', mk, t, L, E, ce, e1, e2, hq, hce, hcv, hcl, h1, hL, h2, h3⟩, st⟩
  · dsimp only [Pt.U, Pt.locs, Pt.cells, Pt.slots] at X' e1 e2 h1 h2 h3 st
    subst h1; subst h2; subst h3
    exact Or.inl ⟨v, (T.setVm vm₁).calling g' mk As.toArray, t, U', L, hT, X', hL, e1, e2, hq, st⟩
  · dsimp only [Pt.U, Pt.locs, Pt.cells, Pt.slots] at X' e1 e2 h1 h2 h3 st hcl
    subst h1; subst h2; subst h3
    exact Or.inr ⟨q, (T.setVm vm₁).calling g' mk As.toArray, t, U', L, E, ce, hT, X', hL, e1, e2, hq, hce, hcv, vx_cls hW₁ hcl, st⟩
end Runs
section Rows
variable {p : Program} {l : Launch} {e : Env} {R : Room} {s : State} {m : MethodId} {args : Array Value} {below : List Frame} {meth : Method} {c : Code} {H : Heap} {locs : List Loc} {cells slots : Nat} {Q : State → Prop}
variable {mc ms : Nat} {free : Addr → Prop} {A0 A1 : Nat → Prop} {H0 : Heap} {a : Array Value} {pc : Nat} {ls : Array Slot} {st0 rest : List Value}
theorem vx_keep {st₀ t T' : State} {L : List Loc} (h0 : st₀.heap = H) (e1 : T'.heap = t.heap) (hS : va_S A0 H0 H locs) (hA : ∀ q, q < H.size → A1 q → A0 q) (hf : ∀ q, free q → A0 q) (hL : ∀ q ∈ L, free q.base) (hF : va_F A1 st₀ t) :
    H.size ≤ T'.heap.size ∧ (∀ q : Nat, q < H.size → ¬ A1 q → T'.heap[q]? = H[q]?) ∧ va_S A0 H0 T'.heap (locs ++ L) := by
  obtain ⟨hz, hk⟩ := hF
  rw [h0] at hz hk
  exact ⟨by rw [e1]; exact hz, fun q h1 h2 => by rw [e1]; exact hk q h1 h2,
    ⟨Nat.le_trans hS.1 (by rw [e1]; exact hz), fun q h1 h2 => by rw [e1, hk q (Nat.lt_of_lt_of_le h1 hS.1) (fun z => h2 (hA q (Nat.lt_of_lt_of_le h1 hS.1) z))]; exact hS.2.1 q h1 h2, fun q hq => by
      rcases List.mem_append.mp hq with h | h
      · exact hS.2.2 q h
      · exact hf _ (hL q h)⟩⟩
theorem vx_calli {S SX : Type} {post : Int32 → S → Prop} {px : SX → Prop} {B : S → State → Prop} {BX : String → SX → State → Prop} {AX : Nat → Prop} (hr : vx_Run p l e R s m args below meth c H locs cells slots mc ms (F0 m pc ls st0) rest (va_Qi post B A1 a) (vx_X px BX AX) free) (hS : va_S A0 H0 H locs) (hA : ∀ q, q < H.size → A1 q → A0 q) (hf : ∀ q, free q → A0 q) (hAX : ∀ q, q < H.size → AX q → A0 q)
    (kx : ∀ (E : String) (ce : Cell) (q9 : Addr) (u : SX) (t : State) (H1 : Heap) (locs1 : List Loc), t.heap = H1 → s.vm.Alike t.vm → px u → BX E u t → H.size ≤ H1.size → (∀ q : Nat, q < H.size → ¬ AX q → H1[q]? = H[q]?) → va_S A0 H0 H1 locs1 → H1[q9]? = some ce → ce.vm = .none → s.vm.findClass E = some ce.cls → vx_W p l e R s m args below meth c H1 locs1 (cells + mc) (slots + ms) Q (F0 m pc ls rest) q9)
    (kk : ∀ (r : Int32) (u : S) (t : State) (H1 : Heap) (locs1 : List Loc), t.heap = H1 → s.vm.Alike t.vm → post r u → B u t → H.size ≤ H1.size → (∀ q : Nat, q < H.size → ¬ A1 q → H1[q]? = H[q]?) → va_S A0 H0 H1 locs1 → W p l e R s m args below meth c H1 locs1 (cells + mc) (slots + ms) Q (F0 m (pc + 3) ls (.int r :: rest))) : W p l e R s m args below meth c H locs cells slots Q (F0 m pc ls st0) := by
  intro T hT X
  rcases hr T hT X with ⟨v, st₀, t, T', L, h0, X', hL, e1, e2, ⟨⟨r, u, hv, hp, hb⟩, hF⟩, st⟩ | ⟨q, st₀, t, T', L, E, ce, h0, X', hL, e1, e2, ⟨u, hp, hb, hF⟩, hce, hcv, hcl, st⟩
  · cases hv
    obtain ⟨k1, k2, k3⟩ := vx_keep h0 e1 hS hA hf hL hF
    obtain ⟨t2, a1, b1⟩ := kk r u t T'.heap (locs ++ L) e1.symm (by rw [← e2]; exact X'.warmed.alike) hp hb k1 k2 k3 T' rfl X'
    exact ⟨t2, st t2 a1, b1⟩
  · obtain ⟨k1, k2, k3⟩ := vx_keep h0 e1 hS hAX hf hL hF
    obtain ⟨t2, a1, b1⟩ := kx E ce q u t T'.heap (locs ++ L) e1.symm (by rw [← e2]; exact X'.warmed.alike) hp hb k1 k2 k3 (by rw [e1]; exact hce) hcv hcl T' rfl X'
    exact ⟨t2, st.trans a1, b1⟩
theorem vx_calll {S SX : Type} {post : Int64 → S → Prop} {px : SX → Prop} {B : S → State → Prop} {BX : String → SX → State → Prop} {AX : Nat → Prop} (hr : vx_Run p l e R s m args below meth c H locs cells slots mc ms (F0 m pc ls st0) rest (va_Ql post B A1 a) (vx_X px BX AX) free) (hS : va_S A0 H0 H locs) (hA : ∀ q, q < H.size → A1 q → A0 q) (hf : ∀ q, free q → A0 q) (hAX : ∀ q, q < H.size → AX q → A0 q)
    (kx : ∀ (E : String) (ce : Cell) (q9 : Addr) (u : SX) (t : State) (H1 : Heap) (locs1 : List Loc), t.heap = H1 → s.vm.Alike t.vm → px u → BX E u t → H.size ≤ H1.size → (∀ q : Nat, q < H.size → ¬ AX q → H1[q]? = H[q]?) → va_S A0 H0 H1 locs1 → H1[q9]? = some ce → ce.vm = .none → s.vm.findClass E = some ce.cls → vx_W p l e R s m args below meth c H1 locs1 (cells + mc) (slots + ms) Q (F0 m pc ls rest) q9)
    (kk : ∀ (r : Int64) (u : S) (t : State) (H1 : Heap) (locs1 : List Loc), t.heap = H1 → s.vm.Alike t.vm → post r u → B u t → H.size ≤ H1.size → (∀ q : Nat, q < H.size → ¬ A1 q → H1[q]? = H[q]?) → va_S A0 H0 H1 locs1 → W p l e R s m args below meth c H1 locs1 (cells + mc) (slots + ms) Q (F0 m (pc + 3) ls (.long r :: rest))) : W p l e R s m args below meth c H locs cells slots Q (F0 m pc ls st0) := by
  intro T hT X
  rcases hr T hT X with ⟨v, st₀, t, T', L, h0, X', hL, e1, e2, ⟨⟨r, u, hv, hp, hb⟩, hF⟩, st⟩ | ⟨q, st₀, t, T', L, E, ce, h0, X', hL, e1, e2, ⟨u, hp, hb, hF⟩, hce, hcv, hcl, st⟩
  · cases hv
    obtain ⟨k1, k2, k3⟩ := vx_keep h0 e1 hS hA hf hL hF
    obtain ⟨t2, a1, b1⟩ := kk r u t T'.heap (locs ++ L) e1.symm (by rw [← e2]; exact X'.warmed.alike) hp hb k1 k2 k3 T' rfl X'
    exact ⟨t2, st t2 a1, b1⟩
  · obtain ⟨k1, k2, k3⟩ := vx_keep h0 e1 hS hAX hf hL hF
    obtain ⟨t2, a1, b1⟩ := kx E ce q u t T'.heap (locs ++ L) e1.symm (by rw [← e2]; exact X'.warmed.alike) hp hb k1 k2 k3 (by rw [e1]; exact hce) hcv hcl T' rfl X'
    exact ⟨t2, st.trans a1, b1⟩
theorem vx_callf {S SX : Type} {post : UInt32 → S → Prop} {px : SX → Prop} {B : S → State → Prop} {BX : String → SX → State → Prop} {AX : Nat → Prop} (hr : vx_Run p l e R s m args below meth c H locs cells slots mc ms (F0 m pc ls st0) rest (va_Qf post B A1 a) (vx_X px BX AX) free) (hS : va_S A0 H0 H locs) (hA : ∀ q, q < H.size → A1 q → A0 q) (hf : ∀ q, free q → A0 q) (hAX : ∀ q, q < H.size → AX q → A0 q)
    (kx : ∀ (E : String) (ce : Cell) (q9 : Addr) (u : SX) (t : State) (H1 : Heap) (locs1 : List Loc), t.heap = H1 → s.vm.Alike t.vm → px u → BX E u t → H.size ≤ H1.size → (∀ q : Nat, q < H.size → ¬ AX q → H1[q]? = H[q]?) → va_S A0 H0 H1 locs1 → H1[q9]? = some ce → ce.vm = .none → s.vm.findClass E = some ce.cls → vx_W p l e R s m args below meth c H1 locs1 (cells + mc) (slots + ms) Q (F0 m pc ls rest) q9)
    (kk : ∀ (r : UInt32) (u : S) (t : State) (H1 : Heap) (locs1 : List Loc), t.heap = H1 → s.vm.Alike t.vm → post r u → B u t → H.size ≤ H1.size → (∀ q : Nat, q < H.size → ¬ A1 q → H1[q]? = H[q]?) → va_S A0 H0 H1 locs1 → W p l e R s m args below meth c H1 locs1 (cells + mc) (slots + ms) Q (F0 m (pc + 3) ls (.float r :: rest))) : W p l e R s m args below meth c H locs cells slots Q (F0 m pc ls st0) := by
  intro T hT X
  rcases hr T hT X with ⟨v, st₀, t, T', L, h0, X', hL, e1, e2, ⟨⟨r, u, hv, hp, hb⟩, hF⟩, st⟩ | ⟨q, st₀, t, T', L, E, ce, h0, X', hL, e1, e2, ⟨u, hp, hb, hF⟩, hce, hcv, hcl, st⟩
  · cases hv
    obtain ⟨k1, k2, k3⟩ := vx_keep h0 e1 hS hA hf hL hF
    obtain ⟨t2, a1, b1⟩ := kk r u t T'.heap (locs ++ L) e1.symm (by rw [← e2]; exact X'.warmed.alike) hp hb k1 k2 k3 T' rfl X'
    exact ⟨t2, st t2 a1, b1⟩
  · obtain ⟨k1, k2, k3⟩ := vx_keep h0 e1 hS hAX hf hL hF
    obtain ⟨t2, a1, b1⟩ := kx E ce q u t T'.heap (locs ++ L) e1.symm (by rw [← e2]; exact X'.warmed.alike) hp hb k1 k2 k3 (by rw [e1]; exact hce) hcv hcl T' rfl X'
    exact ⟨t2, st.trans a1, b1⟩
theorem vx_calld {S SX : Type} {post : UInt64 → S → Prop} {px : SX → Prop} {B : S → State → Prop} {BX : String → SX → State → Prop} {AX : Nat → Prop} (hr : vx_Run p l e R s m args below meth c H locs cells slots mc ms (F0 m pc ls st0) rest (va_Qd post B A1 a) (vx_X px BX AX) free) (hS : va_S A0 H0 H locs) (hA : ∀ q, q < H.size → A1 q → A0 q) (hf : ∀ q, free q → A0 q) (hAX : ∀ q, q < H.size → AX q → A0 q)
    (kx : ∀ (E : String) (ce : Cell) (q9 : Addr) (u : SX) (t : State) (H1 : Heap) (locs1 : List Loc), t.heap = H1 → s.vm.Alike t.vm → px u → BX E u t → H.size ≤ H1.size → (∀ q : Nat, q < H.size → ¬ AX q → H1[q]? = H[q]?) → va_S A0 H0 H1 locs1 → H1[q9]? = some ce → ce.vm = .none → s.vm.findClass E = some ce.cls → vx_W p l e R s m args below meth c H1 locs1 (cells + mc) (slots + ms) Q (F0 m pc ls rest) q9)
    (kk : ∀ (r : UInt64) (u : S) (t : State) (H1 : Heap) (locs1 : List Loc), t.heap = H1 → s.vm.Alike t.vm → post r u → B u t → H.size ≤ H1.size → (∀ q : Nat, q < H.size → ¬ A1 q → H1[q]? = H[q]?) → va_S A0 H0 H1 locs1 → W p l e R s m args below meth c H1 locs1 (cells + mc) (slots + ms) Q (F0 m (pc + 3) ls (.double r :: rest))) : W p l e R s m args below meth c H locs cells slots Q (F0 m pc ls st0) := by
  intro T hT X
  rcases hr T hT X with ⟨v, st₀, t, T', L, h0, X', hL, e1, e2, ⟨⟨r, u, hv, hp, hb⟩, hF⟩, st⟩ | ⟨q, st₀, t, T', L, E, ce, h0, X', hL, e1, e2, ⟨u, hp, hb, hF⟩, hce, hcv, hcl, st⟩
  · cases hv
    obtain ⟨k1, k2, k3⟩ := vx_keep h0 e1 hS hA hf hL hF
    obtain ⟨t2, a1, b1⟩ := kk r u t T'.heap (locs ++ L) e1.symm (by rw [← e2]; exact X'.warmed.alike) hp hb k1 k2 k3 T' rfl X'
    exact ⟨t2, st t2 a1, b1⟩
  · obtain ⟨k1, k2, k3⟩ := vx_keep h0 e1 hS hAX hf hL hF
    obtain ⟨t2, a1, b1⟩ := kx E ce q u t T'.heap (locs ++ L) e1.symm (by rw [← e2]; exact X'.warmed.alike) hp hb k1 k2 k3 (by rw [e1]; exact hce) hcv hcl T' rfl X'
    exact ⟨t2, st.trans a1, b1⟩
theorem vx_callv {S SX : Type} {post : S → Prop} {px : SX → Prop} {B : S → State → Prop} {BX : String → SX → State → Prop} {AX : Nat → Prop} (hr : vx_Run p l e R s m args below meth c H locs cells slots mc ms (F0 m pc ls st0) rest (va_Qv post B A1 a) (vx_X px BX AX) free) (hS : va_S A0 H0 H locs) (hA : ∀ q, q < H.size → A1 q → A0 q) (hf : ∀ q, free q → A0 q) (hAX : ∀ q, q < H.size → AX q → A0 q)
    (kx : ∀ (E : String) (ce : Cell) (q9 : Addr) (u : SX) (t : State) (H1 : Heap) (locs1 : List Loc), t.heap = H1 → s.vm.Alike t.vm → px u → BX E u t → H.size ≤ H1.size → (∀ q : Nat, q < H.size → ¬ AX q → H1[q]? = H[q]?) → va_S A0 H0 H1 locs1 → H1[q9]? = some ce → ce.vm = .none → s.vm.findClass E = some ce.cls → vx_W p l e R s m args below meth c H1 locs1 (cells + mc) (slots + ms) Q (F0 m pc ls rest) q9)
    (kk : ∀ (u : S) (t : State) (H1 : Heap) (locs1 : List Loc), t.heap = H1 → s.vm.Alike t.vm → post u → B u t → H.size ≤ H1.size → (∀ q : Nat, q < H.size → ¬ A1 q → H1[q]? = H[q]?) → va_S A0 H0 H1 locs1 → W p l e R s m args below meth c H1 locs1 (cells + mc) (slots + ms) Q (F0 m (pc + 3) ls (rest))) : W p l e R s m args below meth c H locs cells slots Q (F0 m pc ls st0) := by
  intro T hT X
  rcases hr T hT X with ⟨v, st₀, t, T', L, h0, X', hL, e1, e2, ⟨⟨u, hv, hp, hb⟩, hF⟩, st⟩ | ⟨q, st₀, t, T', L, E, ce, h0, X', hL, e1, e2, ⟨u, hp, hb, hF⟩, hce, hcv, hcl, st⟩
  · cases hv
    obtain ⟨k1, k2, k3⟩ := vx_keep h0 e1 hS hA hf hL hF
    obtain ⟨t2, a1, b1⟩ := kk u t T'.heap (locs ++ L) e1.symm (by rw [← e2]; exact X'.warmed.alike) hp hb k1 k2 k3 T' rfl X'
    exact ⟨t2, st t2 a1, b1⟩
  · obtain ⟨k1, k2, k3⟩ := vx_keep h0 e1 hS hAX hf hL hF
    obtain ⟨t2, a1, b1⟩ := kx E ce q u t T'.heap (locs ++ L) e1.symm (by rw [← e2]; exact X'.warmed.alike) hp hb k1 k2 k3 (by rw [e1]; exact hce) hcv hcl T' rfl X'
    exact ⟨t2, st.trans a1, b1⟩
/-- caught by the row x of this method's table; the rows ahead don't take it -/
theorem vx_catch {own name : String} {E : String} {ce : Cell} {q : Addr} (hown : s.vm.findClass own = some m.cls) (pre : List ExceptionTableEntry) (x : ExceptionTableEntry) (suf : List ExceptionTableEntry) (hsplit : c.exceptionTable.toList = pre ++ x :: suf)
    (hpass : ∀ z ∈ pre, covers z pc = false ∨ (z.catchType ≠ 0 ∧ ∃ nm : String, (Cond.classLink own z.catchType nm).before args s = true ∧ va_Nc E nm s)) (hx : covers x pc = true) (h0 : x.catchType ≠ 0)
    (hlink : (Cond.classLink own x.catchType name).before args s = true) (hcast : (Cond.castable E name).before args s = true) (hcell : H[q]? = some ce) (hv : ce.vm = .none) (hcl : s.vm.findClass E = some ce.cls)
    (kk : W p l e R s m args below meth c H locs cells slots Q (F0 m x.handlerPc ls [.ref q])) : vx_W p l e R s m args below meth c H locs cells slots Q (F0 m pc ls rest) q := by
  intro T hT X
  have hpl : e.platform.magicAccessors = ({} : Platform).magicAccessors := by rw [X.admits.platform]
  obtain ⟨c3, c4, hc3, hc4, hasg⟩ := Cond.castable_spec hcast
  cases Option.some.inj (hc3.symm.trans hcl)
  obtain ⟨c5, hc5, hcl5⟩ := Cond.classLink_spec hown hlink e.platform hpl
  cases Option.some.inj (hc4.symm.trans hc5)
  obtain ⟨vm', X', st⟩ := X.thenCaughtThrough q (g := F0 m pc ls rest) rfl (Steps.refl _) (by rw [hT]; exact hcell) (by rw [hv]; rfl) (by obtain ⟨k9, h9, -⟩ := Vm.findClass_spec hcl; exact ⟨k9, h9⟩) pre x suf hsplit
    (fun z hz => by
      rcases hpass z hz with h | ⟨hz0, nm, hl1, hn1⟩
      · exact Or.inl h
      · obtain ⟨c6, hc6, hcl6⟩ := Cond.classLink_spec hown hl1 e.platform hpl
        obtain ⟨a8, b8, h1, h2, h3⟩ := hn1
        cases Option.some.inj (h1.symm.trans hcl)
        cases Option.some.inj (h2.symm.trans hc6)
        exact Or.inr ⟨hz0, _, hcl6, h3⟩) hx (Or.inr ⟨h0, c4, hcl5, hasg⟩)
  obtain ⟨t, a1, b1⟩ := kk (T.setVm vm') hT X'
  exact ⟨t, st.trans a1, b1⟩
end Rows
section Ends
variable {p : Program} {l : Launch} {e : Env} {R : Room} {s : State} {m : MethodId} {args : Array Value} {below : List Frame} {meth : Method} {c : Code} {H : Heap} {locs : List Loc} {cells slots : Nat} {Q : State → Prop}
variable {mc ms : Nat} {free : Addr → Prop} {A0 A1 : Nat → Prop} {H0 : Heap} {a : Array Value} {ls : Array Slot} {st0 rest : List Value}
variable {Qc : Array Value → State → Outcome → State → Prop} {XC : String → State → State → Prop}
/-- what a body that may throw owes at its end -/
def vx_MQ (below : List Frame) (Qc : Array Value → State → Outcome → State → Prop) (XC : String → State → State → Prop) (a : Array Value) (s : State) (mc ms : Nat) (free : Addr → Prop) : State → Prop := fun t =>
  ∃ o, t.status = .running ∧ Ended t below o ∧ vx_Q Qc XC mc ms free a s o t
theorem vx_ret {g : JFrame} {mc ms : Nat} (k : W p l e R s m args below meth c H locs cells slots (MQ below Qc args s mc ms free) g) : W p l e R s m args below meth c H locs cells slots (vx_MQ below Qc XC args s mc ms free) g := by
  intro T hT X
  obtain ⟨t, a1, o, b1, b2, b3, b4⟩ := k T hT X
  exact ⟨t, a1, o, b1, b2, Or.inl ⟨b3, b4⟩⟩
/-- not caught here: it goes on to the caller -/
theorem vx_widen {g : JFrame} {q : Addr} {k n : Nat} (h1 : cells ≤ k) (h2 : slots ≤ n) (kk : vx_W p l e R s m args below meth c H locs k n Q g q) : vx_W p l e R s m args below meth c H locs cells slots Q g q := fun T hT X => kk T hT (stand_widen X h1 h2)
theorem vx_out {pc : Nat} {E : String} {ce : Cell} {q : Addr} {mc ms : Nat} (hout : ∀ x ∈ c.exceptionTable.toList, covers x pc = false) (hlocks : meth.locks = false) (hcell : H[q]? = some ce) (hv : ce.vm = .none) (hcl : s.vm.findClass E = some ce.cls)
    (hx : ∀ t : State, t.heap = H → s.vm.Alike t.vm → XC E s t) (hf : ∀ z ∈ locs, free z.base) (hc : cells ≤ mc) (hs : slots ≤ ms) :
    vx_W p l e R s m args below meth c H locs cells slots (vx_MQ below Qc XC args s mc ms free) (F0 m pc ls rest) q := by
  intro T hT X
  obtain ⟨st1, hrun, hend, hW, hsm⟩ := X.leaveThrown q (g := F0 m pc ls rest) rfl rfl rfl hout hlocks
  have hcell9 : (T.setFrames (.throwing q :: below)).heap[q]? = some ce := by
    show T.heap[q]? = some ce
    rw [hT]; exact hcell
  exact ⟨_, st1, .threw q, hrun, hend, Or.inr ⟨q, rfl, E, ce, locs, hx _ hT hW.alike, hcell9, hv, hcl, hW, hsm.mono hc hs, hf⟩⟩
theorem vx_frame {U : State} {k n : Nat} (h : s.sameButNew ({ U with vm := s.vm } : State) locs k n) : s.heap.size ≤ U.heap.size ∧ ∀ q : Nat, q < s.heap.size → (∀ z ∈ locs, z.base ≠ q) → U.heap[q]? = s.heap[q]? := by
  obtain ⟨-, h2, -, -, -, h6⟩ := h
  refine ⟨h2, fun q hq hz => ?_⟩
  obtain ⟨c9, e1, e2, e3, e4⟩ := h6 q _ (Array.getElem?_eq_getElem hq)
  have hs : c9.slots = (s.heap[q]).slots := Array.ext_getElem? fun i => e4 i fun hm => hz _ hm rfl
  have h9 : c9 = s.heap[q] := by
    rw [hs] at e2
    exact e2
  have e5 : U.heap[q]? = some c9 := e1
  rw [e5, h9, Array.getElem?_eq_getElem hq]
/-- the words of a throw but the four that speak of the heap -/
def vx_no (w : Cond) : Bool := decide (w ≠ .isRef (.static Bundle.tN "UNASSIGNED_STACK" Bundle.steD)) && decide (w ≠ .isRef (.static Bundle.tN "SUPPRESSED_SENTINEL" Bundle.listD)) && decide (w ≠ .laysStatic Bundle.tN "UNASSIGNED_STACK" Bundle.steD) && decide (w ≠ .laysStatic Bundle.tN "SUPPRESSED_SENTINEL" Bundle.listD)
def vx_at0 (own : String) (ic : Nat) (X : String) (names : List String) : List Cond := (Bundle.ownAtoms0 own ic X names).filter vx_no
def vx_atS (own : String) (ic : Nat) (X : String) (names : List String) : List Cond := (Bundle.ownAtoms own ic X names).filter vx_no
/-- a word that the tables alone decide, or a good one -/
def vx_ot (w : Cond) : Bool := w.onTables || goodWord w
theorem vx_ot_at {args a' : Array Value} {s U : State} {w : Cond} (hW : s.WarmedH U.vm) (hvm : s.vm = U.vm) (hg : vx_ot w = true) (h : w.before args s = true) : w.before a' U = true := by
  simp only [vx_ot, Bool.or_eq_true] at hg
  rcases hg with hg | hg
  · exact va_tabs hg hvm h
  · exact word_at hW (good_of_word hg) h
/-- a list's words: the good ones out of the method's own list, the others by premises of their own -/
theorem vx_hat {args : Array Value} {s : State} {L B : List Cond} (h1 : ∀ w ∈ L.filter goodWord, w.before args s = true) (h2 : ∀ w ∈ L.filter (fun w => !goodWord w), w ∈ B) (h3 : ∀ w ∈ B, w.before args s = true) : ∀ w ∈ L, w.before args s = true := by
  intro w hw
  by_cases g : goodWord w = true
  · exact h1 w (List.mem_filter.mpr ⟨hw, g⟩)
  · refine h3 w (h2 w (List.mem_filter.mpr ⟨hw, ?_⟩))
    show (!goodWord w) = true
    cases hgw : goodWord w
    · rfl
    · exact absurd hgw g
theorem vx_c {args : Array Value} {s : State} {w : Cond} {B : List Cond} (h : w.before args s = true) (t : ∀ w ∈ B, w.before args s = true) : ∀ w' ∈ w :: B, w'.before args s = true := fun w' h' => (List.mem_cons.mp h').elim (fun e => by rw [e]; exact h) (t w')
theorem vx_n {args : Array Value} {s : State} : ∀ w ∈ ([] : List Cond), w.before args s = true := fun _ h => nomatch h
theorem vx_own {args : Array Value} {s : State} {L : List Cond} (h1 : ∀ w ∈ L.filter vx_no, w.before args s = true)
    (hU : (Cond.isRef (.static Bundle.tN "UNASSIGNED_STACK" Bundle.steD)).before args s = true) (hN : (Cond.isRef (.static Bundle.tN "SUPPRESSED_SENTINEL" Bundle.listD)).before args s = true)
    (lU : (Cond.laysStatic Bundle.tN "UNASSIGNED_STACK" Bundle.steD).before args s = true) (lN : (Cond.laysStatic Bundle.tN "SUPPRESSED_SENTINEL" Bundle.listD).before args s = true) : ∀ w ∈ L, w.before args s = true := by
  intro w hw
  by_cases e1 : w = .isRef (.static Bundle.tN "UNASSIGNED_STACK" Bundle.steD)
  · rw [e1]; exact hU
  · by_cases e2 : w = .isRef (.static Bundle.tN "SUPPRESSED_SENTINEL" Bundle.listD)
    · rw [e2]; exact hN
    · by_cases e3 : w = .laysStatic Bundle.tN "UNASSIGNED_STACK" Bundle.steD
      · rw [e3]; exact lU
      · by_cases e4 : w = .laysStatic Bundle.tN "SUPPRESSED_SENTINEL" Bundle.listD
        · rw [e4]; exact lN
        · exact h1 w (List.mem_filter.mpr ⟨hw, by unfold vx_no; rw [decide_eq_true e1, decide_eq_true e2, decide_eq_true e3, decide_eq_true e4]; rfl⟩)
/-- where a static field lies, its class's statics cell in H -/
def vx_L (C n d : String) (A : Nat → Prop) (U : State) (H : Heap) : Prop := ∃ (c : ClassId) (k : Class) (i : Nat) (f : Field) (a : Nat) (cell : Cell), U.vm.findClass C = some c ∧ U.fieldFound? C n d = some (c, k, i, f) ∧ f.isStatic = true ∧ k.statics = some a ∧ H[a]? = some cell ∧ cell.vm.isStatics = true ∧ cell.cls = c ∧ f.slot < cell.slots.size ∧ k.staticTypes[f.slot]? = some f.type ∧ ¬ A a
theorem vx_L.moved {C n d : String} {A : Nat → Prop} {u U : State} {H : Heap} (hvm : u.vm.Alike U.vm) (h : vx_L C n d A u H) : vx_L C n d A U H := by
  obtain ⟨c, k, i, f, a, cell, h1, h2, h3, h4, h5, h6, h7, h8, h9, h10⟩ := h
  obtain ⟨k', hi', he⟩ := State.fieldFound?_setVm hvm h2
  exact ⟨c, k', i, f, a, cell, by rw [hvm.findClass]; exact h1, hi', h3, by rw [he]; exact h4, h5, h6, h7, h8, by rw [he]; exact h9, h10⟩
theorem vx_L.kept {C n d : String} {A : Nat → Prop} {U : State} {H H1 : Heap} (h : vx_L C n d A U H) (hq : ∀ a : Nat, a < H.size → ¬ A a → H1[a]? = H[a]?) : vx_L C n d A U H1 := by
  obtain ⟨c, k, i, f, a, cell, h1, h2, h3, h4, h5, h6, h7, h8, h9, h10⟩ := h
  exact ⟨c, k, i, f, a, cell, h1, h2, h3, h4, by rw [hq a (Array.getElem?_eq_some_iff.mp h5).1 h10]; exact h5, h6, h7, h8, h9, h10⟩
theorem vx_L.narrow {C n d : String} {A B : Nat → Prop} {U : State} {H : Heap} (h : vx_L C n d A U H) (hAB : ∀ q, B q → A q) : vx_L C n d B U H := by
  obtain ⟨c, k, i, f, a, cell, h1, h2, h3, h4, h5, h6, h7, h8, h9, h10⟩ := h
  exact ⟨c, k, i, f, a, cell, h1, h2, h3, h4, h5, h6, h7, h8, h9, fun z => h10 (hAB _ z)⟩
theorem vx_L.word {C n d : String} {A : Nat → Prop} {s : State} {args : Array Value} (h : vx_L C n d A s s.heap) : (Cond.laysStatic C n d).before args s = true := by
  obtain ⟨c, k, i, f, a, cell, h1, h2, h3, h4, h5, h6, h7, h8, h9, -⟩ := h
  show (Cond.laysStatic C n d).holds args s none s [] = true
  exact Cond.laysStatic_of h1 h2 h3 h4 h5 h6 h7 h8 h9
/-- .. and what it holds: null or some reference -/
def vx_Zq (C n d : String) (A : Nat → Prop) (U : State) (H : Heap) : Prop := va_Zq C n d A U H ∧ vx_L C n d A U H
theorem vx_Zq.moved {C n d : String} {A : Nat → Prop} {u U : State} {H : Heap} (hvm : u.vm.Alike U.vm) (h : vx_Zq C n d A u H) : vx_Zq C n d A U H := ⟨va_Zq.moved hvm h.1, vx_L.moved hvm h.2⟩
theorem vx_Zq.kept {C n d : String} {A : Nat → Prop} {U : State} {H H1 : Heap} (h : vx_Zq C n d A U H) (hq : ∀ a : Nat, a < H.size → ¬ A a → H1[a]? = H[a]?) : vx_Zq C n d A U H1 := ⟨va_Zq.kept h.1 hq, vx_L.kept h.2 hq⟩
theorem vx_Zq.narrow {C n d : String} {A B : Nat → Prop} {U : State} {H : Heap} (h : vx_Zq C n d A U H) (hAB : ∀ q, B q → A q) : vx_Zq C n d B U H := ⟨va_Zq.narrow h.1 hAB, vx_L.narrow h.2 hAB⟩
theorem vx_Zqof {args : Array Value} {s : State} {C n d : String} {A : Nat → Prop} (hl : (Cond.laysStatic C n d).before args s = true) (hini : (Cond.initialized C).before args s = true) (h : (Cond.isRef (.static C n d)).before args s = true) (hA : ∀ a : Nat, a < s.heap.size → ¬ A a) : vx_Zq C n d A s s.heap := by
  refine ⟨va_Zqof hl hini h hA, ?_⟩
  obtain ⟨c, k, i, f, a, cell, h1, h2, h3, h4, h5, h6, h7, h8, h9⟩ := Cond.laysStatic_spec hl
  exact ⟨c, k, i, f, a, cell, h1, h2, h3, h4, h5, h6, h7, h8, h9, hA a (Array.getElem?_eq_some_iff.mp h5).1⟩
theorem vx_isRef {C n d : String} {v : Value} {A : Nat → Prop} {s : State} {args : Array Value} (h : va_Z C n d v A s s.heap) (hv : v.isRef = true) : (Cond.isRef (.static C n d)).before args s = true := by
  obtain ⟨cf, kf, fi, f, a, cell, h1, h2, h3, h4, h5, h6, h7, -⟩ := h
  have he : (Term.static C n d).eval args s none [] s = some v := by
    simp [Term.eval, State.fieldNamed?, h1, h2, h4, h5, h6, h7]
  simp only [Cond.before, Cond.holds, Cond.value, he]
  cases v <;> simp_all [Value.isRef]
theorem vx_isRefq {C n d : String} {A : Nat → Prop} {s : State} {args : Array Value} (h : va_Zq C n d A s s.heap) : (Cond.isRef (.static C n d)).before args s = true := by
  rcases h with h | ⟨t, h⟩
  · exact vx_isRef h rfl
  · exact vx_isRef h rfl
/-- the same frame, seen from here: as if the method were called anew in this heap -/
theorem vx_rebase {T : State} (X : Stand p l e R s m args below meth c T locs cells slots) {R' : Room} (hf : R'.frames ≤ R.frames) (hl : R'.locals ≤ R.locals) (hc : cells + R'.cells ≤ R.cells) (hs : slots + R'.slots ≤ R.slots) :
    Stand p l e R' ((T.setVm s.vm).setFrames (.invoking m args :: below)) m args below meth c T [] 0 0 := by
  have htop : (T.setVm s.vm).topJava?.isSome := X.here.top
  have hF : ((T.setVm s.vm).setFrames (.invoking m args :: below)).frames = .invoking m args :: below := State.frames_setFrames _ (State.cur_lt_of_top htop)
  obtain ⟨g₀, hg0⟩ := Option.isSome_iff_exists.mp htop
  obtain ⟨r, hr⟩ := State.topJava?_eq_some.mp hg0
  have hl9 : e.platform.stackLimits (T.setVm s.vm).me = e.platform.stackLimits s.me := X.limits
  have hb9 : (T.setVm s.vm).me.stackBytes = s.me.stackBytes := X.bytes
  refine ⟨X.admits, X.cas, X.clock, hF, ?_, X.hears, X.method, X.code, X.here, X.tail, X.warmed, ?_, ?_, ?_⟩
  · have h := X.room
    have hU : ((T.setVm s.vm).setFrames (.invoking m args :: below)).localsInUse = s.localsInUse := by
      rw [State.localsInUse_invoking hF (meth := meth) (c := c) X.method X.code, State.localsInUse_invoking X.frames X.method X.code]
    simp only [State.hasRoom, Bool.and_eq_true, decide_eq_true_eq] at h ⊢
    obtain ⟨⟨⟨⟨h1, h2, h3, h4, h5, h6⟩, h7⟩, h8⟩, h9⟩ := h
    rw [X.frames, List.length_cons] at h2 h3
    have q1 := X.heapSize
    have q2 := X.used
    simp only [hF, hU, List.length_cons, State.stackLimits_setFrames, State.stackBytes_setFrames, hl9, hb9]
    refine ⟨⟨⟨⟨by omega, by omega, by omega, by omega, by omega, h6⟩, ?_⟩, ?_⟩, X.book⟩
    · show T.heap.size + R'.cells ≤ e.platform.maxCells
      omega
    · show T.slotsUsed + R'.slots ≤ e.platform.maxSlots
      omega
  · rw [State.stackLimits_setFrames]; rfl
  · rw [State.stackBytes_setFrames]; rfl
  · refine ⟨?_, Nat.le_refl _, Nat.le_refl _, ?_, ?_, fun a c9 h9 => ⟨c9, h9, rfl, rfl, fun _ _ => rfl⟩⟩
    · obtain ⟨t, ht, -⟩ := State.frames_cons hr
      show T.setVm s.vm = { ((T.setVm s.vm).setFrames (.invoking m args :: below)).setFrames (T.setVm s.vm).frames with heap := T.heap, slotsUsed := T.slotsUsed }
      rw [State.setFrames_setFrames, State.setFrames_self ht]
      rfl
    · show T.slotsUsed = T.slotsUsed + ((T.heap.toList.drop T.heap.size).map (·.slots.size)).sum
      rw [List.drop_eq_nil_of_le (Nat.le_of_eq Array.length_toList)]
      rfl
    · show ((T.heap.toList.drop T.heap.size).map (·.slots.size)).sum ≤ 0
      rw [List.drop_eq_nil_of_le (Nat.le_of_eq Array.length_toList)]
      exact Nat.le_refl _
/-- 'throw new E()': new; dup; invokespecial; athrow -/
theorem vx_throw0 {cc : ByteArray} {pc : Nat} (hexec : p.tables.exec = Jvm.exec) (hb : c.code = cc) (hl : l.stackTraces = false) {own cls : String} {names : List String} {ik ic mc ms : Nat} {A : Nat → Prop}
    (hown : s.vm.findClass own = some m.cls) (hcls : Bundle.fit cls = true) (hnames : ∀ n ∈ names, Bundle.fit n = true)
    (hk : (Cond.classLink own ik cls).before args s = true) (hini : (Cond.initialized cls).before args s = true) (hat : ∀ w ∈ vx_at0 own ic cls names, w.before args s = true)
    (hgood : ∀ w ∈ Cond.classLink own ik cls :: Cond.initialized cls :: vx_at0 own ic cls names, vx_ot w = true)
    (hU : vx_Zq Bundle.tN "UNASSIGNED_STACK" Bundle.steD A s s.heap) (hN : vx_Zq Bundle.tN "SUPPRESSED_SENTINEL" Bundle.listD A s s.heap) (hS : va_S A s.heap H locs) (hsize : ls.size = c.maxLocals)
    (d0 : decode cc pc = .ok (.new ik, 3)) (d3 : decode cc (pc + 3) = .ok (.dup, 1)) (d4 : decode cc (pc + 4) = .ok (.invokespecial ic, 3)) (d7 : decode cc (pc + 7) = .ok (.athrow, 1))
    (hout : ∀ x ∈ c.exceptionTable.toList, covers x (pc + 7) = false)
    (hRframes : names.length + 3 < R.frames) (hRlocals : (rest.map fun v => v.category).sum + (13 * (names.length + 1) + 42) ≤ R.locals) (hRcells : cells + 1 ≤ R.cells) (hRslots : slots + 6 ≤ R.slots) (hlocks : meth.locks = false)
    (hx : ∀ t : State, s.vm.Alike t.vm → H.size ≤ t.heap.size → (∀ q : Nat, q < H.size → t.heap[q]? = H[q]?) → XC cls s t)
    (hf : ∀ z ∈ locs, free z.base) (hc : cells + 1 ≤ mc) (hs : slots + 6 ≤ ms) :
    W p l e R s m args below meth c H locs cells slots (vx_MQ below Qc XC args s mc ms free) (F0 m pc ls rest) := by
  intro T hT X
  have htr : e.platform.stackTraces = false := (show e.platform.stackTraces = l.stackTraces by rw [X.admits.platform]).trans hl
  have Y := vx_rebase X (R' := { frames := R.frames, locals := R.locals, cells := 1, slots := 6 }) (Nat.le_refl _) (Nat.le_refl _) hRcells hRslots
  obtain ⟨s', hA⟩ : ∃ z, z = (T.setVm s.vm).setFrames (.invoking m args :: below) := ⟨_, rfl⟩
  rw [← hA] at Y
  have hvm : s'.vm = s.vm := by rw [hA]; rfl
  have hhp : s'.heap = H := by rw [hA]; exact hT
  have hW0 : s.WarmedH s'.vm := by rw [hvm]; exact State.WarmedH.refl s
  have hat' : ∀ w ∈ vx_at0 own ic cls names, w.before args s' = true := fun w hw => vx_ot_at hW0 hvm.symm (hgood w (List.mem_cons_of_mem _ (List.mem_cons_of_mem _ hw))) (hat w hw)
  have hk' : (Cond.classLink own ik cls).before args s' = true := vx_ot_at hW0 hvm.symm (hgood _ List.mem_cons_self) hk
  have hini' : (Cond.initialized cls).before args s' = true := vx_ot_at hW0 hvm.symm (hgood _ (List.mem_cons_of_mem _ List.mem_cons_self)) hini
  have hU' : vx_Zq Bundle.tN "UNASSIGNED_STACK" Bundle.steD A s' s'.heap := by rw [hhp]; exact vx_Zq.moved hW0.alike (hU.kept hS.2.1)
  have hN' : vx_Zq Bundle.tN "SUPPRESSED_SENTINEL" Bundle.listD A s' s'.heap := by rw [hhp]; exact vx_Zq.moved hW0.alike (hN.kept hS.2.1)
  have h : ∀ w ∈ Bundle.ownAtoms0 own ic cls names, w.before args s' = true := vx_own hat' (vx_isRefq hU'.1) (vx_isRefq hN'.1) hU'.2.word hN'.2.word
  have hown' : s'.vm.findClass own = some m.cls := by rw [hvm]; exact hown
  have hins : (Cond.instantiable cls 6).before args s' = true := h _ (by simp [Bundle.ownAtoms0])
  obtain ⟨vm₁, cX, kX, hfX, hkX, -, -, X₁, st1⟩ := Y.newCold hexec (own := own) (C := cls) (index := ik) (n := 6) hown' hk' hins hini'
    (g := F0 m pc ls rest) rfl (by rw [hb]; exact d0) (Nat.le_refl _) (Nat.le_refl _)
  generalize hT1 : (T.setVm vm₁).pushCell { cls := cX, slots := kX.instanceTypes.map defaultValue, vm := .none } = T1 at X₁ st1
  have hcat : (Value.ref T.heap.size).category = 1 := rfl
  have hcellA : T1.heap[T.heap.size]? = some (freshCell cX kX) := by rw [← hT1]; exact State.heap_pushCell_size _ _
  have d3' : decode c.code (pc + 3) = .ok (.dup, 1) := by rw [hb]; exact d3
  obtain ⟨U, hsteps, hrun, hend, hW, hsame, ce, hce, hO⟩ := X₁.ctorThrow0 hexec htr (own := own) (cls := cls) (names := names) (ic := ic) hown' hcls hnames h (fun x hx => nomatch hx) hfX hkX hcellA (by rw [hhp, hT]; exact Nat.le_refl _)
    (g := { method := m, pc := pc + 4, locals := ls, stack := .ref T.heap.size :: .ref T.heap.size :: rest, locked := none }) rfl hsize rfl rfl (rest := rest) rfl
    (by rw [hb]; exact d4) (by rw [hb]; exact d7) hout hRframes (by simp only [List.map_cons, List.sum_cons, hcat]; omega) hlocks
  obtain ⟨f1, f2⟩ := vx_frame hsame
  rw [hhp] at f1 f2
  have hWs : s.WarmedH U.vm := State.WarmedH.trans hW0 hW
  have hcl : s.vm.findClass cls = some ce.cls := by
    have h9 := hO.cls
    rw [hvm] at h9
    exact h9
  have hall : s.sameButNew ({ U with vm := s.vm } : State) locs mc ms := by
    subst hA
    obtain ⟨e1, e2⟩ := hsame
    rw [State.setFrames_setFrames] at e1
    have h2 : (T.setVm s.vm).sameButNew ({ U with vm := s.vm } : State) [] (0 + 1) (0 + 6) := ⟨e1, e2⟩
    have h3 := X.same.trans h2
    rw [List.append_nil] at h3
    exact h3.mono hc hs
  refine ⟨U, ?_, .threw T.heap.size, hrun, hend, Or.inr ⟨T.heap.size, rfl, cls, ce, locs, hx U hWs.alike f1 (fun q hq => f2 q hq (fun z hz => nomatch hz)), hce, hO.vm, hcl, hWs, hall, hf⟩⟩
  refine st1 _ ?_
  show Steps p.tables e below (T1.setTop { method := m, pc := pc + 3, locals := ls, stack := .ref T.heap.size :: rest, locked := none }) _
  jvm_step X₁.here [X₁.here.top, hexec, d3', Value.category]
  exact hsteps
/-- 'throw new E("text")': new; dup; ldc; invokespecial; athrow -/
theorem vx_throwS {cc : ByteArray} {pc : Nat} (hexec : p.tables.exec = Jvm.exec) (hb : c.code = cc) (hl : l.stackTraces = false) {own cls text : String} {names : List String} {ik is ic mc ms sa : Nat} {A : Nat → Prop}
    (hown : s.vm.findClass own = some m.cls) (hcls : Bundle.fit cls = true) (hnames : ∀ n ∈ names, Bundle.fit n = true)
    (hk : (Cond.classLink own ik cls).before args s = true) (hini : (Cond.initialized cls).before args s = true) (hstr : vk_R own is text sa s) (hat : ∀ w ∈ vx_atS own ic cls names, w.before args s = true)
    (hgood : ∀ w ∈ Cond.classLink own ik cls :: Cond.initialized cls :: vx_atS own ic cls names, vx_ot w = true)
    (hU : vx_Zq Bundle.tN "UNASSIGNED_STACK" Bundle.steD A s s.heap) (hN : vx_Zq Bundle.tN "SUPPRESSED_SENTINEL" Bundle.listD A s s.heap) (hS : va_S A s.heap H locs) (hsize : ls.size = c.maxLocals)
    (d0 : decode cc pc = .ok (.new ik, 3)) (d3 : decode cc (pc + 3) = .ok (.dup, 1)) (d4 : decode cc (pc + 4) = .ok (.ldc is, 2)) (d6 : decode cc (pc + 6) = .ok (.invokespecial ic, 3)) (d9 : decode cc (pc + 9) = .ok (.athrow, 1))
    (hout : ∀ x ∈ c.exceptionTable.toList, covers x (pc + 9) = false)
    (hRframes : names.length + 3 < R.frames) (hRlocals : (rest.map fun v => v.category).sum + (13 * (names.length + 1) + 43) ≤ R.locals) (hRcells : cells + 1 ≤ R.cells) (hRslots : slots + 6 ≤ R.slots) (hlocks : meth.locks = false)
    (hx : ∀ t : State, s.vm.Alike t.vm → H.size ≤ t.heap.size → (∀ q : Nat, q < H.size → t.heap[q]? = H[q]?) → XC cls s t)
    (hf : ∀ z ∈ locs, free z.base) (hc : cells + 1 ≤ mc) (hs : slots + 6 ≤ ms) :
    W p l e R s m args below meth c H locs cells slots (vx_MQ below Qc XC args s mc ms free) (F0 m pc ls rest) := by
  intro T hT X
  have htr : e.platform.stackTraces = false := (show e.platform.stackTraces = l.stackTraces by rw [X.admits.platform]).trans hl
  have Y := vx_rebase X (R' := { frames := R.frames, locals := R.locals, cells := 1, slots := 6 }) (Nat.le_refl _) (Nat.le_refl _) hRcells hRslots
  obtain ⟨s', hA⟩ : ∃ z, z = (T.setVm s.vm).setFrames (.invoking m args :: below) := ⟨_, rfl⟩
  rw [← hA] at Y
  have hvm : s'.vm = s.vm := by rw [hA]; rfl
  have hhp : s'.heap = H := by rw [hA]; exact hT
  have hW0 : s.WarmedH s'.vm := by rw [hvm]; exact State.WarmedH.refl s
  have hat' : ∀ w ∈ vx_atS own ic cls names, w.before args s' = true := fun w hw => vx_ot_at hW0 hvm.symm (hgood w (List.mem_cons_of_mem _ (List.mem_cons_of_mem _ hw))) (hat w hw)
  have hk' : (Cond.classLink own ik cls).before args s' = true := vx_ot_at hW0 hvm.symm (hgood _ List.mem_cons_self) hk
  have hini' : (Cond.initialized cls).before args s' = true := vx_ot_at hW0 hvm.symm (hgood _ (List.mem_cons_of_mem _ List.mem_cons_self)) hini
  have hU' : vx_Zq Bundle.tN "UNASSIGNED_STACK" Bundle.steD A s' s'.heap := by rw [hhp]; exact vx_Zq.moved hW0.alike (hU.kept hS.2.1)
  have hN' : vx_Zq Bundle.tN "SUPPRESSED_SENTINEL" Bundle.listD A s' s'.heap := by rw [hhp]; exact vx_Zq.moved hW0.alike (hN.kept hS.2.1)
  have h : ∀ w ∈ Bundle.ownAtoms own ic cls names, w.before args s' = true := vx_own hat' (vx_isRefq hU'.1) (vx_isRefq hN'.1) hU'.2.word hN'.2.word
  have hown' : s'.vm.findClass own = some m.cls := by rw [hvm]; exact hown
  have hins : (Cond.instantiable cls 6).before args s' = true := h _ (by simp [Bundle.ownAtoms])
  obtain ⟨vm₁, cX, kX, hfX, hkX, -, -, X₁, st1⟩ := Y.newCold hexec (own := own) (C := cls) (index := ik) (n := 6) hown' hk' hins hini'
    (g := F0 m pc ls rest) rfl (by rw [hb]; exact d0) (Nat.le_refl _) (Nat.le_refl _)
  generalize hT1 : (T.setVm vm₁).pushCell { cls := cX, slots := kX.instanceTypes.map defaultValue, vm := .none } = T1 at X₁ st1
  have hcat : (Value.ref T.heap.size).category = 1 := rfl
  have hcellA : T1.heap[T.heap.size]? = some (freshCell cX kX) := by rw [← hT1]; exact State.heap_pushCell_size _ _
  have d3' : decode c.code (pc + 3) = .ok (.dup, 1) := by rw [hb]; exact d3
  have d4' : decode c.code (pc + 4) = .ok (.ldc is, 2) := by rw [hb]; exact d4
  have hstr' : vk_R own is text sa s' := vk_R.warm hW0 hstr
  obtain ⟨U, hsteps, hrun, hend, hW, hsame, ce, hce, hO⟩ := X₁.ctorThrowS hexec htr (own := own) (cls := cls) (names := names) (ic := ic) hown' hcls hnames h (fun x hx => nomatch hx) hfX hkX hcellA (by rw [hhp, hT]; exact Nat.le_refl _) (msg := .ref sa) rfl
    (g := { method := m, pc := pc + 6, locals := ls, stack := .ref sa :: .ref T.heap.size :: .ref T.heap.size :: rest, locked := none }) rfl hsize rfl rfl (rest := rest) rfl
    (by rw [hb]; exact d6) (by rw [hb]; exact d9) hout hRframes (by simp only [List.map_cons, List.sum_cons, hcat]; omega) hlocks
  obtain ⟨f1, f2⟩ := vx_frame hsame
  rw [hhp] at f1 f2
  have hWs : s.WarmedH U.vm := State.WarmedH.trans hW0 hW
  have hcl : s.vm.findClass cls = some ce.cls := by
    have h9 := hO.cls
    rw [hvm] at h9
    exact h9
  have hall : s.sameButNew ({ U with vm := s.vm } : State) locs mc ms := by
    subst hA
    obtain ⟨e1, e2⟩ := hsame
    rw [State.setFrames_setFrames] at e1
    have h2 : (T.setVm s.vm).sameButNew ({ U with vm := s.vm } : State) [] (0 + 1) (0 + 6) := ⟨e1, e2⟩
    have h3 := X.same.trans h2
    rw [List.append_nil] at h3
    exact h3.mono hc hs
  refine ⟨U, ?_, .threw T.heap.size, hrun, hend, Or.inr ⟨T.heap.size, rfl, cls, ce, locs, hx U hWs.alike f1 (fun q hq => f2 q hq (fun z hz => nomatch hz)), hce, hO.vm, hcl, hWs, hall, hf⟩⟩
  refine st1 _ ?_
  show Steps p.tables e below (T1.setTop { method := m, pc := pc + 3, locals := ls, stack := .ref T.heap.size :: rest, locked := none }) _
  jvm_step X₁.here [X₁.here.top, hexec, d3', Value.category]
  exact X₁.ldcString hexec (own := own) (text := text) (index := is) (a := sa) hown' hstr'.1 hstr'.2
    (g := { method := m, pc := pc + 4, locals := ls, stack := .ref T.heap.size :: .ref T.heap.size :: rest, locked := none }) rfl d4' _ hsteps
/-- 'throw new E("text")', the text by a wide index -/
theorem vx_throwSW {cc : ByteArray} {pc : Nat} (hexec : p.tables.exec = Jvm.exec) (hb : c.code = cc) (hl : l.stackTraces = false) {own cls text : String} {names : List String} {ik is ic mc ms sa : Nat} {A : Nat → Prop}
    (hown : s.vm.findClass own = some m.cls) (hcls : Bundle.fit cls = true) (hnames : ∀ n ∈ names, Bundle.fit n = true)
    (hk : (Cond.classLink own ik cls).before args s = true) (hini : (Cond.initialized cls).before args s = true) (hstr : vk_R own is text sa s) (hat : ∀ w ∈ vx_atS own ic cls names, w.before args s = true)
    (hgood : ∀ w ∈ Cond.classLink own ik cls :: Cond.initialized cls :: vx_atS own ic cls names, vx_ot w = true)
    (hU : vx_Zq Bundle.tN "UNASSIGNED_STACK" Bundle.steD A s s.heap) (hN : vx_Zq Bundle.tN "SUPPRESSED_SENTINEL" Bundle.listD A s s.heap) (hS : va_S A s.heap H locs) (hsize : ls.size = c.maxLocals)
    (d0 : decode cc pc = .ok (.new ik, 3)) (d3 : decode cc (pc + 3) = .ok (.dup, 1)) (d4 : decode cc (pc + 4) = .ok (.ldc_w is, 3)) (d7 : decode cc (pc + 7) = .ok (.invokespecial ic, 3)) (d10 : decode cc (pc + 10) = .ok (.athrow, 1))
    (hout : ∀ x ∈ c.exceptionTable.toList, covers x (pc + 10) = false)
    (hRframes : names.length + 3 < R.frames) (hRlocals : (rest.map fun v => v.category).sum + (13 * (names.length + 1) + 43) ≤ R.locals) (hRcells : cells + 1 ≤ R.cells) (hRslots : slots + 6 ≤ R.slots) (hlocks : meth.locks = false)
    (hx : ∀ t : State, s.vm.Alike t.vm → H.size ≤ t.heap.size → (∀ q : Nat, q < H.size → t.heap[q]? = H[q]?) → XC cls s t)
    (hf : ∀ z ∈ locs, free z.base) (hc : cells + 1 ≤ mc) (hs : slots + 6 ≤ ms) :
    W p l e R s m args below meth c H locs cells slots (vx_MQ below Qc XC args s mc ms free) (F0 m pc ls rest) := by
  intro T hT X
  have htr : e.platform.stackTraces = false := (show e.platform.stackTraces = l.stackTraces by rw [X.admits.platform]).trans hl
  have Y := vx_rebase X (R' := { frames := R.frames, locals := R.locals, cells := 1, slots := 6 }) (Nat.le_refl _) (Nat.le_refl _) hRcells hRslots
  obtain ⟨s', hA⟩ : ∃ z, z = (T.setVm s.vm).setFrames (.invoking m args :: below) := ⟨_, rfl⟩
  rw [← hA] at Y
  have hvm : s'.vm = s.vm := by rw [hA]; rfl
  have hhp : s'.heap = H := by rw [hA]; exact hT
  have hW0 : s.WarmedH s'.vm := by rw [hvm]; exact State.WarmedH.refl s
  have hat' : ∀ w ∈ vx_atS own ic cls names, w.before args s' = true := fun w hw => vx_ot_at hW0 hvm.symm (hgood w (List.mem_cons_of_mem _ (List.mem_cons_of_mem _ hw))) (hat w hw)
  have hk' : (Cond.classLink own ik cls).before args s' = true := vx_ot_at hW0 hvm.symm (hgood _ List.mem_cons_self) hk
  have hini' : (Cond.initialized cls).before args s' = true := vx_ot_at hW0 hvm.symm (hgood _ (List.mem_cons_of_mem _ List.mem_cons_self)) hini
  have hU' : vx_Zq Bundle.tN "UNASSIGNED_STACK" Bundle.steD A s' s'.heap := by rw [hhp]; exact vx_Zq.moved hW0.alike (hU.kept hS.2.1)
  have hN' : vx_Zq Bundle.tN "SUPPRESSED_SENTINEL" Bundle.listD A s' s'.heap := by rw [hhp]; exact vx_Zq.moved hW0.alike (hN.kept hS.2.1)
  have h : ∀ w ∈ Bundle.ownAtoms own ic cls names, w.before args s' = true := vx_own hat' (vx_isRefq hU'.1) (vx_isRefq hN'.1) hU'.2.word hN'.2.word
  have hown' : s'.vm.findClass own = some m.cls := by rw [hvm]; exact hown
  have hins : (Cond.instantiable cls 6).before args s' = true := h _ (by simp [Bundle.ownAtoms])
  obtain ⟨vm₁, cX, kX, hfX, hkX, -, -, X₁, st1⟩ := Y.newCold hexec (own := own) (C := cls) (index := ik) (n := 6) hown' hk' hins hini'
    (g := F0 m pc ls rest) rfl (by rw [hb]; exact d0) (Nat.le_refl _) (Nat.le_refl _)
  generalize hT1 : (T.setVm vm₁).pushCell { cls := cX, slots := kX.instanceTypes.map defaultValue, vm := .none } = T1 at X₁ st1
  have hcat : (Value.ref T.heap.size).category = 1 := rfl
  have hcellA : T1.heap[T.heap.size]? = some (freshCell cX kX) := by rw [← hT1]; exact State.heap_pushCell_size _ _
  have d3' : decode c.code (pc + 3) = .ok (.dup, 1) := by rw [hb]; exact d3
  have d4' : decode c.code (pc + 4) = .ok (.ldc_w is, 3) := by rw [hb]; exact d4
  have hstr' : vk_R own is text sa s' := vk_R.warm hW0 hstr
  obtain ⟨U, hsteps, hrun, hend, hW, hsame, ce, hce, hO⟩ := X₁.ctorThrowS hexec htr (own := own) (cls := cls) (names := names) (ic := ic) hown' hcls hnames h (fun x hx => nomatch hx) hfX hkX hcellA (by rw [hhp, hT]; exact Nat.le_refl _) (msg := .ref sa) rfl
    (g := { method := m, pc := pc + 7, locals := ls, stack := .ref sa :: .ref T.heap.size :: .ref T.heap.size :: rest, locked := none }) rfl hsize rfl rfl (rest := rest) rfl
    (by rw [hb]; exact d7) (by rw [hb]; exact d10) hout hRframes (by simp only [List.map_cons, List.sum_cons, hcat]; omega) hlocks
  obtain ⟨f1, f2⟩ := vx_frame hsame
  rw [hhp] at f1 f2
  have hWs : s.WarmedH U.vm := State.WarmedH.trans hW0 hW
  have hcl : s.vm.findClass cls = some ce.cls := by
    have h9 := hO.cls
    rw [hvm] at h9
    exact h9
  have hall : s.sameButNew ({ U with vm := s.vm } : State) locs mc ms := by
    subst hA
    obtain ⟨e1, e2⟩ := hsame
    rw [State.setFrames_setFrames] at e1
    have h2 : (T.setVm s.vm).sameButNew ({ U with vm := s.vm } : State) [] (0 + 1) (0 + 6) := ⟨e1, e2⟩
    have h3 := X.same.trans h2
    rw [List.append_nil] at h3
    exact h3.mono hc hs
  refine ⟨U, ?_, .threw T.heap.size, hrun, hend, Or.inr ⟨T.heap.size, rfl, cls, ce, locs, hx U hWs.alike f1 (fun q hq => f2 q hq (fun z hz => nomatch hz)), hce, hO.vm, hcl, hWs, hall, hf⟩⟩
  refine st1 _ ?_
  show Steps p.tables e below (T1.setTop { method := m, pc := pc + 3, locals := ls, stack := .ref T.heap.size :: rest, locked := none }) _
  jvm_step X₁.here [X₁.here.top, hexec, d3', Value.category]
  exact X₁.ldcStringW hexec (own := own) (text := text) (index := is) (a := sa) hown' hstr'.1 hstr'.2
    (g := { method := m, pc := pc + 4, locals := ls, stack := .ref T.heap.size :: .ref T.heap.size :: rest, locked := none }) rfl d4' _ hsteps
end Ends
section Bodies
variable {l : Launch}
theorem vx_ofW {y : MethodName} {ws ws' : List Cond} {rm : Room} {Pc : Array Value → State → Prop} {Qc : Array Value → State → Outcome → State → Prop} {XC : String → State → State → Prop} {mc ms : Nat} {free : Addr → Prop} {cc : ByteArray} {maxL : Nat} {ret : Option FieldType}
    (hy : plainName y.cls = true) (hw : ws = Cond.code y cc maxL ret :: ws')
    (body : ∀ p e s m args below meth c s₁, BodyLoose p l y (headSpec ws rm) cc maxL ret e s m args below meth c s₁ → c.maxLocals = maxL → (∀ x ∈ c.exceptionTable.toList, False) → Pc args s →
      W p l e (headSpec ws rm).room s m args below meth c s.heap [] 0 0 (vx_MQ below Qc XC args s mc ms free) (entryFrame m args maxL)) : vx_Met l y ws rm Pc Qc XC mc ms free := by
  refine MetFree.of_bodyS (code := cc) (maxLocals := maxL) (ret := ret) hy ?_ ?_
  · intro args s m h hn
    obtain ⟨meth, c, h1, h2, h3, h4, h5, h6, -, -⟩ := Cond.code_spec hn (atoms_spec (ws := ws) h _ (by rw [hw]; exact List.mem_cons_self))
    exact ⟨meth, c, h1, h2, h3, h4, h5, h6⟩
  · intro p e s m args below meth c s₁ B hml hP _
    have hh0 : s₁.heap = s.heap := by rw [B.state]; rfl
    have ht : ∀ x ∈ c.exceptionTable.toList, False := by
      obtain ⟨meth9, c9, h1, h2, -, -, -, -, h7, -⟩ := Cond.code_spec B.named (atoms_spec (ws := ws) B.pre _ (by rw [hw]; exact List.mem_cons_self))
      cases Option.some.inj (h1.symm.trans B.method)
      cases Option.some.inj (h2.symm.trans (Stand.of_body B).code)
      intro x hx
      rw [Array.isEmpty_iff.mp h7] at hx
      cases hx
    obtain ⟨t, a1, o, b1, b2, b3⟩ := body p e s m args below meth c s₁ B hml ht hP s₁ hh0 (Stand.of_body B)
    exact ⟨t, o, a1, b1, b2, b3⟩
/-- the table of a body with handlers -/
theorem vx_table {p : Program} {x y : MethodName} {S : Spec} {cc bytes : ByteArray} {maxL maxL' : Nat} {ret ret' : Option FieldType} {e : Env} {s s₁ : State} {m : MethodId} {args : Array Value} {below : List Frame} {meth : Method} {c : Code} {hh : List (Nat × Nat × Nat × Nat)}
    (B : BodyLoose p l y S cc maxL ret e s m args below meth c s₁) (h : (Cond.codeWith y bytes maxL' ret' hh).before args s = true) : c.exceptionTable.toList = tableOf hh := by
  obtain ⟨m9, meth9, c9, hn9, h1, h2, -, -, h6, -⟩ := Cond.codeWith_spec h
  cases Option.some.inj (hn9.symm.trans B.named)
  cases Option.some.inj (h1.symm.trans B.method)
  cases Option.some.inj (h2.symm.trans (Stand.of_body B).code)
  rw [← h6, table_eq]
end Bodies
end VXA
/-! ===== END ===== -/
/-! ===== BEGIN a static call of a method with an exception table ===== -/
section VXS
variable {p : Program} {l : Launch} {e : Env} {R : Room} {s : State} {m : MethodId} {args : Array Value} {below : List Frame} {meth : Method} {c : Code} {T : State} {H : Heap} {locs : List Loc} {cells slots : Nat}
abbrev vx_CSW (R : Room) (s : State) (args : Array Value) (own : String) (index : Nat) (y : MethodName) (bytes : ByteArray) (maxL : Nat) (ret : Option FieldType) (hh : List (Nat × Nat × Nat × Nat)) (ws : List Cond) (rm : Room) (mc ms n : Nat) : Prop :=
  (rm.cells = mc ∧ rm.slots = ms ∧ rm.frames + 1 ≤ R.frames ∧ 8 + (maxL + 11) + rm.locals ≤ R.locals ∧ (∀ w ∈ ws, ∀ (a' : Array Value) (U : State), s.WarmedH U.vm → w.before a' U = true) ∧ Cond.codeWith y bytes maxL ret hh ∈ ws) ∧
  (Cond.codeWith y bytes maxL ret hh).before args s = true ∧ (Cond.initialized y.cls).before args s = true ∧ (y.cls ≠ "java/lang/invoke/MethodHandle" ∧ y.cls ≠ "java/lang/invoke/VarHandle") ∧
  (∀ sig, parseMethodDescriptor y.desc = some sig → n = sig.parameters.length) ∧ (Cond.methodLink own index y).before args s = true ∧ (Cond.static y).before args s = true
theorem vx_cwSW {own : String} {index maxL mc ms : Nat} {y : MethodName} {bytes : ByteArray} {ret : Option FieldType} {hh : List (Nat × Nat × Nat × Nat)} {Ts ws ws' : List Cond} {rm : Room} (n : Nat) (ht : ∀ w ∈ Ts, w.before args s = true) (hT : GoodIn Ts (va_wsS own index y ws)) (hw : ws = Cond.codeWith y bytes maxL ret hh :: ws') (hrc : rm.cells = mc) (hrs : rm.slots = ms)
    (hd : y.cls ≠ "java/lang/invoke/MethodHandle" ∧ y.cls ≠ "java/lang/invoke/VarHandle" ∧ (parseMethodDescriptor y.desc).map (fun d => d.parameters.length) = some n) (hR : rm.frames + 1 ≤ R.frames ∧ 8 + (maxL + 11) + rm.locals ≤ R.locals) :
    vx_CSW R s args own index y bytes maxL ret hh ws rm mc ms n := by
  have ok : ∀ w ∈ va_wsS own index y ws, w.before args s = true := fun w h => ht w (hT w h).1
  have hG : GoodIn Ts ws := fun w h => hT w (by unfold va_wsS; exact List.mem_append_right _ h)
  have hc : Cond.codeWith y bytes maxL ret hh ∈ ws := by rw [hw]; exact List.mem_cons_self
  refine ⟨⟨hrc, hrs, hR.1, hR.2, pay_in ht hG, hc⟩, ht _ (hG _ hc).1, ok _ (by simp [va_wsS]), ⟨hd.1, hd.2.1⟩, fun sig h => ?_, ok _ (by simp [va_wsS]), ok _ (by simp [va_wsS])⟩
  have h2 := hd.2.2
  rw [h] at h2
  exact (Option.some.inj h2).symm
theorem vx_callSW (X : Stand p l e R s m args below meth c T locs cells slots) (hexec : p.tables.exec = Jvm.exec) {own : String} {index : Nat} {y : MethodName} {bytes : ByteArray} {maxL : Nat} {ret : Option FieldType} {hh : List (Nat × Nat × Nat × Nat)}
    (hown : s.vm.findClass own = some m.cls) (hlink : (Cond.methodLink own index y).before args s = true) (hstat : (Cond.static y).before args s = true) (hinit : (Cond.initialized y.cls).before args s = true)
    (hcode : (Cond.codeWith y bytes maxL ret hh).before args s = true) (hy : y.cls ≠ "java/lang/invoke/MethodHandle" ∧ y.cls ≠ "java/lang/invoke/VarHandle")
    {W9 : Nat} {Pre : Pt → Array Value → Prop} {Post : Pt → Array Value → Option Value → Pt → Prop} (hK : Back l R p e below s args y 3 W9 Pre Post)
    {g : JFrame} (hg : g.method = m) (hsize : g.locals.size = c.maxLocals) {argsL rest : List Value} (hlen : ∀ sig, parseMethodDescriptor y.desc = some sig → argsL.length = sig.parameters.length)
    (hstack : g.stack = argsL.reverse ++ rest) (hW : 2 * g.monitorRoom + (rest.map fun v => v.category).sum ≤ W9) (hdg : decode c.code g.pc = .ok (.invokestatic index, 3))
    (hpre : ∀ vm₁, s.WarmedH vm₁ → Pre ⟨T.setVm vm₁, locs, cells, slots⟩ argsL.toArray) :
    ∃ (v : Option Value) (vm₁ : Vm) (B : Pt), s.WarmedH vm₁ ∧ Stand p l e R s m args below meth c B.U B.locs B.cells B.slots ∧ Post ⟨T.setVm vm₁, locs, cells, slots⟩ argsL.toArray v B ∧
      ∀ target, Steps p.tables e below (B.U.setTop { g with pc := g.pc + 3, stack := v.toList ++ rest }) target → Steps p.tables e below (T.setTop g) target := by
  obtain ⟨mk, methM, cM, hnamed, hmethM, -, -, -, -, -, -, hsigM⟩ := Cond.codeWith_spec hcode
  have hstatic : methM.isStatic = true := Cond.static_spec hnamed hmethM hstat
  obtain ⟨kP, hkP, -⟩ := className_of_methodNamed hnamed
  have hinitP : kP.init = .initialized := Cond.initialized_spec (findClass_of_methodNamed hnamed) hkP hinit
  obtain ⟨vm₁, X₁, hstep₁⟩ := X.invokestatic hexec hown hlink hnamed hmethM hstatic hkP hinitP hy (g := g) hg (argsL := argsL) (rest := rest) (hlen _ hsigM) hstack hdg
  obtain ⟨v, B, X', hpost, hsteps⟩ := hK m meth c ⟨T.setVm vm₁, locs, cells, slots⟩ { g with stack := rest } (.invokestatic index) mk argsL.toArray X₁ hg hsize hdg hW (X₁.named hnamed) (hpre vm₁ X₁.warmed)
  exact ⟨v, vm₁, B, X₁.warmed, X', hpost, fun target h => hstep₁ _ fun acts => by rw [doInvoke_state]; exact hsteps.trans h⟩
theorem vx_runSW {y : MethodName} {bytes cc : ByteArray} {maxL nL mc ms n index : Nat} {ret : Option FieldType} {hh : List (Nat × Nat × Nat × Nat)} {ws : List Cond} {rm : Room} {Pc : Array Value → State → Prop} {Qc : Array Value → State → Outcome → State → Prop} {free : Addr → Prop} {Ts : List Cond} {own : String} {As rest : List Value} {g : JFrame}
    (S : CallFix p m c cc nL s args Ts own) (hM : Met l y ws rm Pc Qc mc ms free) (cw : vx_CSW R s args own index y bytes maxL ret hh ws rm mc ms n) (hp : PreS s H Pc As)
    (hg : g.method = m) (hn : As.length = n) (hsize : g.locals.size = nL) (hstack : g.stack = As.reverse ++ rest) (hW : 2 * g.monitorRoom + (rest.map fun v => v.category).sum ≤ 8) (hdg : decode cc g.pc = .ok (.invokestatic index, 3)) (hf : cells + mc ≤ R.cells ∧ slots + ms ≤ R.slots) :
    va_Run p l e R s m args below meth c H locs cells slots mc ms g rest (Qc As.toArray) (free) := by
  obtain ⟨⟨hrc, hrs, hfr, hlo, hws, hcw⟩, hcode, hini, hy, hlen, hl, hstt⟩ := cw
  have hK : Back l R p e below s args y 3 8 (PreOf R mc ms Pc) (PostOf Qc mc ms free) := va_backW (hh := hh) (bytes := bytes) (maxL := maxL) (ret := ret) hM hp.1 hrc hrs hfr hlo hws hcw (fun a' U hW => word_at hW (Or.inl (by first | rfl | simp [Cond.onTables, Cond.keeps, Cond.steady])) hini)
  obtain ⟨hx, hb, hml, ho, -⟩ := S
  intro T hT X
  obtain ⟨v, vm₁, ⟨U', l2, c2, s2⟩, hW₁, X', ⟨g', mk, t, L, e1, e2, hq, h1, hL, h2, h3⟩, st⟩ := vx_callSW X hx (hh := hh) (bytes := bytes) (maxL := maxL) (ret := ret) ho hl hstt hini hcode hy hK hg (hsize.trans hml.symm) (argsL := As) (rest := rest) (fun sig h => hn.trans (hlen sig h)) hstack hW (by rw [hb]; exact hdg)
    (fun vm₁ hW₁ => ⟨hf.1, hf.2, hp.2 (T.setVm vm₁) hT hW₁⟩)
  dsimp only [Pt.U, Pt.locs, Pt.cells, Pt.slots] at X' e1 e2 h1 h2 h3 st
  subst h1; subst h2; subst h3
  exact ⟨v, (T.setVm vm₁).calling g' mk As.toArray, t, U', L, hT, X', hL, e1, e2, hq, st⟩
/-- not caught here, past rows that name other classes: it goes on to the caller -/
theorem vx_outP {p : Program} {l : Launch} {e : Env} {R : Room} {s : State} {m : MethodId} {args : Array Value} {below : List Frame} {meth : Method} {c : Code} {H : Heap} {locs : List Loc} {cells slots : Nat} {free : Addr → Prop} {ls : Array Slot} {rest : List Value} {Qc : Array Value → State → Outcome → State → Prop} {XC : String → State → State → Prop}
    {pc : Nat} {own E : String} {ce : Cell} {q : Addr} {mc ms : Nat} (hown : s.vm.findClass own = some m.cls) (hlocks : meth.locks = false)
    (hpass : ∀ z ∈ c.exceptionTable.toList, covers z pc = false ∨ (z.catchType ≠ 0 ∧ ∃ nm : String, (Cond.classLink own z.catchType nm).before args s = true ∧ va_Nc E nm s)) (hcell : H[q]? = some ce) (hv : ce.vm = .none) (hcl : s.vm.findClass E = some ce.cls)
    (hx : ∀ t : State, t.heap = H → s.vm.Alike t.vm → XC E s t) (hf : ∀ z ∈ locs, free z.base) (hc : cells ≤ mc) (hs : slots ≤ ms) :
    vx_W p l e R s m args below meth c H locs cells slots (vx_MQ below Qc XC args s mc ms free) (F0 m pc ls rest) q := by
  intro T hT X
  have hpl : e.platform.magicAccessors = ({} : Platform).magicAccessors := by rw [X.admits.platform]
  obtain ⟨vm', hW', X', st⟩ := X.outThrough hlocks q (g := F0 m pc ls rest) rfl rfl rfl (cell := ce) (by rw [hT]; exact hcell) (by rw [hv]; rfl)
    (by obtain ⟨k9, h9, -⟩ := Vm.findClass_spec hcl; exact ⟨k9, h9⟩) (fun z hz => by
      rcases hpass z hz with h | ⟨hz0, nm, hl1, hn1⟩
      · exact Or.inl h
      · obtain ⟨c6, hc6, hcl6⟩ := Cond.classLink_spec hown hl1 e.platform hpl
        obtain ⟨a8, b8, h1, h2, h3⟩ := hn1
        cases Option.some.inj (h1.symm.trans hcl)
        cases Option.some.inj (h2.symm.trans hc6)
        exact Or.inr ⟨hz0, _, hcl6, h3⟩)
  obtain ⟨g₀, hfr⟩ := X'.frames_eq
  have hcell9 : ((T.setVm vm').setFrames (.throwing q :: below)).heap[q]? = some ce := by
    show T.heap[q]? = some ce
    rw [hT]; exact hcell
  have hend : Ended ((T.setVm vm').setFrames (.throwing q :: below)) below (.threw q) := State.frames_setFrames _ (State.cur_lt_of_frames hfr)
  refine ⟨(T.setVm vm').setFrames (.throwing q :: below), ?_, .threw q, X'.here.running, hend, Or.inr ⟨q, rfl, E, ce, locs, hx _ hT (X'.ends _).1.alike, hcell9, hv, hcl, (X'.ends _).1, (X'.ends _).2.mono hc hs, hf⟩⟩
  rw [X.pushThrowing_eq]
  exact st
/-- a thing of a world lies in the heap -/
theorem vx_lt {D : va_G} {cl : List vw_C} {ws : va_W} {H1 : Heap} (h : va_P D cl ws H1) {k : Nat} {q : Nat × va_E} (hk : ws[k]? = some q) : q.1 < H1.size := (h k q hk).lt
end VXS
/-! ===== END ===== -/
/-! ===== BEGIN methods with a table of their own: called by a name, returning or throwing ===== -/
section VXH
/-! vx_backW, vx_callVX, vx_callSX, vx_callVW, vx_runVW, vx_runVX, vx_runSX, vx_ofWH follow the same proofs as their sisters above (Free/Laws.lean, Shelf42/LK1.lean); vx_outP calls Shelf42/NT130.lean (outThrough). -/
section
variable {l : Launch} {R : Room} {p : Program} {e : Env} {below : List Frame} {s : State} {sargs : Array Value} {y : MethodName} {len W9 : Nat}
theorem vx_backW {ws : List Cond} {rm : Room} {Pc : Array Value → State → Prop} {Qc : Array Value → State → Outcome → State → Prop} {XC : String → State → State → Prop} {mc ms : Nat} {free : Addr → Prop} {bytes : ByteArray} {maxL : Nat} {ret : Option FieldType} {hh : List (Nat × Nat × Nat × Nat)}
    (hM : vx_Met l y ws rm Pc Qc XC mc ms free) (hblind : FrameBlind Pc) (hrc : rm.cells = mc) (hrs : rm.slots = ms)
    (hframes : rm.frames + 1 ≤ R.frames) (hlocals : W9 + (maxL + 11) + rm.locals ≤ R.locals)
    (hws : ∀ w ∈ ws, ∀ a' U, s.WarmedH U.vm → w.before a' U = true) (hcode : Cond.codeWith y bytes maxL ret hh ∈ ws) (hinit : ∀ a' U, s.WarmedH U.vm → (Cond.initialized y.cls).before a' U = true) :
    vx_Back l R p e below s sargs y len W9 (PreOf R mc ms Pc) (PostOf Qc mc ms free) (vx_Post XC mc ms free) := by
  intro m meth c A g ig mk a X hg hsize hdg hW hn hp
  have h1 : (headSpec ws rm).pre.before a A.U = true := atoms_intro fun w hw => hws w hw _ _ X.warmed
  have h2 : (Cond.codeWith y bytes maxL ret hh).before a A.U = true := hws _ hcode _ _ X.warmed
  have h3 : (Cond.initialized y.cls).before a A.U = true := hinit _ _ X.warmed
  have h4 : A.cells + (headSpec ws rm).room.cells ≤ R.cells := by rw [show (headSpec ws rm).room.cells = mc from hrc]; exact hp.1
  have h5 : A.slots + (headSpec ws rm).room.slots ≤ R.slots := by rw [show (headSpec ws rm).room.slots = ms from hrs]; exact hp.2.1
  have hPc : Pc a (A.U.calling g mk a) := hblind _ _ _ _ hp.2.2
  obtain ⟨U, Ls, c0, s0⟩ := A
  dsimp only [Pt.U, Pt.locs, Pt.cells, Pt.slots] at h1 h2 h3 h4 h5 X hn hPc ⊢
  obtain ⟨m9, methY, cY, hn9, hmY, hcY, -, hlY, -⟩ := Cond.codeWith_spec h2
  cases Option.some.inj (hn9.symm.trans hn)
  obtain ⟨kY, hkY, -⟩ := className_of_methodNamed hn
  have hinitY : kY.init = .initialized := Cond.initialized_spec (findClass_of_methodNamed hn) hkY h3
  have h : At U g.method c below := by rw [hg]; exact X.here
  have hlocals9 : W9 + (maxL + 11) + (headSpec ws rm).room.locals ≤ R.locals := hlocals
  have happ : (headSpec ws rm).appliesLoose y e.platform (U.calling g mk a) = true :=
    Spec.appliesLoose_calling (g := g) h hdg hn hkY hinitY
      (X.room_calling (g := g) (R' := (headSpec ws rm).room) hsize hmY hcY hframes (by rw [hlY]; omega) h4 h5) h1
  obtain ⟨mid, hmid⟩ := h.above
  have hfr : (U.setTop g).frames = (.java g :: mid) ++ below := by rw [State.frames_setTop' g h.top, hmid]; rfl
  obtain ⟨o, s₂, hsteps, -, hend, hq⟩ := Steps.callFree hM p X.admits X.cas X.clock (acts := []) hfr happ hPc trivial
  have hq' : vx_Q Qc XC mc ms free a (U.calling g mk a) o s₂ := hq
  rw [State.frames_setTop' g h.top] at hend
  obtain ⟨g₀, hg0⟩ := Option.isSome_iff_exists.mp h.top
  obtain ⟨r, hr⟩ := State.topJava?_eq_some.mp hg0
  have hr' : (({ U with heap := s₂.heap, slotsUsed := s₂.slotsUsed } : State).setVm s₂.vm).frames = .java g₀ :: r := hr
  rcases hq' with ⟨hqc, L, hfe, hL⟩ | ⟨q, rfl, E, ce, L, hx, hce, hcv, hcl, hW₂, hsm, hL⟩
  · obtain ⟨⟨v, rfl⟩, hW₂, e2, q2, q3, q4, q5, q6⟩ := id hfe
    have e3 : s₂ = ({ (U.calling g mk a).setFrames s₂.frames with heap := s₂.heap, slotsUsed := s₂.slotsUsed } : State).setVm s₂.vm := by
      have : s₂ = ({ s₂ with vm := (U.calling g mk a).vm } : State).setVm s₂.vm := rfl
      rw [e2] at this
      exact this
    obtain ⟨c₂, i₂, len₂, hc₂, hd₂, hf₂⟩ := hend
    have hW' : U.WarmedH s₂.vm := hW₂
    have hcc : c₂ = c := by
      have h1 : s₂.code? g.method = U.code? g.method := by
        rw [State.code?_eq, State.code?_eq, hW'.alike.method?]
      exact Option.some.inj (hc₂.symm.trans (h1.trans h.code))
    subst hcc
    have hlen : len₂ = len := by rw [hdg] at hd₂; cases hd₂; rfl
    subst hlen
    have hs₂ : s₂ = (({ U with heap := s₂.heap, slotsUsed := s₂.slotsUsed } : State).setVm s₂.vm).setTop { g with pc := g.pc + len₂, stack := v.toList ++ g.stack } := by
      refine e3.trans ?_
      rw [hf₂, State.calling_eq h.top, State.setFrames_setFrames, State.setTop_of_frames _ hr', hr]
      rfl
    have hsame : U.sameButNew ({ U with heap := s₂.heap, slotsUsed := s₂.slotsUsed } : State) L mc ms := by
      refine ⟨?_, q2, q3, q4, q5, q6⟩
      obtain ⟨t, ht, -⟩ := State.frames_cons hr
      show ({ U with heap := s₂.heap, slotsUsed := s₂.slotsUsed } : State) = { U.setFrames U.frames with heap := s₂.heap, slotsUsed := s₂.slotsUsed }
      rw [State.setFrames_self ht]
    subst hg
    refine Or.inl ⟨v, ⟨(({ U with heap := s₂.heap, slotsUsed := s₂.slotsUsed } : State).setVm s₂.vm), Ls ++ L, c0 + mc, s0 + ms⟩,
      ⟨X.admits, X.cas, X.clock, X.frames, X.room, X.hears, X.method, X.code, (X.here.setHeapUsed s₂.heap s₂.slotsUsed).setVm hW'.alike, X.tail, State.WarmedH.trans X.warmed hW', X.limits, X.bytes, X.same.trans (hsame.setVm s.vm)⟩,
      ⟨g, mk, s₂, L, rfl, rfl, hqc, rfl, hL, rfl, rfl⟩, ?_⟩
    show Steps p.tables e below _ ((({ U with heap := s₂.heap, slotsUsed := s₂.slotsUsed } : State).setVm s₂.vm).setTop { g with pc := g.pc + len₂, stack := v.toList ++ g.stack })
    rw [← hs₂]
    exact hsteps
  · obtain ⟨e2, q2, q3, q4, q5, q6⟩ := id hsm
    have e3 : s₂ = ({ (U.calling g mk a).setFrames s₂.frames with heap := s₂.heap, slotsUsed := s₂.slotsUsed } : State).setVm s₂.vm := by
      have : s₂ = ({ s₂ with vm := (U.calling g mk a).vm } : State).setVm s₂.vm := rfl
      rw [e2] at this
      exact this
    have hf₂ : s₂.frames = .throwing q :: .java g :: U.frames.tail := hend
    have hW' : U.WarmedH s₂.vm := hW₂
    have hs₂ : s₂ = ((({ U with heap := s₂.heap, slotsUsed := s₂.slotsUsed } : State).setVm s₂.vm).setTop g).pushFrame (.throwing q) := by
      refine e3.trans ?_
      rw [hf₂, State.calling_eq h.top, State.setFrames_setFrames, State.pushFrame, State.frames_setTop _ hr', State.setTop_of_frames _ hr', State.setFrames_setFrames, hr]
      rfl
    have hsame : U.sameButNew ({ U with heap := s₂.heap, slotsUsed := s₂.slotsUsed } : State) L mc ms := by
      refine ⟨?_, q2, q3, q4, q5, q6⟩
      obtain ⟨t, ht, -⟩ := State.frames_cons hr
      show ({ U with heap := s₂.heap, slotsUsed := s₂.slotsUsed } : State) = { U.setFrames U.frames with heap := s₂.heap, slotsUsed := s₂.slotsUsed }
      rw [State.setFrames_self ht]
    subst hg
    refine Or.inr ⟨q, ⟨(({ U with heap := s₂.heap, slotsUsed := s₂.slotsUsed } : State).setVm s₂.vm), Ls ++ L, c0 + mc, s0 + ms⟩,
      ⟨X.admits, X.cas, X.clock, X.frames, X.room, X.hears, X.method, X.code, (X.here.setHeapUsed s₂.heap s₂.slotsUsed).setVm hW'.alike, X.tail, State.WarmedH.trans X.warmed hW', X.limits, X.bytes, X.same.trans (hsame.setVm s.vm)⟩,
      ⟨g, mk, s₂, L, E, ce, rfl, rfl, hx, hce, hcv, hcl, rfl, hL, rfl, rfl⟩, ?_⟩
    show Steps p.tables e below _ (((({ U with heap := s₂.heap, slotsUsed := s₂.slotsUsed } : State).setVm s₂.vm).setTop g).pushFrame (.throwing q))
    rw [← hs₂]
    exact hsteps
end
variable {p : Program} {l : Launch} {e : Env} {R : Room} {s : State} {m : MethodId} {args : Array Value} {below : List Frame} {meth : Method} {c : Code} {T : State} {H : Heap} {locs : List Loc} {cells slots : Nat}
theorem vx_callVX (X : Stand p l e R s m args below meth c T locs cells slots) (hexec : p.tables.exec = Jvm.exec) {own C : String} {index : Nat} {y : MethodName} {bytes : ByteArray} {maxL : Nat} {ret : Option FieldType} {hh : List (Nat × Nat × Nat × Nat)}
    (hown : s.vm.findClass own = some m.cls) (hlink : (Cond.methodLink own index y).before args s = true) (hinst : (Cond.instanceMethod y).before args s = true) (hsel : (Cond.selects C y y).before args s = true)
    (hcode : (Cond.codeWith y bytes maxL ret hh).before args s = true) (hy : y.cls ≠ "java/lang/invoke/MethodHandle" ∧ y.cls ≠ "java/lang/invoke/VarHandle")
    {W9 : Nat} {Pre : Pt → Array Value → Prop} {Post : Pt → Array Value → Option Value → Pt → Prop} {PostX : Pt → Array Value → Addr → Pt → Prop} (hK : vx_Back l R p e below s args y 3 W9 Pre Post PostX)
    {b : Addr} {cellB : Cell} (hcell : T.heap[b]? = some cellB) (hobj : cellB.vm.isStatics = false) (hcls : s.vm.findClass C = some cellB.cls)
    {g : JFrame} (hg : g.method = m) (hsize : g.locals.size = c.maxLocals) {argsL rest : List Value} (hlen : ∀ sig, parseMethodDescriptor y.desc = some sig → argsL.length = sig.parameters.length)
    (hstack : g.stack = argsL.reverse ++ .ref b :: rest) (hW : 2 * g.monitorRoom + (rest.map fun v => v.category).sum ≤ W9) (hdg : decode c.code g.pc = .ok (.invokevirtual index, 3))
    (hpre : ∀ vm₁, s.WarmedH vm₁ → Pre ⟨T.setVm vm₁, locs, cells, slots⟩ (Value.ref b :: argsL).toArray) :
    (∃ (v : Option Value) (vm₁ : Vm) (B : Pt), s.WarmedH vm₁ ∧ Stand p l e R s m args below meth c B.U B.locs B.cells B.slots ∧ Post ⟨T.setVm vm₁, locs, cells, slots⟩ (Value.ref b :: argsL).toArray v B ∧
      ∀ target, Steps p.tables e below (B.U.setTop { g with pc := g.pc + 3, stack := v.toList ++ rest }) target → Steps p.tables e below (T.setTop g) target) ∨
    (∃ (q : Addr) (vm₁ : Vm) (B : Pt), s.WarmedH vm₁ ∧ Stand p l e R s m args below meth c B.U B.locs B.cells B.slots ∧ PostX ⟨T.setVm vm₁, locs, cells, slots⟩ (Value.ref b :: argsL).toArray q B ∧
      Steps p.tables e below (T.setTop g) ((B.U.setTop { g with stack := rest }).pushFrame (.throwing q))) := by
  obtain ⟨mk, methM, hnamed, hmethM, hstM, habM⟩ := Cond.instanceMethod_spec hinst
  obtain ⟨m8, methM', cM, hn8, hmethM', -, -, -, -, -, -, hsigM⟩ := Cond.codeWith_spec hcode
  cases Option.some.inj (hn8.symm.trans hnamed)
  cases hmethM.symm.trans hmethM'
  obtain ⟨c2, r2, m2, q1, q2, q3, q4, kP, hkP, hkPi⟩ := Cond.selects_spec hsel
  cases hcls.symm.trans q1
  cases (State.methodFound?_of_named hnamed hy).symm.trans q2
  cases hnamed.symm.trans q3
  have hselP : selectMethod e.platform s.vm cellB.cls mk = .method mk := by rw [Launch.admits_selectMethod X.admits]; exact q4
  obtain ⟨vm₁, X₁, hstep₁⟩ := X.invokevirtual hexec hown hlink hnamed hmethM hstM hkP hkPi hy (a := b) (cell := cellB) hcell
    (fun z h => by rw [h] at hobj; cases hobj) hselP hmethM habM hkP hkPi (g := g) hg (argsL := argsL) (rest := rest) (hlen _ hsigM) hstack hdg
  rcases hK m meth c ⟨T.setVm vm₁, locs, cells, slots⟩ { g with stack := rest } (.invokevirtual index) mk (Value.ref b :: argsL).toArray X₁ hg hsize hdg hW (X₁.named hnamed) (hpre vm₁ X₁.warmed) with ⟨v, B, X', hpost, hsteps⟩ | ⟨q, B, X', hpost, hsteps⟩
  · exact Or.inl ⟨v, vm₁, B, X₁.warmed, X', hpost, fun target h => hstep₁ _ fun acts => by rw [doInvoke_state]; exact hsteps.trans h⟩
  · exact Or.inr ⟨q, vm₁, B, X₁.warmed, X', hpost, hstep₁ _ fun acts => by rw [doInvoke_state]; exact hsteps⟩
theorem vx_callSX (X : Stand p l e R s m args below meth c T locs cells slots) (hexec : p.tables.exec = Jvm.exec) {own : String} {index : Nat} {y : MethodName} {bytes : ByteArray} {maxL : Nat} {ret : Option FieldType} {hh : List (Nat × Nat × Nat × Nat)}
    (hown : s.vm.findClass own = some m.cls) (hlink : (Cond.methodLink own index y).before args s = true) (hstat : (Cond.static y).before args s = true) (hinit : (Cond.initialized y.cls).before args s = true)
    (hcode : (Cond.codeWith y bytes maxL ret hh).before args s = true) (hy : y.cls ≠ "java/lang/invoke/MethodHandle" ∧ y.cls ≠ "java/lang/invoke/VarHandle")
    {W9 : Nat} {Pre : Pt → Array Value → Prop} {Post : Pt → Array Value → Option Value → Pt → Prop} {PostX : Pt → Array Value → Addr → Pt → Prop} (hK : vx_Back l R p e below s args y 3 W9 Pre Post PostX)
    {g : JFrame} (hg : g.method = m) (hsize : g.locals.size = c.maxLocals) {argsL rest : List Value} (hlen : ∀ sig, parseMethodDescriptor y.desc = some sig → argsL.length = sig.parameters.length)
    (hstack : g.stack = argsL.reverse ++ rest) (hW : 2 * g.monitorRoom + (rest.map fun v => v.category).sum ≤ W9) (hdg : decode c.code g.pc = .ok (.invokestatic index, 3))
    (hpre : ∀ vm₁, s.WarmedH vm₁ → Pre ⟨T.setVm vm₁, locs, cells, slots⟩ argsL.toArray) :
    (∃ (v : Option Value) (vm₁ : Vm) (B : Pt), s.WarmedH vm₁ ∧ Stand p l e R s m args below meth c B.U B.locs B.cells B.slots ∧ Post ⟨T.setVm vm₁, locs, cells, slots⟩ argsL.toArray v B ∧
      ∀ target, Steps p.tables e below (B.U.setTop { g with pc := g.pc + 3, stack := v.toList ++ rest }) target → Steps p.tables e below (T.setTop g) target) ∨
    (∃ (q : Addr) (vm₁ : Vm) (B : Pt), s.WarmedH vm₁ ∧ Stand p l e R s m args below meth c B.U B.locs B.cells B.slots ∧ PostX ⟨T.setVm vm₁, locs, cells, slots⟩ argsL.toArray q B ∧
      Steps p.tables e below (T.setTop g) ((B.U.setTop { g with stack := rest }).pushFrame (.throwing q))) := by
  obtain ⟨mk, methM, cM, hnamed, hmethM, -, -, -, -, -, -, hsigM⟩ := Cond.codeWith_spec hcode
  have hstatic : methM.isStatic = true := Cond.static_spec hnamed hmethM hstat
  obtain ⟨kP, hkP, -⟩ := className_of_methodNamed hnamed
  have hinitP : kP.init = .initialized := Cond.initialized_spec (findClass_of_methodNamed hnamed) hkP hinit
  obtain ⟨vm₁, X₁, hstep₁⟩ := X.invokestatic hexec hown hlink hnamed hmethM hstatic hkP hinitP hy (g := g) hg (argsL := argsL) (rest := rest) (hlen _ hsigM) hstack hdg
  rcases hK m meth c ⟨T.setVm vm₁, locs, cells, slots⟩ { g with stack := rest } (.invokestatic index) mk argsL.toArray X₁ hg hsize hdg hW (X₁.named hnamed) (hpre vm₁ X₁.warmed) with ⟨v, B, X', hpost, hsteps⟩ | ⟨q, B, X', hpost, hsteps⟩
  · exact Or.inl ⟨v, vm₁, B, X₁.warmed, X', hpost, fun target h => hstep₁ _ fun acts => by rw [doInvoke_state]; exact hsteps.trans h⟩
  · exact Or.inr ⟨q, vm₁, B, X₁.warmed, X', hpost, hstep₁ _ fun acts => by rw [doInvoke_state]; exact hsteps⟩
theorem vx_callVW (X : Stand p l e R s m args below meth c T locs cells slots) (hexec : p.tables.exec = Jvm.exec) {own C : String} {index : Nat} {y : MethodName} {bytes : ByteArray} {maxL : Nat} {ret : Option FieldType} {hh : List (Nat × Nat × Nat × Nat)}
    (hown : s.vm.findClass own = some m.cls) (hlink : (Cond.methodLink own index y).before args s = true) (hinst : (Cond.instanceMethod y).before args s = true) (hsel : (Cond.selects C y y).before args s = true)
    (hcode : (Cond.codeWith y bytes maxL ret hh).before args s = true) (hy : y.cls ≠ "java/lang/invoke/MethodHandle" ∧ y.cls ≠ "java/lang/invoke/VarHandle")
    {W9 : Nat} {Pre : Pt → Array Value → Prop} {Post : Pt → Array Value → Option Value → Pt → Prop} (hK : Back l R p e below s args y 3 W9 Pre Post)
    {b : Addr} {cellB : Cell} (hcell : T.heap[b]? = some cellB) (hobj : cellB.vm.isStatics = false) (hcls : s.vm.findClass C = some cellB.cls)
    {g : JFrame} (hg : g.method = m) (hsize : g.locals.size = c.maxLocals) {argsL rest : List Value} (hlen : ∀ sig, parseMethodDescriptor y.desc = some sig → argsL.length = sig.parameters.length)
    (hstack : g.stack = argsL.reverse ++ .ref b :: rest) (hW : 2 * g.monitorRoom + (rest.map fun v => v.category).sum ≤ W9) (hdg : decode c.code g.pc = .ok (.invokevirtual index, 3))
    (hpre : ∀ vm₁, s.WarmedH vm₁ → Pre ⟨T.setVm vm₁, locs, cells, slots⟩ (Value.ref b :: argsL).toArray) :
    ∃ (v : Option Value) (vm₁ : Vm) (B : Pt), s.WarmedH vm₁ ∧ Stand p l e R s m args below meth c B.U B.locs B.cells B.slots ∧ Post ⟨T.setVm vm₁, locs, cells, slots⟩ (Value.ref b :: argsL).toArray v B ∧
      ∀ target, Steps p.tables e below (B.U.setTop { g with pc := g.pc + 3, stack := v.toList ++ rest }) target → Steps p.tables e below (T.setTop g) target := by
  obtain ⟨mk, methM, hnamed, hmethM, hstM, habM⟩ := Cond.instanceMethod_spec hinst
  obtain ⟨m8, methM', cM, hn8, hmethM', -, -, -, -, -, -, hsigM⟩ := Cond.codeWith_spec hcode
  cases Option.some.inj (hn8.symm.trans hnamed)
  cases hmethM.symm.trans hmethM'
  obtain ⟨c2, r2, m2, q1, q2, q3, q4, kP, hkP, hkPi⟩ := Cond.selects_spec hsel
  cases hcls.symm.trans q1
  cases (State.methodFound?_of_named hnamed hy).symm.trans q2
  cases hnamed.symm.trans q3
  have hselP : selectMethod e.platform s.vm cellB.cls mk = .method mk := by rw [Launch.admits_selectMethod X.admits]; exact q4
  obtain ⟨vm₁, X₁, hstep₁⟩ := X.invokevirtual hexec hown hlink hnamed hmethM hstM hkP hkPi hy (a := b) (cell := cellB) hcell
    (fun z h => by rw [h] at hobj; cases hobj) hselP hmethM habM hkP hkPi (g := g) hg (argsL := argsL) (rest := rest) (hlen _ hsigM) hstack hdg
  obtain ⟨v, B, X', hpost, hsteps⟩ := hK m meth c ⟨T.setVm vm₁, locs, cells, slots⟩ { g with stack := rest } (.invokevirtual index) mk (Value.ref b :: argsL).toArray X₁ hg hsize hdg hW (X₁.named hnamed) (hpre vm₁ X₁.warmed)
  exact ⟨v, vm₁, B, X₁.warmed, X', hpost, fun target h => hstep₁ _ fun acts => by rw [doInvoke_state]; exact hsteps.trans h⟩
abbrev vx_CVW (R : Room) (s : State) (args : Array Value) (own C : String) (index : Nat) (y : MethodName) (bytes : ByteArray) (maxL : Nat) (ret : Option FieldType) (hh : List (Nat × Nat × Nat × Nat)) (ws : List Cond) (rm : Room) (mc ms n : Nat) : Prop :=
  (rm.cells = mc ∧ rm.slots = ms ∧ rm.frames + 1 ≤ R.frames ∧ 8 + (maxL + 11) + rm.locals ≤ R.locals ∧ (∀ w ∈ ws, ∀ (a' : Array Value) (U : State), s.WarmedH U.vm → w.before a' U = true) ∧ Cond.codeWith y bytes maxL ret hh ∈ ws) ∧
  (Cond.codeWith y bytes maxL ret hh).before args s = true ∧ (Cond.initialized y.cls).before args s = true ∧ (y.cls ≠ "java/lang/invoke/MethodHandle" ∧ y.cls ≠ "java/lang/invoke/VarHandle") ∧
  (∀ sig, parseMethodDescriptor y.desc = some sig → n = sig.parameters.length) ∧ (Cond.methodLink own index y).before args s = true ∧ (Cond.instanceMethod y).before args s = true ∧ (Cond.selects C y y).before args s = true
theorem vx_cwVW {own C : String} {index maxL mc ms : Nat} {y : MethodName} {bytes : ByteArray} {ret : Option FieldType} {hh : List (Nat × Nat × Nat × Nat)} {Ts ws ws' : List Cond} {rm : Room} (n : Nat) (ht : ∀ w ∈ Ts, w.before args s = true) (hT : GoodIn Ts (wsV own index C y ws)) (hw : ws = Cond.codeWith y bytes maxL ret hh :: ws') (hrc : rm.cells = mc) (hrs : rm.slots = ms)
    (hd : y.cls = C ∧ y.cls ≠ "java/lang/invoke/MethodHandle" ∧ y.cls ≠ "java/lang/invoke/VarHandle" ∧ (parseMethodDescriptor y.desc).map (fun d => d.parameters.length) = some n) (hR : rm.frames + 1 ≤ R.frames ∧ 8 + (maxL + 11) + rm.locals ≤ R.locals) :
    vx_CVW R s args own C index y bytes maxL ret hh ws rm mc ms n := by
  obtain ⟨hC, hd⟩ := hd
  subst hC
  have ok : ∀ w ∈ wsV own index y.cls y ws, w.before args s = true := fun w h => ht w (hT w h).1
  have hG : GoodIn Ts ws := fun w h => hT w (by unfold wsV; exact List.mem_append_right _ h)
  have hc : Cond.codeWith y bytes maxL ret hh ∈ ws := by rw [hw]; exact List.mem_cons_self
  refine ⟨⟨hrc, hrs, hR.1, hR.2, pay_in ht hG, hc⟩, ht _ (hG _ hc).1, ok _ (by simp [wsV]), ⟨hd.1, hd.2.1⟩, fun sig h => ?_, ok _ (by simp [wsV]), ok _ (by simp [wsV]), ok _ (by simp [wsV])⟩
  have h2 := hd.2.2
  rw [h] at h2
  exact (Option.some.inj h2).symm
theorem vx_runVW {y : MethodName} {bytes cc : ByteArray} {maxL nL mc ms n index : Nat} {ret : Option FieldType} {hh : List (Nat × Nat × Nat × Nat)} {ws : List Cond} {rm : Room} {Pc : Array Value → State → Prop} {Qc : Array Value → State → Outcome → State → Prop} {free : Addr → Prop} {Ts : List Cond} {own C : String} {b : Addr} {As rest : List Value} {g : JFrame}
    (S : CallFix p m c cc nL s args Ts own) (hM : Met l y ws rm Pc Qc mc ms free) (cw : vx_CVW R s args own C index y bytes maxL ret hh ws rm mc ms n) (hp : PreV s H C b Pc As)
    (hg : g.method = m) (hn : As.length = n) (hsize : g.locals.size = nL) (hstack : g.stack = As.reverse ++ .ref b :: rest) (hW : 2 * g.monitorRoom + (rest.map fun v => v.category).sum ≤ 8) (hdg : decode cc g.pc = .ok (.invokevirtual index, 3)) (hf : cells + mc ≤ R.cells ∧ slots + ms ≤ R.slots) :
    va_Run p l e R s m args below meth c H locs cells slots mc ms g rest (Qc (Value.ref b :: As).toArray) free := by
  obtain ⟨⟨hrc, hrs, hfr, hlo, hws, hcw⟩, hcode, hini, hy, hlen, hl, hin, hse⟩ := cw
  have hK : Back l R p e below s args y 3 8 (PreOf R mc ms Pc) (PostOf Qc mc ms free) := va_backW (hh := hh) (bytes := bytes) (maxL := maxL) (ret := ret) hM hp.1 hrc hrs hfr hlo hws hcw (fun a' U hW => word_at hW (Or.inl (by first | rfl | simp [Cond.onTables, Cond.keeps, Cond.steady])) hini)
  obtain ⟨hx, hb, hml, ho, -⟩ := S
  obtain ⟨-, ⟨cellB, hcB, hoB, hclB⟩, hPc⟩ := hp
  intro T hT X
  obtain ⟨v, vm₁, ⟨U', l2, c2, s2⟩, hW₁, X', ⟨g', mk, t, L, e1, e2, hq, h1, hL, h2, h3⟩, st⟩ := vx_callVW X hx (C := C) (hh := hh) (bytes := bytes) (maxL := maxL) (ret := ret) ho hl hin hse hcode hy hK (by rw [hT]; exact hcB) hoB hclB hg (hsize.trans hml.symm) (argsL := As) (rest := rest) (fun sig h => hn.trans (hlen sig h)) hstack hW (by rw [hb]; exact hdg)
    (fun vm₁ hW₁ => ⟨hf.1, hf.2, hPc (T.setVm vm₁) hT hW₁⟩)
  dsimp only [Pt.U, Pt.locs, Pt.cells, Pt.slots] at X' e1 e2 h1 h2 h3 st
  subst h1; subst h2; subst h3
  exact ⟨v, (T.setVm vm₁).calling g' mk (Value.ref b :: As).toArray, t, U', L, hT, X', hL, e1, e2, hq, st⟩
section
variable {y : MethodName} {bytes cc : ByteArray} {maxL nL mc ms n index : Nat} {ret : Option FieldType} {ws : List Cond} {rm : Room} {Pc : Array Value → State → Prop} {Qc : Array Value → State → Outcome → State → Prop} {XC : String → State → State → Prop} {free : Addr → Prop} {Ts : List Cond} {own C : String} {b : Addr} {As rest : List Value} {g : JFrame}
theorem vx_runVX {hh : List (Nat × Nat × Nat × Nat)} (S : CallFix p m c cc nL s args Ts own) (hM : vx_Met l y ws rm Pc Qc XC mc ms free) (cw : vx_CVW R s args own C index y bytes maxL ret hh ws rm mc ms n) (hp : PreV s H C b Pc As)
    (hg : g.method = m) (hn : As.length = n) (hsize : g.locals.size = nL) (hstack : g.stack = As.reverse ++ .ref b :: rest) (hW : 2 * g.monitorRoom + (rest.map fun v => v.category).sum ≤ 8) (hdg : decode cc g.pc = .ok (.invokevirtual index, 3)) (hf : cells + mc ≤ R.cells ∧ slots + ms ≤ R.slots) :
    vx_Run p l e R s m args below meth c H locs cells slots mc ms g rest (Qc (Value.ref b :: As).toArray) XC free := by
  obtain ⟨⟨hrc, hrs, hfr, hlo, hws, hcw⟩, hcode, hini, hy, hlen, hl, hin, hse⟩ := cw
  have hK : vx_Back l R p e below s args y 3 8 (PreOf R mc ms Pc) (PostOf Qc mc ms free) (vx_Post XC mc ms free) := vx_backW (hh := hh) (bytes := bytes) (maxL := maxL) (ret := ret) hM hp.1 hrc hrs hfr hlo hws hcw (fun a' U hW => word_at hW (Or.inl (by first | rfl | simp [Cond.onTables, Cond.keeps, Cond.steady])) hini)
  obtain ⟨hx, hb, hml, ho, -⟩ := S
  obtain ⟨-, ⟨cellB, hcB, hoB, hclB⟩, hPc⟩ := hp
  intro T hT X
  rcases vx_callVX X hx (C := C) (hh := hh) (bytes := bytes) (maxL := maxL) (ret := ret) ho hl hin hse hcode hy hK (by rw [hT]; exact hcB) hoB hclB hg (hsize.trans hml.symm) (argsL := As) (rest := rest) (fun sig h => hn.trans (hlen sig h)) hstack hW (by rw [hb]; exact hdg)
    (fun vm₁ hW₁ => ⟨hf.1, hf.2, hPc (T.setVm vm₁) hT hW₁⟩) with ⟨v, vm₁, ⟨U', l2, c2, s2⟩, hW₁, X', ⟨g', mk, t, L, e1, e2, hq, h1, hL, h2, h3⟩, st⟩ | ⟨q, vm₁, ⟨U', l2, c2, s2⟩, hW₁, X', ⟨g', mk, t, L, E, ce, e1, e2, hq, hce, hcv, hcl, h1, hL, h2, h3⟩, st⟩
  · dsimp only [Pt.U, Pt.locs, Pt.cells, Pt.slots] at X' e1 e2 h1 h2 h3 st
    subst h1; subst h2; subst h3
    exact Or.inl ⟨v, (T.setVm vm₁).calling g' mk (Value.ref b :: As).toArray, t, U', L, hT, X', hL, e1, e2, hq, st⟩
  · dsimp only [Pt.U, Pt.locs, Pt.cells, Pt.slots] at X' e1 e2 h1 h2 h3 st hcl
    subst h1; subst h2; subst h3
    exact Or.inr ⟨q, (T.setVm vm₁).calling g' mk (Value.ref b :: As).toArray, t, U', L, E, ce, hT, X', hL, e1, e2, hq, hce, hcv, vx_cls hW₁ hcl, st⟩
theorem vx_runSX {hh : List (Nat × Nat × Nat × Nat)} (S : CallFix p m c cc nL s args Ts own) (hM : vx_Met l y ws rm Pc Qc XC mc ms free) (cw : vx_CSW R s args own index y bytes maxL ret hh ws rm mc ms n) (hp : PreS s H Pc As)
    (hg : g.method = m) (hn : As.length = n) (hsize : g.locals.size = nL) (hstack : g.stack = As.reverse ++ rest) (hW : 2 * g.monitorRoom + (rest.map fun v => v.category).sum ≤ 8) (hdg : decode cc g.pc = .ok (.invokestatic index, 3)) (hf : cells + mc ≤ R.cells ∧ slots + ms ≤ R.slots) :
    vx_Run p l e R s m args below meth c H locs cells slots mc ms g rest (Qc As.toArray) XC free := by
  obtain ⟨⟨hrc, hrs, hfr, hlo, hws, hcw⟩, hcode, hini, hy, hlen, hl, hstt⟩ := cw
  have hK : vx_Back l R p e below s args y 3 8 (PreOf R mc ms Pc) (PostOf Qc mc ms free) (vx_Post XC mc ms free) := vx_backW (hh := hh) (bytes := bytes) (maxL := maxL) (ret := ret) hM hp.1 hrc hrs hfr hlo hws hcw (fun a' U hW => word_at hW (Or.inl (by first | rfl | simp [Cond.onTables, Cond.keeps, Cond.steady])) hini)
  obtain ⟨hx, hb, hml, ho, -⟩ := S
  intro T hT X
  rcases vx_callSX X hx (hh := hh) (bytes := bytes) (maxL := maxL) (ret := ret) ho hl hstt hini hcode hy hK hg (hsize.trans hml.symm) (argsL := As) (rest := rest) (fun sig h => hn.trans (hlen sig h)) hstack hW (by rw [hb]; exact hdg)
    (fun vm₁ hW₁ => ⟨hf.1, hf.2, hp.2 (T.setVm vm₁) hT hW₁⟩) with ⟨v, vm₁, ⟨U', l2, c2, s2⟩, hW₁, X', ⟨g', mk, t, L, e1, e2, hq, h1, hL, h2, h3⟩, st⟩ | ⟨q, vm₁, ⟨U', l2, c2, s2⟩, hW₁, X', ⟨g', mk, t, L, E, ce, e1, e2, hq, hce, hcv, hcl, h1, hL, h2, h3⟩, st⟩
  · dsimp only [Pt.U, Pt.locs, Pt.cells, Pt.slots] at X' e1 e2 h1 h2 h3 st
    subst h1; subst h2; subst h3
    exact Or.inl ⟨v, (T.setVm vm₁).calling g' mk As.toArray, t, U', L, hT, X', hL, e1, e2, hq, st⟩
  · dsimp only [Pt.U, Pt.locs, Pt.cells, Pt.slots] at X' e1 e2 h1 h2 h3 st hcl
    subst h1; subst h2; subst h3
    exact Or.inr ⟨q, (T.setVm vm₁).calling g' mk As.toArray, t, U', L, E, ce, hT, X', hL, e1, e2, hq, hce, hcv, vx_cls hW₁ hcl, st⟩
end
end VXH
theorem vx_ofWH {l : Launch} {y : MethodName} {ws ws' : List Cond} {rm : Room} {Pc : Array Value → State → Prop} {Qc : Array Value → State → Outcome → State → Prop} {XC : String → State → State → Prop} {mc ms : Nat} {free : Addr → Prop} {cc : ByteArray} {maxL : Nat} {ret : Option FieldType} {hh : List (Nat × Nat × Nat × Nat)}
    (hy : plainName y.cls = true) (hw : ws = Cond.codeWith y cc maxL ret hh :: ws')
    (body : ∀ p e s m args below meth c s₁, BodyLoose p l y (headSpec ws rm) cc maxL ret e s m args below meth c s₁ → c.maxLocals = maxL → Pc args s →
      W p l e (headSpec ws rm).room s m args below meth c s.heap [] 0 0 (vx_MQ below Qc XC args s mc ms free) (entryFrame m args maxL)) : vx_Met l y ws rm Pc Qc XC mc ms free := by
  refine MetFree.of_bodyS (code := cc) (maxLocals := maxL) (ret := ret) hy ?_ ?_
  · intro args s m h hn
    obtain ⟨m9, meth, c, hn9, h1, h2, h3, h4, -, h5, h6, -⟩ := Cond.codeWith_spec (atoms_spec (ws := ws) h _ (by rw [hw]; exact List.mem_cons_self))
    cases hn.symm.trans hn9
    exact ⟨meth, c, h1, h2, h3, h4, h5, h6⟩
  · intro p e s m args below meth c s₁ B hml hP _
    have hh0 : s₁.heap = s.heap := by rw [B.state]; rfl
    obtain ⟨t, a1, o, b1, b2, b3⟩ := body p e s m args below meth c s₁ B hml hP s₁ hh0 (Stand.of_body B)
    exact ⟨t, o, a1, b1, b2, b3⟩
/-! ===== END ===== -/
end
section
def RX0 : String := "MillstreamPayments$Accounts"
def TX0 : u_T := fun k => match k with
  | 0 => ("MillstreamPayments$Accounts", "book", "LMillstreamPayments$Book;", true)
  | 1 => ("MillstreamPayments$Accounts", "balances", "LMillstreamPayments$Row;", true)
  | 2 => ("MillstreamPayments$Accounts", "lines", "LMillstreamPayments$Row;", true)
  | 3 => ("MillstreamPayments$Accounts", "paidToday", "LMillstreamPayments$Row;", true)
  | _ => ("MillstreamPayments$Accounts", "limits", "LMillstreamPayments$Row;", true)
def tyX0 : Nat → FieldType := fun k => match k with
  | 0 => .object "MillstreamPayments$Book"
  | 1 => .object "MillstreamPayments$Row"
  | 2 => .object "MillstreamPayments$Row"
  | 3 => .object "MillstreamPayments$Row"
  | _ => .object "MillstreamPayments$Row"
abbrev wsX00 : List Cond := u_ws RX0 TX0 5
theorem nmX0 : ∀ a, a < 5 → ∀ b, b < 5 → a ≠ b → (TX0 a).2.1 ≠ (TX0 b).2.1 := by decide +kernel
theorem tyX0_ok : ∀ k, k < 5 → parseFieldDescriptor (TX0 k).2.2.1 = some (tyX0 k) := by decide +kernel
abbrev cX0_init : ByteArray := prog_2_method_1_code
def yX0_init : MethodName := ⟨RX0, "<init>", "()V"⟩
abbrev cX0_balanceOf : ByteArray := prog_2_method_2_code
def yX0_balanceOf : MethodName := ⟨RX0, "balanceOf", "(II)J"⟩
abbrev cX0_paidOf : ByteArray := prog_2_method_3_code
def yX0_paidOf : MethodName := ⟨RX0, "paidOf", "(I)J"⟩
abbrev cX0_changeLine : ByteArray := prog_2_method_4_code
def yX0_changeLine : MethodName := ⟨RX0, "changeLine", "(III)I"⟩
abbrev cX0_changeLimit : ByteArray := prog_2_method_5_code
def yX0_changeLimit : MethodName := ⟨RX0, "changeLimit", "(II)I"⟩
abbrev cX0_move : ByteArray := prog_2_method_6_code
def yX0_move : MethodName := ⟨RX0, "move", "(IIIJI)V"⟩
abbrev cX0_pay : ByteArray := prog_2_method_7_code
def yX0_pay : MethodName := ⟨RX0, "pay", "(LMillstreamPayments$Terms;I)V"⟩
abbrev cX0_isTooLowBy : ByteArray := prog_2_method_8_code
def yX0_isTooLowBy : MethodName := ⟨RX0, "isTooLowBy", "(IJ)Z"⟩
abbrev cX0_isPassedBy : ByteArray := prog_2_method_9_code
def yX0_isPassedBy : MethodName := ⟨RX0, "isPassedBy", "(IJ)Z"⟩
abbrev cX0_beginDay : ByteArray := prog_2_method_10_code
def yX0_beginDay : MethodName := ⟨RX0, "beginDay", "()V"⟩
def RX1 : String := "MillstreamPayments$Advices"
def TX1 : u_T := fun k => match k with
  | 0 => ("MillstreamPayments$Advices", "told", "LMillstreamPayments$Row;", true)
  | 1 => ("MillstreamPayments$Advices", "counts", "LMillstreamPayments$Row;", true)
  | 2 => ("MillstreamPayments$Advices", "taken", "LMillstreamPayments$Row;", true)
  | _ => ("MillstreamPayments$Advices", "most", "LMillstreamPayments$Row;", true)
def tyX1 : Nat → FieldType := fun k => match k with
  | 0 => .object "MillstreamPayments$Row"
  | 1 => .object "MillstreamPayments$Row"
  | 2 => .object "MillstreamPayments$Row"
  | _ => .object "MillstreamPayments$Row"
abbrev wsX10 : List Cond := u_ws RX1 TX1 4
theorem nmX1 : ∀ a, a < 4 → ∀ b, b < 4 → a ≠ b → (TX1 a).2.1 ≠ (TX1 b).2.1 := by decide +kernel
theorem tyX1_ok : ∀ k, k < 4 → parseFieldDescriptor (TX1 k).2.2.1 = some (tyX1 k) := by decide +kernel
abbrev cX1_init : ByteArray := prog_3_method_1_code
def yX1_init : MethodName := ⟨RX1, "<init>", "()V"⟩
abbrev cX1_tell : ByteArray := prog_3_method_2_code
def yX1_tell : MethodName := ⟨RX1, "tell", "(II)V"⟩
abbrev cX1_takeNext : ByteArray := prog_3_method_3_code
def yX1_takeNext : MethodName := ⟨RX1, "takeNext", "(I)I"⟩
abbrev cX1_mostTaken : ByteArray := prog_3_method_4_code
def yX1_mostTaken : MethodName := ⟨RX1, "mostTaken", "(I)I"⟩
abbrev cX1_startFrom : ByteArray := prog_3_method_5_code
def yX1_startFrom : MethodName := ⟨RX1, "startFrom", "(II)I"⟩
def RX2 : String := "MillstreamPayments$Batch"
def TX2 : u_T := fun k => match k with
  | 0 => ("MillstreamPayments$Batch", "members", "LMillstreamPayments$Row;", true)
  | 1 => ("MillstreamPayments$Batch", "changes", "LMillstreamPayments$Row;", true)
  | _ => ("MillstreamPayments$Batch", "flows", "LMillstreamPayments$Row;", true)
def tyX2 : Nat → FieldType := fun k => match k with
  | 0 => .object "MillstreamPayments$Row"
  | 1 => .object "MillstreamPayments$Row"
  | _ => .object "MillstreamPayments$Row"
abbrev wsX20 : List Cond := u_ws RX2 TX2 3
theorem nmX2 : ∀ a, a < 3 → ∀ b, b < 3 → a ≠ b → (TX2 a).2.1 ≠ (TX2 b).2.1 := by decide +kernel
theorem tyX2_ok : ∀ k, k < 3 → parseFieldDescriptor (TX2 k).2.2.1 = some (tyX2 k) := by decide +kernel
abbrev cX2_init : ByteArray := prog_4_method_1_code
def yX2_init : MethodName := ⟨RX2, "<init>", "()V"⟩
abbrev cX2_clear : ByteArray := prog_4_method_2_code
def yX2_clear : MethodName := ⟨RX2, "clear", "()V"⟩
abbrev cX2_has : ByteArray := prog_4_method_3_code
def yX2_has : MethodName := ⟨RX2, "has", "(LMillstreamPayments$Payment;)Z"⟩
abbrev cX2_put : ByteArray := prog_4_method_4_code
def yX2_put : MethodName := ⟨RX2, "put", "(LMillstreamPayments$Payment;)V"⟩
abbrev cX2_drop : ByteArray := prog_4_method_5_code
def yX2_drop : MethodName := ⟨RX2, "drop", "(LMillstreamPayments$Payment;)V"⟩
abbrev cX2_count : ByteArray := prog_4_method_6_code
def yX2_count : MethodName := ⟨RX2, "count", "(LMillstreamPayments$Terms;J)V"⟩
abbrev cX2_lowestTooLow : ByteArray := prog_4_method_7_code
def yX2_lowestTooLow : MethodName := ⟨RX2, "lowestTooLow", "(LMillstreamPayments$Accounts;I)I"⟩
abbrev cX2_passesLimit : ByteArray := prog_4_method_8_code
def yX2_passesLimit : MethodName := ⟨RX2, "passesLimit", "(LMillstreamPayments$Accounts;III)Z"⟩
abbrev cX2_isWithinBounds : ByteArray := prog_4_method_9_code
def yX2_isWithinBounds : MethodName := ⟨RX2, "isWithinBounds", "(LMillstreamPayments$Accounts;I)Z"⟩
def RX3 : String := "MillstreamPayments$Book"
def TX3 : u_T := fun k => match k with
  | _ => ("MillstreamPayments$Book", "kept", "Ljava/util/ArrayList;", true)
def tyX3 : Nat → FieldType := fun k => match k with
  | _ => .object "java/util/ArrayList"
abbrev wsX30 : List Cond := u_ws RX3 TX3 1
theorem nmX3 : ∀ a, a < 1 → ∀ b, b < 1 → a ≠ b → (TX3 a).2.1 ≠ (TX3 b).2.1 := by decide +kernel
theorem tyX3_ok : ∀ k, k < 1 → parseFieldDescriptor (TX3 k).2.2.1 = some (tyX3 k) := by decide +kernel
abbrev cX3_init : ByteArray := prog_5_method_1_code
def yX3_init : MethodName := ⟨RX3, "<init>", "()V"⟩
abbrev cX3_count : ByteArray := prog_5_method_2_code
def yX3_count : MethodName := ⟨RX3, "count", "()I"⟩
abbrev cX3_find : ByteArray := prog_5_method_3_code
def yX3_find : MethodName := ⟨RX3, "find", "(I)LMillstreamPayments$Entry;"⟩
abbrev cX3_keep : ByteArray := prog_5_method_4_code
def yX3_keep : MethodName := ⟨RX3, "keep", "(LMillstreamPayments$Entry;)V"⟩
abbrev cX3_sumOf : ByteArray := prog_5_method_5_code
def yX3_sumOf : MethodName := ⟨RX3, "sumOf", "(II)J"⟩
def RX4 : String := "MillstreamPayments$Calendar"
def TX4 : u_T := fun k => match k with
  | 0 => ("MillstreamPayments$Calendar", "day", "I", false)
  | _ => ("MillstreamPayments$Calendar", "holidays", "LMillstreamPayments$Row;", true)
def tyX4 : Nat → FieldType := fun k => match k with
  | 0 => .int
  | _ => .object "MillstreamPayments$Row"
abbrev wsX40 : List Cond := u_ws RX4 TX4 2
theorem nmX4 : ∀ a, a < 2 → ∀ b, b < 2 → a ≠ b → (TX4 a).2.1 ≠ (TX4 b).2.1 := by decide +kernel
theorem tyX4_ok : ∀ k, k < 2 → parseFieldDescriptor (TX4 k).2.2.1 = some (tyX4 k) := by decide +kernel
abbrev cX4_init : ByteArray := prog_6_method_1_code
def yX4_init : MethodName := ⟨RX4, "<init>", "()V"⟩
abbrev cX4_changeHoliday : ByteArray := prog_6_method_2_code
def yX4_changeHoliday : MethodName := ⟨RX4, "changeHoliday", "(IIZ)V"⟩
abbrev cX4_isOpen : ByteArray := prog_6_method_3_code
def yX4_isOpen : MethodName := ⟨RX4, "isOpen", "(II)Z"⟩
abbrev cX4_isOpenToday : ByteArray := prog_6_method_4_code
def yX4_isOpenToday : MethodName := ⟨RX4, "isOpenToday", "(I)Z"⟩
def RX5 : String := "MillstreamPayments$Entry"
def TX5 : u_T := fun k => match k with
  | 0 => ("MillstreamPayments$Entry", "from", "I", true)
  | 1 => ("MillstreamPayments$Entry", "to", "I", true)
  | 2 => ("MillstreamPayments$Entry", "currency", "I", true)
  | 3 => ("MillstreamPayments$Entry", "amount", "J", true)
  | _ => ("MillstreamPayments$Entry", "payment", "I", true)
def tyX5 : Nat → FieldType := fun k => match k with
  | 0 => .int
  | 1 => .int
  | 2 => .int
  | 3 => .long
  | _ => .int
abbrev wsX50 : List Cond := u_ws RX5 TX5 5
theorem nmX5 : ∀ a, a < 5 → ∀ b, b < 5 → a ≠ b → (TX5 a).2.1 ≠ (TX5 b).2.1 := by decide +kernel
theorem tyX5_ok : ∀ k, k < 5 → parseFieldDescriptor (TX5 k).2.2.1 = some (tyX5 k) := by decide +kernel
abbrev cX5_init : ByteArray := prog_7_method_1_code
def yX5_init : MethodName := ⟨RX5, "<init>", "(IIIJI)V"⟩
abbrev cX5_part : ByteArray := prog_7_method_2_code
def yX5_part : MethodName := ⟨RX5, "part", "(I)J"⟩
def RX6 : String := "MillstreamPayments$Exchange"
def TX6 : u_T := fun k => match k with
  | 0 => ("MillstreamPayments$Exchange", "calendar", "LMillstreamPayments$Calendar;", true)
  | 1 => ("MillstreamPayments$Exchange", "accounts", "LMillstreamPayments$Accounts;", true)
  | 2 => ("MillstreamPayments$Exchange", "register", "LMillstreamPayments$Register;", true)
  | 3 => ("MillstreamPayments$Exchange", "advices", "LMillstreamPayments$Advices;", true)
  | 4 => ("MillstreamPayments$Exchange", "outages", "LMillstreamPayments$Row;", true)
  | 5 => ("MillstreamPayments$Exchange", "listed", "LMillstreamPayments$Row;", true)
  | 6 => ("MillstreamPayments$Exchange", "doubles", "I", false)
  | _ => ("MillstreamPayments$Exchange", "batch", "LMillstreamPayments$Batch;", true)
def tyX6 : Nat → FieldType := fun k => match k with
  | 0 => .object "MillstreamPayments$Calendar"
  | 1 => .object "MillstreamPayments$Accounts"
  | 2 => .object "MillstreamPayments$Register"
  | 3 => .object "MillstreamPayments$Advices"
  | 4 => .object "MillstreamPayments$Row"
  | 5 => .object "MillstreamPayments$Row"
  | 6 => .int
  | _ => .object "MillstreamPayments$Batch"
abbrev wsX60 : List Cond := u_ws RX6 TX6 8
theorem nmX6 : ∀ a, a < 8 → ∀ b, b < 8 → a ≠ b → (TX6 a).2.1 ≠ (TX6 b).2.1 := by decide +kernel
theorem tyX6_ok : ∀ k, k < 8 → parseFieldDescriptor (TX6 k).2.2.1 = some (tyX6 k) := by decide +kernel
abbrev cX6_init : ByteArray := prog_8_method_1_code
def yX6_init : MethodName := ⟨RX6, "<init>", "()V"⟩
abbrev cX6_bringIn : ByteArray := prog_8_method_2_code
def yX6_bringIn : MethodName := ⟨RX6, "bringIn", "(LMillstreamPayments$Terms;)I"⟩
abbrev cX6_termsBack : ByteArray := prog_8_method_3_code
def yX6_termsBack : MethodName := ⟨RX6, "termsBack", "(LMillstreamPayments$Terms;)LMillstreamPayments$Terms;"⟩
abbrev cX6_letEnter : ByteArray := prog_8_method_4_code
def yX6_letEnter : MethodName := ⟨RX6, "letEnter", "(LMillstreamPayments$Payment;)V"⟩
abbrev cX6_holdPaymentsFor : ByteArray := prog_8_method_5_code
def yX6_holdPaymentsFor : MethodName := ⟨RX6, "holdPaymentsFor", "(I)I"⟩
abbrev cX6_runQueues : ByteArray := prog_8_method_6_code
def yX6_runQueues : MethodName := ⟨RX6, "runQueues", "()I"⟩
abbrev cX6_settleFirst : ByteArray := prog_8_method_7_code
def yX6_settleFirst : MethodName := ⟨RX6, "settleFirst", "(II)I"⟩
abbrev cX6_mayMove : ByteArray := prog_8_method_8_code
def yX6_mayMove : MethodName := ⟨RX6, "mayMove", "(LMillstreamPayments$Payment;)Z"⟩
abbrev cX6_settleMost : ByteArray := prog_8_method_9_code
def yX6_settleMost : MethodName := ⟨RX6, "settleMost", "(II)I"⟩
abbrev cX6_nextToTakeOut : ByteArray := prog_8_method_10_code
def yX6_nextToTakeOut : MethodName := ⟨RX6, "nextToTakeOut", "(IZ)LMillstreamPayments$Payment;"⟩
abbrev cX6_lastInBatch : ByteArray := prog_8_method_11_code
def yX6_lastInBatch : MethodName := ⟨RX6, "lastInBatch", "(IIZ)LMillstreamPayments$Payment;"⟩
abbrev cX6_settleBatch : ByteArray := prog_8_method_12_code
def yX6_settleBatch : MethodName := ⟨RX6, "settleBatch", "()I"⟩
abbrev cX6_closeDay : ByteArray := prog_8_method_13_code
def yX6_closeDay : MethodName := ⟨RX6, "closeDay", "()I"⟩
abbrev cX6_giveBackWhatMayNotStay : ByteArray := prog_8_method_14_code
def yX6_giveBackWhatMayNotStay : MethodName := ⟨RX6, "giveBackWhatMayNotStay", "()V"⟩
abbrev cX6_chargeBanks : ByteArray := prog_8_method_15_code
def yX6_chargeBanks : MethodName := ⟨RX6, "chargeBanks", "()V"⟩
abbrev cX6_charge : ByteArray := prog_8_method_16_code
def yX6_charge : MethodName := ⟨RX6, "charge", "(IIJ)V"⟩
abbrev cX6_letWaitingEnter : ByteArray := prog_8_method_17_code
def yX6_letWaitingEnter : MethodName := ⟨RX6, "letWaitingEnter", "()V"⟩
def RX7 : String := "MillstreamPayments$Payment"
def TX7 : u_T := fun k => match k with
  | 0 => ("MillstreamPayments$Payment", "number", "I", true)
  | 1 => ("MillstreamPayments$Payment", "terms", "LMillstreamPayments$Terms;", true)
  | 2 => ("MillstreamPayments$Payment", "state", "I", false)
  | 3 => ("MillstreamPayments$Payment", "leg", "LMillstreamPayments$Payment;", false)
  | 4 => ("MillstreamPayments$Payment", "officer", "I", false)
  | 5 => ("MillstreamPayments$Payment", "isReleased", "Z", false)
  | 6 => ("MillstreamPayments$Payment", "finalDay", "I", false)
  | 7 => ("MillstreamPayments$Payment", "lastAnswerDay", "I", false)
  | _ => ("MillstreamPayments$Payment", "isAnswered", "Z", false)
def tyX7 : Nat → FieldType := fun k => match k with
  | 0 => .int
  | 1 => .object "MillstreamPayments$Terms"
  | 2 => .int
  | 3 => .object "MillstreamPayments$Payment"
  | 4 => .int
  | 5 => .boolean
  | 6 => .int
  | 7 => .int
  | _ => .boolean
abbrev wsX70 : List Cond := u_ws RX7 TX7 9
theorem nmX7 : ∀ a, a < 9 → ∀ b, b < 9 → a ≠ b → (TX7 a).2.1 ≠ (TX7 b).2.1 := by decide +kernel
theorem tyX7_ok : ∀ k, k < 9 → parseFieldDescriptor (TX7 k).2.2.1 = some (tyX7 k) := by decide +kernel
abbrev cX7_init : ByteArray := prog_9_method_1_code
def yX7_init : MethodName := ⟨RX7, "<init>", "(ILMillstreamPayments$Terms;)V"⟩
abbrev cX7_hasEnded : ByteArray := prog_9_method_2_code
def yX7_hasEnded : MethodName := ⟨RX7, "hasEnded", "()Z"⟩
abbrev cX7_isIn : ByteArray := prog_9_method_3_code
def yX7_isIn : MethodName := ⟨RX7, "isIn", "(II)Z"⟩
abbrev cX7_isBehind : ByteArray := prog_9_method_4_code
def yX7_isBehind : MethodName := ⟨RX7, "isBehind", "(LMillstreamPayments$Payment;)Z"⟩
abbrev cX7_canBeLegWith : ByteArray := prog_9_method_5_code
def yX7_canBeLegWith : MethodName := ⟨RX7, "canBeLegWith", "(LMillstreamPayments$Payment;)Z"⟩
abbrev cX7_giveBack : ByteArray := prog_9_method_6_code
def yX7_giveBack : MethodName := ⟨RX7, "giveBack", "()I"⟩
def RX8 : String := "MillstreamPayments$Register"
def TX8 : u_T := fun k => match k with
  | 0 => ("MillstreamPayments$Register", "all", "Ljava/util/ArrayList;", true)
  | _ => ("MillstreamPayments$Register", "paymentsOfMessages", "LMillstreamPayments$Row;", true)
def tyX8 : Nat → FieldType := fun k => match k with
  | 0 => .object "java/util/ArrayList"
  | _ => .object "MillstreamPayments$Row"
abbrev wsX80 : List Cond := u_ws RX8 TX8 2
theorem nmX8 : ∀ a, a < 2 → ∀ b, b < 2 → a ≠ b → (TX8 a).2.1 ≠ (TX8 b).2.1 := by decide +kernel
theorem tyX8_ok : ∀ k, k < 2 → parseFieldDescriptor (TX8 k).2.2.1 = some (tyX8 k) := by decide +kernel
abbrev cX8_init : ByteArray := prog_10_method_1_code
def yX8_init : MethodName := ⟨RX8, "<init>", "()V"⟩
abbrev cX8_count : ByteArray := prog_10_method_2_code
def yX8_count : MethodName := ⟨RX8, "count", "()I"⟩
abbrev cX8_isFull : ByteArray := prog_10_method_3_code
def yX8_isFull : MethodName := ⟨RX8, "isFull", "()Z"⟩
abbrev cX8_find : ByteArray := prog_10_method_4_code
def yX8_find : MethodName := ⟨RX8, "find", "(I)LMillstreamPayments$Payment;"⟩
abbrev cX8_open : ByteArray := prog_10_method_5_code
def yX8_open : MethodName := ⟨RX8, "open", "(LMillstreamPayments$Terms;)LMillstreamPayments$Payment;"⟩
abbrev cX8_toldBy : ByteArray := prog_10_method_6_code
def yX8_toldBy : MethodName := ⟨RX8, "toldBy", "(II)LMillstreamPayments$Payment;"⟩
abbrev cX8_keepMessage : ByteArray := prog_10_method_7_code
def yX8_keepMessage : MethodName := ⟨RX8, "keepMessage", "(III)V"⟩
abbrev cX8_nextQueued : ByteArray := prog_10_method_8_code
def yX8_nextQueued : MethodName := ⟨RX8, "nextQueued", "(IILMillstreamPayments$Payment;)LMillstreamPayments$Payment;"⟩
abbrev cX8_queuedAt : ByteArray := prog_10_method_9_code
def yX8_queuedAt : MethodName := ⟨RX8, "queuedAt", "(III)I"⟩
abbrev cX8_feesOf : ByteArray := prog_10_method_10_code
def yX8_feesOf : MethodName := ⟨RX8, "feesOf", "(III)I"⟩
def RX9 : String := "MillstreamPayments$Row"
def TX9 : u_T := fun k => match k with
  | _ => ("MillstreamPayments$Row", "cells", "[J", true)
def tyX9 : Nat → FieldType := fun k => match k with
  | _ => .array .long
abbrev wsX90 : List Cond := u_ws RX9 TX9 1
theorem nmX9 : ∀ a, a < 1 → ∀ b, b < 1 → a ≠ b → (TX9 a).2.1 ≠ (TX9 b).2.1 := by decide +kernel
theorem tyX9_ok : ∀ k, k < 1 → parseFieldDescriptor (TX9 k).2.2.1 = some (tyX9 k) := by decide +kernel
abbrev cX9_init : ByteArray := prog_11_method_1_code
def yX9_init : MethodName := ⟨RX9, "<init>", "(I)V"⟩
abbrev cX9_at : ByteArray := prog_11_method_2_code
def yX9_at : MethodName := ⟨RX9, "at", "(I)J"⟩
abbrev cX9_isSet : ByteArray := prog_11_method_3_code
def yX9_isSet : MethodName := ⟨RX9, "isSet", "(I)Z"⟩
abbrev cX9_put : ByteArray := prog_11_method_4_code
def yX9_put : MethodName := ⟨RX9, "put", "(IJ)V"⟩
abbrev cX9_add : ByteArray := prog_11_method_5_code
def yX9_add : MethodName := ⟨RX9, "add", "(IJ)V"⟩
abbrev cX9_mark : ByteArray := prog_11_method_6_code
def yX9_mark : MethodName := ⟨RX9, "mark", "(IZ)V"⟩
abbrev cX9_fill : ByteArray := prog_11_method_7_code
def yX9_fill : MethodName := ⟨RX9, "fill", "(J)V"⟩
def RX10 : String := "MillstreamPayments$Terms"
def TX10 : u_T := fun k => match k with
  | 0 => ("MillstreamPayments$Terms", "from", "I", true)
  | 1 => ("MillstreamPayments$Terms", "to", "I", true)
  | 2 => ("MillstreamPayments$Terms", "currency", "I", true)
  | 3 => ("MillstreamPayments$Terms", "amount", "I", true)
  | 4 => ("MillstreamPayments$Terms", "payee", "I", false)
  | 5 => ("MillstreamPayments$Terms", "rank", "I", false)
  | 6 => ("MillstreamPayments$Terms", "isReal", "Z", false)
  | 7 => ("MillstreamPayments$Terms", "day", "I", false)
  | _ => ("MillstreamPayments$Terms", "stays", "Z", false)
def tyX10 : Nat → FieldType := fun k => match k with
  | 0 => .int
  | 1 => .int
  | 2 => .int
  | 3 => .int
  | 4 => .int
  | 5 => .int
  | 6 => .boolean
  | 7 => .int
  | _ => .boolean
abbrev wsX100 : List Cond := u_ws RX10 TX10 9
theorem nmX10 : ∀ a, a < 9 → ∀ b, b < 9 → a ≠ b → (TX10 a).2.1 ≠ (TX10 b).2.1 := by decide +kernel
theorem tyX10_ok : ∀ k, k < 9 → parseFieldDescriptor (TX10 k).2.2.1 = some (tyX10 k) := by decide +kernel
abbrev cX10_init : ByteArray := prog_12_method_1_code
def yX10_init : MethodName := ⟨RX10, "<init>", "(IIII)V"⟩
abbrev cX10_arrange : ByteArray := prog_12_method_2_code
def yX10_arrange : MethodName := ⟨RX10, "arrange", "(IIZIZ)V"⟩
abbrev cX10_isLike : ByteArray := prog_12_method_3_code
def yX10_isLike : MethodName := ⟨RX10, "isLike", "(LMillstreamPayments$Terms;)Z"⟩
abbrev cX10_isWayBackOf : ByteArray := prog_12_method_4_code
def yX10_isWayBackOf : MethodName := ⟨RX10, "isWayBackOf", "(LMillstreamPayments$Terms;)Z"⟩
def RX11 : String := "MillstreamPayments"
def TX11 : u_T := fun k => match k with
  | _ => ("MillstreamPayments", "exchange", "LMillstreamPayments$Exchange;", true)
def tyX11 : Nat → FieldType := fun k => match k with
  | _ => .object "MillstreamPayments$Exchange"
abbrev wsX110 : List Cond := u_ws RX11 TX11 1
theorem nmX11 : ∀ a, a < 1 → ∀ b, b < 1 → a ≠ b → (TX11 a).2.1 ≠ (TX11 b).2.1 := by decide +kernel
theorem tyX11_ok : ∀ k, k < 1 → parseFieldDescriptor (TX11 k).2.2.1 = some (tyX11 k) := by decide +kernel
abbrev cX11_init : ByteArray := prog_1_method_1_code
def yX11_init : MethodName := ⟨RX11, "<init>", "()V"⟩
abbrev cX11_fund : ByteArray := prog_1_method_2_code
def yX11_fund : MethodName := ⟨RX11, "fund", "(III)J"⟩
abbrev cX11_line : ByteArray := prog_1_method_3_code
def yX11_line : MethodName := ⟨RX11, "line", "(III)I"⟩
abbrev cX11_limit : ByteArray := prog_1_method_4_code
def yX11_limit : MethodName := ⟨RX11, "limit", "(IIII)I"⟩
abbrev cX11_out : ByteArray := prog_1_method_5_code
def yX11_out : MethodName := ⟨RX11, "out", "(IZ)Z"⟩
abbrev cX11_holiday : ByteArray := prog_1_method_6_code
def yX11_holiday : MethodName := ⟨RX11, "holiday", "(IIZ)Z"⟩
abbrev cX11_list : ByteArray := prog_1_method_7_code
def yX11_list : MethodName := ⟨RX11, "list", "(IZ)I"⟩
abbrev cX11_send : ByteArray := prog_1_method_8_code
def yX11_send : MethodName := ⟨RX11, "send", "(IIIIIIIZIZ)I"⟩
abbrev cX11_doubles : ByteArray := prog_1_method_9_code
def yX11_doubles : MethodName := ⟨RX11, "doubles", "()I"⟩
abbrev cX11_join : ByteArray := prog_1_method_10_code
def yX11_join : MethodName := ⟨RX11, "join", "(II)V"⟩
abbrev cX11_withdraw : ByteArray := prog_1_method_11_code
def yX11_withdraw : MethodName := ⟨RX11, "withdraw", "(I)I"⟩
abbrev cX11_release : ByteArray := prog_1_method_12_code
def yX11_release : MethodName := ⟨RX11, "release", "(II)Z"⟩
abbrev cX11_refuse : ByteArray := prog_1_method_13_code
def yX11_refuse : MethodName := ⟨RX11, "refuse", "(I)I"⟩
abbrev cX11_offset : ByteArray := prog_1_method_14_code
def yX11_offset : MethodName := ⟨RX11, "offset", "(I)I"⟩
abbrev cX11_recall : ByteArray := prog_1_method_15_code
def yX11_recall : MethodName := ⟨RX11, "recall", "(I)I"⟩
abbrev cX11_answer : ByteArray := prog_1_method_16_code
def yX11_answer : MethodName := ⟨RX11, "answer", "(IZ)I"⟩
abbrev cX11_endDay : ByteArray := prog_1_method_17_code
def yX11_endDay : MethodName := ⟨RX11, "endDay", "()I"⟩
abbrev cX11_today : ByteArray := prog_1_method_18_code
def yX11_today : MethodName := ⟨RX11, "today", "()I"⟩
abbrev cX11_account : ByteArray := prog_1_method_19_code
def yX11_account : MethodName := ⟨RX11, "account", "(II)J"⟩
abbrev cX11_accountAnew : ByteArray := prog_1_method_20_code
def yX11_accountAnew : MethodName := ⟨RX11, "accountAnew", "(II)J"⟩
abbrev cX11_paid : ByteArray := prog_1_method_21_code
def yX11_paid : MethodName := ⟨RX11, "paid", "(III)J"⟩
abbrev cX11_payments : ByteArray := prog_1_method_22_code
def yX11_payments : MethodName := ⟨RX11, "payments", "()I"⟩
abbrev cX11_stateOf : ByteArray := prog_1_method_23_code
def yX11_stateOf : MethodName := ⟨RX11, "stateOf", "(I)I"⟩
abbrev cX11_queueAt : ByteArray := prog_1_method_24_code
def yX11_queueAt : MethodName := ⟨RX11, "queueAt", "(III)I"⟩
abbrev cX11_entries : ByteArray := prog_1_method_25_code
def yX11_entries : MethodName := ⟨RX11, "entries", "()I"⟩
abbrev cX11_entryAt : ByteArray := prog_1_method_26_code
def yX11_entryAt : MethodName := ⟨RX11, "entryAt", "(II)J"⟩
abbrev cX11_advice : ByteArray := prog_1_method_27_code
def yX11_advice : MethodName := ⟨RX11, "advice", "(I)I"⟩
abbrev cX11_again : ByteArray := prog_1_method_28_code
def yX11_again : MethodName := ⟨RX11, "again", "(II)I"⟩
abbrev cX11_needPlace : ByteArray := prog_1_method_29_code
def yX11_needPlace : MethodName := ⟨RX11, "needPlace", "(II)V"⟩
abbrev cX11_needRange : ByteArray := prog_1_method_30_code
def yX11_needRange : MethodName := ⟨RX11, "needRange", "(III)V"⟩
abbrev cX11_needTwoBanks : ByteArray := prog_1_method_31_code
def yX11_needTwoBanks : MethodName := ⟨RX11, "needTwoBanks", "(II)V"⟩
abbrev cX11_needState : ByteArray := prog_1_method_32_code
def yX11_needState : MethodName := ⟨RX11, "needState", "(Z)V"⟩
abbrev cX11_needPayment : ByteArray := prog_1_method_33_code
def yX11_needPayment : MethodName := ⟨RX11, "needPayment", "(I)LMillstreamPayments$Payment;"⟩
abbrev cX11_accountSlot : ByteArray := prog_1_method_34_code
def yX11_accountSlot : MethodName := ⟨RX11, "accountSlot", "(II)I"⟩
abbrev cX11_pairSlot : ByteArray := prog_1_method_35_code
def yX11_pairSlot : MethodName := ⟨RX11, "pairSlot", "(III)I"⟩
def RX12 : String := "MillstreamPaymentsModel"
def TX12 : u_T := fun k => match k with
  | 0 => ("MillstreamPaymentsModel", "today", "I", false)
  | 1 => ("MillstreamPaymentsModel", "account", "[J", true)
  | 2 => ("MillstreamPaymentsModel", "line", "[I", true)
  | 3 => ("MillstreamPaymentsModel", "limit", "[I", true)
  | 4 => ("MillstreamPaymentsModel", "paid", "[J", true)
  | 5 => ("MillstreamPaymentsModel", "isOut", "[Z", true)
  | 6 => ("MillstreamPaymentsModel", "isHoliday", "[Z", true)
  | 7 => ("MillstreamPaymentsModel", "isListed", "[Z", true)
  | 8 => ("MillstreamPaymentsModel", "payments", "I", false)
  | 9 => ("MillstreamPaymentsModel", "from", "[I", true)
  | 10 => ("MillstreamPaymentsModel", "to", "[I", true)
  | 11 => ("MillstreamPaymentsModel", "currency", "[I", true)
  | 12 => ("MillstreamPaymentsModel", "amount", "[I", true)
  | 13 => ("MillstreamPaymentsModel", "payee", "[I", true)
  | 14 => ("MillstreamPaymentsModel", "rank", "[I", true)
  | 15 => ("MillstreamPaymentsModel", "isReal", "[Z", true)
  | 16 => ("MillstreamPaymentsModel", "day", "[I", true)
  | 17 => ("MillstreamPaymentsModel", "stays", "[Z", true)
  | 18 => ("MillstreamPaymentsModel", "state", "[I", true)
  | 19 => ("MillstreamPaymentsModel", "isReleased", "[Z", true)
  | 20 => ("MillstreamPaymentsModel", "officer", "[I", true)
  | 21 => ("MillstreamPaymentsModel", "leg", "[I", true)
  | 22 => ("MillstreamPaymentsModel", "finalOn", "[I", true)
  | 23 => ("MillstreamPaymentsModel", "recalledOn", "[I", true)
  | 24 => ("MillstreamPaymentsModel", "isAnswered", "[Z", true)
  | 25 => ("MillstreamPaymentsModel", "message", "[I", true)
  | 26 => ("MillstreamPaymentsModel", "doubles", "I", false)
  | 27 => ("MillstreamPaymentsModel", "finals", "I", false)
  | 28 => ("MillstreamPaymentsModel", "finished", "[I", true)
  | 29 => ("MillstreamPaymentsModel", "taken", "[I", true)
  | 30 => ("MillstreamPaymentsModel", "most", "[I", true)
  | 31 => ("MillstreamPaymentsModel", "entries", "I", false)
  | 32 => ("MillstreamPaymentsModel", "entry", "[J", true)
  | 33 => ("MillstreamPaymentsModel", "isIn", "[Z", true)
  | 34 => ("MillstreamPaymentsModel", "more", "[J", true)
  | 35 => ("MillstreamPaymentsModel", "morePaid", "[J", true)
  | _ => ("MillstreamPaymentsModel", "thrown", "I", false)
def tyX12 : Nat → FieldType := fun k => match k with
  | 0 => .int
  | 1 => .array .long
  | 2 => .array .int
  | 3 => .array .int
  | 4 => .array .long
  | 5 => .array .boolean
  | 6 => .array .boolean
  | 7 => .array .boolean
  | 8 => .int
  | 9 => .array .int
  | 10 => .array .int
  | 11 => .array .int
  | 12 => .array .int
  | 13 => .array .int
  | 14 => .array .int
  | 15 => .array .boolean
  | 16 => .array .int
  | 17 => .array .boolean
  | 18 => .array .int
  | 19 => .array .boolean
  | 20 => .array .int
  | 21 => .array .int
  | 22 => .array .int
  | 23 => .array .int
  | 24 => .array .boolean
  | 25 => .array .int
  | 26 => .int
  | 27 => .int
  | 28 => .array .int
  | 29 => .array .int
  | 30 => .array .int
  | 31 => .int
  | 32 => .array .long
  | 33 => .array .boolean
  | 34 => .array .long
  | 35 => .array .long
  | _ => .int
abbrev wsX120 : List Cond := u_ws RX12 TX12 37
theorem nmX12 : ∀ a, a < 37 → ∀ b, b < 37 → a ≠ b → (TX12 a).2.1 ≠ (TX12 b).2.1 := by decide +kernel
theorem tyX12_ok : ∀ k, k < 37 → parseFieldDescriptor (TX12 k).2.2.1 = some (tyX12 k) := by decide +kernel
abbrev cX12_init : ByteArray := prog_14_method_1_code
def yX12_init : MethodName := ⟨RX12, "<init>", "()V"⟩
abbrev cX12_thrown : ByteArray := prog_14_method_2_code
def yX12_thrown : MethodName := ⟨RX12, "thrown", "()I"⟩
abbrev cX12_in : ByteArray := prog_14_method_3_code
def yX12_in : MethodName := ⟨RX12, "in", "(III)Z"⟩
abbrev cX12_goes : ByteArray := prog_14_method_4_code
def yX12_goes : MethodName := ⟨RX12, "goes", "(ZZZ)Z"⟩
abbrev cX12_isBank : ByteArray := prog_14_method_5_code
def yX12_isBank : MethodName := ⟨RX12, "isBank", "(I)Z"⟩
abbrev cX12_isCurrency : ByteArray := prog_14_method_6_code
def yX12_isCurrency : MethodName := ⟨RX12, "isCurrency", "(I)Z"⟩
abbrev cX12_isName : ByteArray := prog_14_method_7_code
def yX12_isName : MethodName := ⟨RX12, "isName", "(I)Z"⟩
abbrev cX12_isPayment : ByteArray := prog_14_method_8_code
def yX12_isPayment : MethodName := ⟨RX12, "isPayment", "(I)Z"⟩
abbrev cX12_of : ByteArray := prog_14_method_9_code
def yX12_of : MethodName := ⟨RX12, "of", "(II)I"⟩
abbrev cX12_pair : ByteArray := prog_14_method_10_code
def yX12_pair : MethodName := ⟨RX12, "pair", "(III)I"⟩
abbrev cX12_isOpen : ByteArray := prog_14_method_11_code
def yX12_isOpen : MethodName := ⟨RX12, "isOpen", "(II)Z"⟩
abbrev cX12_ends : ByteArray := prog_14_method_12_code
def yX12_ends : MethodName := ⟨RX12, "ends", "(I)Z"⟩
abbrev cX12_books : ByteArray := prog_14_method_13_code
def yX12_books : MethodName := ⟨RX12, "books", "(IIIJI)V"⟩
abbrev cX12_clears : ByteArray := prog_14_method_14_code
def yX12_clears : MethodName := ⟨RX12, "clears", "()V"⟩
abbrev cX12_sums : ByteArray := prog_14_method_15_code
def yX12_sums : MethodName := ⟨RX12, "sums", "()V"⟩
abbrev cX12_isShort : ByteArray := prog_14_method_16_code
def yX12_isShort : MethodName := ⟨RX12, "isShort", "(II)Z"⟩
abbrev cX12_isPassed : ByteArray := prog_14_method_17_code
def yX12_isPassed : MethodName := ⟨RX12, "isPassed", "(III)Z"⟩
abbrev cX12_fits : ByteArray := prog_14_method_18_code
def yX12_fits : MethodName := ⟨RX12, "fits", "(I)Z"⟩
abbrev cX12_areAtWork : ByteArray := prog_14_method_19_code
def yX12_areAtWork : MethodName := ⟨RX12, "areAtWork", "()Z"⟩
abbrev cX12_settles : ByteArray := prog_14_method_20_code
def yX12_settles : MethodName := ⟨RX12, "settles", "()I"⟩
abbrev cX12_queued : ByteArray := prog_14_method_21_code
def yX12_queued : MethodName := ⟨RX12, "queued", "(III)I"⟩
abbrev cX12_settlesFirst : ByteArray := prog_14_method_22_code
def yX12_settlesFirst : MethodName := ⟨RX12, "settlesFirst", "(II)I"⟩
abbrev cX12_runs : ByteArray := prog_14_method_23_code
def yX12_runs : MethodName := ⟨RX12, "runs", "()I"⟩
abbrev cX12_last : ByteArray := prog_14_method_24_code
def yX12_last : MethodName := ⟨RX12, "last", "(IIZ)I"⟩
abbrev cX12_reduces : ByteArray := prog_14_method_25_code
def yX12_reduces : MethodName := ⟨RX12, "reduces", "(IZ)I"⟩
abbrev cX12_isShortAny : ByteArray := prog_14_method_26_code
def yX12_isShortAny : MethodName := ⟨RX12, "isShortAny", "(I)Z"⟩
abbrev cX12_enters : ByteArray := prog_14_method_27_code
def yX12_enters : MethodName := ⟨RX12, "enters", "(I)V"⟩
abbrev cX12_comes : ByteArray := prog_14_method_28_code
def yX12_comes : MethodName := ⟨RX12, "comes", "(IIIIIIZIZ)I"⟩
abbrev cX12_isAlike : ByteArray := prog_14_method_29_code
def yX12_isAlike : MethodName := ⟨RX12, "isAlike", "(IIIIIIZIZ)Z"⟩
abbrev cX12_send : ByteArray := prog_14_method_30_code
def yX12_send : MethodName := ⟨RX12, "send", "(IIIIIIIZIZ)I"⟩
abbrev cX12_doubles : ByteArray := prog_14_method_31_code
def yX12_doubles : MethodName := ⟨RX12, "doubles", "()I"⟩
abbrev cX12_canJoin : ByteArray := prog_14_method_32_code
def yX12_canJoin : MethodName := ⟨RX12, "canJoin", "(II)Z"⟩
abbrev cX12_join : ByteArray := prog_14_method_33_code
def yX12_join : MethodName := ⟨RX12, "join", "(II)V"⟩
abbrev cX12_returns : ByteArray := prog_14_method_34_code
def yX12_returns : MethodName := ⟨RX12, "returns", "(I)I"⟩
abbrev cX12_withdraw : ByteArray := prog_14_method_35_code
def yX12_withdraw : MethodName := ⟨RX12, "withdraw", "(I)I"⟩
abbrev cX12_release : ByteArray := prog_14_method_36_code
def yX12_release : MethodName := ⟨RX12, "release", "(II)Z"⟩
abbrev cX12_refuse : ByteArray := prog_14_method_37_code
def yX12_refuse : MethodName := ⟨RX12, "refuse", "(I)I"⟩
abbrev cX12_offset : ByteArray := prog_14_method_38_code
def yX12_offset : MethodName := ⟨RX12, "offset", "(I)I"⟩
abbrev cX12_recall : ByteArray := prog_14_method_39_code
def yX12_recall : MethodName := ⟨RX12, "recall", "(I)I"⟩
abbrev cX12_answer : ByteArray := prog_14_method_40_code
def yX12_answer : MethodName := ⟨RX12, "answer", "(IZ)I"⟩
abbrev cX12_fund : ByteArray := prog_14_method_41_code
def yX12_fund : MethodName := ⟨RX12, "fund", "(III)J"⟩
abbrev cX12_line : ByteArray := prog_14_method_42_code
def yX12_line : MethodName := ⟨RX12, "line", "(III)I"⟩
abbrev cX12_limit : ByteArray := prog_14_method_43_code
def yX12_limit : MethodName := ⟨RX12, "limit", "(IIII)I"⟩
abbrev cX12_out : ByteArray := prog_14_method_44_code
def yX12_out : MethodName := ⟨RX12, "out", "(IZ)Z"⟩
abbrev cX12_holiday : ByteArray := prog_14_method_45_code
def yX12_holiday : MethodName := ⟨RX12, "holiday", "(IIZ)Z"⟩
abbrev cX12_list : ByteArray := prog_14_method_46_code
def yX12_list : MethodName := ⟨RX12, "list", "(IZ)I"⟩
abbrev cX12_cutsOff : ByteArray := prog_14_method_47_code
def yX12_cutsOff : MethodName := ⟨RX12, "cutsOff", "(I)I"⟩
abbrev cX12_charges : ByteArray := prog_14_method_48_code
def yX12_charges : MethodName := ⟨RX12, "charges", "(II)V"⟩
abbrev cX12_endDay : ByteArray := prog_14_method_49_code
def yX12_endDay : MethodName := ⟨RX12, "endDay", "()I"⟩
abbrev cX12_today : ByteArray := prog_14_method_50_code
def yX12_today : MethodName := ⟨RX12, "today", "()I"⟩
abbrev cX12_isAccount : ByteArray := prog_14_method_51_code
def yX12_isAccount : MethodName := ⟨RX12, "isAccount", "(I)Z"⟩
abbrev cX12_account : ByteArray := prog_14_method_52_code
def yX12_account : MethodName := ⟨RX12, "account", "(II)J"⟩
abbrev cX12_accountAnew : ByteArray := prog_14_method_53_code
def yX12_accountAnew : MethodName := ⟨RX12, "accountAnew", "(II)J"⟩
abbrev cX12_paid : ByteArray := prog_14_method_54_code
def yX12_paid : MethodName := ⟨RX12, "paid", "(III)J"⟩
abbrev cX12_payments : ByteArray := prog_14_method_55_code
def yX12_payments : MethodName := ⟨RX12, "payments", "()I"⟩
abbrev cX12_stateOf : ByteArray := prog_14_method_56_code
def yX12_stateOf : MethodName := ⟨RX12, "stateOf", "(I)I"⟩
abbrev cX12_queueAt : ByteArray := prog_14_method_57_code
def yX12_queueAt : MethodName := ⟨RX12, "queueAt", "(III)I"⟩
abbrev cX12_entries : ByteArray := prog_14_method_58_code
def yX12_entries : MethodName := ⟨RX12, "entries", "()I"⟩
abbrev cX12_entryAt : ByteArray := prog_14_method_59_code
def yX12_entryAt : MethodName := ⟨RX12, "entryAt", "(II)J"⟩
abbrev cX12_adviceAt : ByteArray := prog_14_method_60_code
def yX12_adviceAt : MethodName := ⟨RX12, "adviceAt", "(II)I"⟩
abbrev cX12_advice : ByteArray := prog_14_method_61_code
def yX12_advice : MethodName := ⟨RX12, "advice", "(I)I"⟩
abbrev cX12_again : ByteArray := prog_14_method_62_code
def yX12_again : MethodName := ⟨RX12, "again", "(II)I"⟩
def RJx145de : String := "java/io/Serializable"
def TJx145de : u_T := fun k => match k with
  | _ => ("", "", "", false)
def tyJx145de : Nat → FieldType := fun k => match k with
  | _ => .int
abbrev wsJx145de0 : List Cond := u_ws RJx145de TJx145de 0
theorem nmJx145de : ∀ a, a < 0 → ∀ b, b < 0 → a ≠ b → (TJx145de a).2.1 ≠ (TJx145de b).2.1 := by decide +kernel
theorem tyJx145de_ok : ∀ k, k < 0 → parseFieldDescriptor (TJx145de k).2.2.1 = some (tyJx145de k) := by decide +kernel
def RJx8e188 : String := "java/lang/Cloneable"
def TJx8e188 : u_T := fun k => match k with
  | _ => ("", "", "", false)
def tyJx8e188 : Nat → FieldType := fun k => match k with
  | _ => .int
abbrev wsJx8e1880 : List Cond := u_ws RJx8e188 TJx8e188 0
theorem nmJx8e188 : ∀ a, a < 0 → ∀ b, b < 0 → a ≠ b → (TJx8e188 a).2.1 ≠ (TJx8e188 b).2.1 := by decide +kernel
theorem tyJx8e188_ok : ∀ k, k < 0 → parseFieldDescriptor (TJx8e188 k).2.2.1 = some (tyJx8e188 k) := by decide +kernel
def RJxab1ab : String := "java/lang/Iterable"
def TJxab1ab : u_T := fun k => match k with
  | _ => ("", "", "", false)
def tyJxab1ab : Nat → FieldType := fun k => match k with
  | _ => .int
abbrev wsJxab1ab0 : List Cond := u_ws RJxab1ab TJxab1ab 0
theorem nmJxab1ab : ∀ a, a < 0 → ∀ b, b < 0 → a ≠ b → (TJxab1ab a).2.1 ≠ (TJxab1ab b).2.1 := by decide +kernel
theorem tyJxab1ab_ok : ∀ k, k < 0 → parseFieldDescriptor (TJxab1ab k).2.2.1 = some (tyJxab1ab k) := by decide +kernel
def RJ9 : String := "java/lang/Math"
def TJ9 : u_T := fun k => match k with
  | _ => ("", "", "", false)
def tyJ9 : Nat → FieldType := fun k => match k with
  | _ => .int
abbrev wsJ90 : List Cond := u_ws RJ9 TJ9 0
theorem nmJ9 : ∀ a, a < 0 → ∀ b, b < 0 → a ≠ b → (TJ9 a).2.1 ≠ (TJ9 b).2.1 := by decide +kernel
theorem tyJ9_ok : ∀ k, k < 0 → parseFieldDescriptor (TJ9 k).2.2.1 = some (tyJ9 k) := by decide +kernel
abbrev cJ9_max_7cf53 : ByteArray := prog_22_method_65_code
def yJ9_max_7cf53 : MethodName := ⟨RJ9, "max", "(II)I"⟩
abbrev cJ9_max_f86c9 : ByteArray := prog_22_method_66_code
def yJ9_max_f86c9 : MethodName := ⟨RJ9, "max", "(JJ)J"⟩
abbrev cJ9_min_7cf53 : ByteArray := prog_22_method_69_code
def yJ9_min_7cf53 : MethodName := ⟨RJ9, "min", "(II)I"⟩
def RJ0 : String := "java/lang/String"
def TJ0 : u_T := fun k => match k with
  | _ => ("", "", "", false)
def tyJ0 : Nat → FieldType := fun k => match k with
  | _ => .int
abbrev wsJ00 : List Cond := u_ws RJ0 TJ0 0
theorem nmJ0 : ∀ a, a < 0 → ∀ b, b < 0 → a ≠ b → (TJ0 a).2.1 ≠ (TJ0 b).2.1 := by decide +kernel
theorem tyJ0_ok : ∀ k, k < 0 → parseFieldDescriptor (TJ0 k).2.2.1 = some (tyJ0 k) := by decide +kernel
def RJ10 : String := "java/lang/System"
def TJ10 : u_T := fun k => match k with
  | _ => ("", "", "", false)
def tyJ10 : Nat → FieldType := fun k => match k with
  | _ => .int
abbrev wsJ100 : List Cond := u_ws RJ10 TJ10 0
theorem nmJ10 : ∀ a, a < 0 → ∀ b, b < 0 → a ≠ b → (TJ10 a).2.1 ≠ (TJ10 b).2.1 := by decide +kernel
theorem tyJ10_ok : ∀ k, k < 0 → parseFieldDescriptor (TJ10 k).2.2.1 = some (tyJ10 k) := by decide +kernel
def RJxa1e45 : String := "java/util/AbstractCollection"
def TJxa1e45 : u_T := fun k => match k with
  | _ => ("", "", "", false)
def tyJxa1e45 : Nat → FieldType := fun k => match k with
  | _ => .int
abbrev wsJxa1e450 : List Cond := u_ws RJxa1e45 TJxa1e45 0
theorem nmJxa1e45 : ∀ a, a < 0 → ∀ b, b < 0 → a ≠ b → (TJxa1e45 a).2.1 ≠ (TJxa1e45 b).2.1 := by decide +kernel
theorem tyJxa1e45_ok : ∀ k, k < 0 → parseFieldDescriptor (TJxa1e45 k).2.2.1 = some (tyJxa1e45 k) := by decide +kernel
abbrev cJxa1e45_init_da8c8 : ByteArray := prog_27_method_1_code
def yJxa1e45_init_da8c8 : MethodName := ⟨RJxa1e45, "<init>", "()V"⟩
def RJxc12de : String := "java/util/AbstractList"
def TJxc12de : u_T := fun k => match k with
  | _ => ("", "", "", false)
def tyJxc12de : Nat → FieldType := fun k => match k with
  | _ => .int
abbrev wsJxc12de0 : List Cond := u_ws RJxc12de TJxc12de 0
theorem nmJxc12de : ∀ a, a < 0 → ∀ b, b < 0 → a ≠ b → (TJxc12de a).2.1 ≠ (TJxc12de b).2.1 := by decide +kernel
theorem tyJxc12de_ok : ∀ k, k < 0 → parseFieldDescriptor (TJxc12de k).2.2.1 = some (tyJxc12de k) := by decide +kernel
abbrev cJxc12de_init_da8c8 : ByteArray := prog_28_method_1_code
def yJxc12de_init_da8c8 : MethodName := ⟨RJxc12de, "<init>", "()V"⟩
def RJx4a65c : String := "java/util/ArrayList"
def TJx4a65c : u_T := fun k => match k with
  | 0 => ("java/util/AbstractList", "modCount", "I", false)
  | 1 => ("java/util/ArrayList", "elementData", "[Ljava/lang/Object;", false)
  | _ => ("java/util/ArrayList", "size", "I", false)
def tyJx4a65c : Nat → FieldType := fun k => match k with
  | 0 => .int
  | 1 => .array (.object "java/lang/Object")
  | _ => .int
abbrev wsJx4a65c0 : List Cond := u_ws RJx4a65c TJx4a65c 3
theorem nmJx4a65c : ∀ a, a < 3 → ∀ b, b < 3 → a ≠ b → (TJx4a65c a).2.1 ≠ (TJx4a65c b).2.1 := by decide +kernel
theorem tyJx4a65c_ok : ∀ k, k < 3 → parseFieldDescriptor (TJx4a65c k).2.2.1 = some (tyJx4a65c k) := by decide +kernel
abbrev cJx4a65c_init_da8c8 : ByteArray := prog_29_method_2_code
def yJx4a65c_init_da8c8 : MethodName := ⟨RJx4a65c, "<init>", "()V"⟩
abbrev cJx4a65c_grow_92f84 : ByteArray := prog_29_method_6_code
def yJx4a65c_grow_92f84 : MethodName := ⟨RJx4a65c, "grow", "(I)[Ljava/lang/Object;"⟩
abbrev cJx4a65c_grow_d5877 : ByteArray := prog_29_method_7_code
def yJx4a65c_grow_d5877 : MethodName := ⟨RJx4a65c, "grow", "()[Ljava/lang/Object;"⟩
abbrev cJx4a65c_size_8abf5 : ByteArray := prog_29_method_8_code
def yJx4a65c_size_8abf5 : MethodName := ⟨RJx4a65c, "size", "()I"⟩
abbrev cJx4a65c_elementData_915e3 : ByteArray := prog_29_method_18_code
def yJx4a65c_elementData_915e3 : MethodName := ⟨RJx4a65c, "elementData", "(I)Ljava/lang/Object;"⟩
abbrev cJx4a65c_get_915e3 : ByteArray := prog_29_method_20_code
def yJx4a65c_get_915e3 : MethodName := ⟨RJx4a65c, "get", "(I)Ljava/lang/Object;"⟩
abbrev cJx4a65c_add_72be8 : ByteArray := prog_29_method_24_code
def yJx4a65c_add_72be8 : MethodName := ⟨RJx4a65c, "add", "(Ljava/lang/Object;[Ljava/lang/Object;I)V"⟩
abbrev cJx4a65c_add_9ea2d : ByteArray := prog_29_method_25_code
def yJx4a65c_add_9ea2d : MethodName := ⟨RJx4a65c, "add", "(Ljava/lang/Object;)Z"⟩
def RJ7 : String := "java/util/Arrays"
def TJ7 : u_T := fun k => match k with
  | _ => ("", "", "", false)
def tyJ7 : Nat → FieldType := fun k => match k with
  | _ => .int
abbrev wsJ70 : List Cond := u_ws RJ7 TJ7 0
theorem nmJ7 : ∀ a, a < 0 → ∀ b, b < 0 → a ≠ b → (TJ7 a).2.1 ≠ (TJ7 b).2.1 := by decide +kernel
theorem tyJ7_ok : ∀ k, k < 0 → parseFieldDescriptor (TJ7 k).2.2.1 = some (tyJ7 k) := by decide +kernel
abbrev cJ7_copyOf_1904c : ByteArray := prog_30_method_119_code
def yJ7_copyOf_1904c : MethodName := ⟨RJ7, "copyOf", "([Ljava/lang/Object;I)[Ljava/lang/Object;"⟩
abbrev cJ7_copyOf_6403c : ByteArray := prog_30_method_120_code
def yJ7_copyOf_6403c : MethodName := ⟨RJ7, "copyOf", "([Ljava/lang/Object;ILjava/lang/Class;)[Ljava/lang/Object;"⟩
def RJx5ef63 : String := "java/util/Collection"
def TJx5ef63 : u_T := fun k => match k with
  | _ => ("", "", "", false)
def tyJx5ef63 : Nat → FieldType := fun k => match k with
  | _ => .int
abbrev wsJx5ef630 : List Cond := u_ws RJx5ef63 TJx5ef63 0
theorem nmJx5ef63 : ∀ a, a < 0 → ∀ b, b < 0 → a ≠ b → (TJx5ef63 a).2.1 ≠ (TJx5ef63 b).2.1 := by decide +kernel
theorem tyJx5ef63_ok : ∀ k, k < 0 → parseFieldDescriptor (TJx5ef63 k).2.2.1 = some (tyJx5ef63 k) := by decide +kernel
def RJxbd725 : String := "java/util/List"
def TJxbd725 : u_T := fun k => match k with
  | _ => ("", "", "", false)
def tyJxbd725 : Nat → FieldType := fun k => match k with
  | _ => .int
abbrev wsJxbd7250 : List Cond := u_ws RJxbd725 TJxbd725 0
theorem nmJxbd725 : ∀ a, a < 0 → ∀ b, b < 0 → a ≠ b → (TJxbd725 a).2.1 ≠ (TJxbd725 b).2.1 := by decide +kernel
theorem tyJxbd725_ok : ∀ k, k < 0 → parseFieldDescriptor (TJxbd725 k).2.2.1 = some (tyJxbd725 k) := by decide +kernel
def RJ15 : String := "java/util/Objects"
def TJ15 : u_T := fun k => match k with
  | _ => ("", "", "", false)
def tyJ15 : Nat → FieldType := fun k => match k with
  | _ => .int
abbrev wsJ150 : List Cond := u_ws RJ15 TJ15 0
theorem nmJ15 : ∀ a, a < 0 → ∀ b, b < 0 → a ≠ b → (TJ15 a).2.1 ≠ (TJ15 b).2.1 := by decide +kernel
theorem tyJ15_ok : ∀ k, k < 0 → parseFieldDescriptor (TJ15 k).2.2.1 = some (tyJ15 k) := by decide +kernel
abbrev cJ15_checkIndex_7cf53 : ByteArray := prog_33_method_17_code
def yJ15_checkIndex_7cf53 : MethodName := ⟨RJ15, "checkIndex", "(II)I"⟩
def RJxf0a74 : String := "java/util/RandomAccess"
def TJxf0a74 : u_T := fun k => match k with
  | _ => ("", "", "", false)
def tyJxf0a74 : Nat → FieldType := fun k => match k with
  | _ => .int
abbrev wsJxf0a740 : List Cond := u_ws RJxf0a74 TJxf0a74 0
theorem nmJxf0a74 : ∀ a, a < 0 → ∀ b, b < 0 → a ≠ b → (TJxf0a74 a).2.1 ≠ (TJxf0a74 b).2.1 := by decide +kernel
theorem tyJxf0a74_ok : ∀ k, k < 0 → parseFieldDescriptor (TJxf0a74 k).2.2.1 = some (tyJxf0a74 k) := by decide +kernel
def RJxa66e6 : String := "java/util/SequencedCollection"
def TJxa66e6 : u_T := fun k => match k with
  | _ => ("", "", "", false)
def tyJxa66e6 : Nat → FieldType := fun k => match k with
  | _ => .int
abbrev wsJxa66e60 : List Cond := u_ws RJxa66e6 TJxa66e6 0
theorem nmJxa66e6 : ∀ a, a < 0 → ∀ b, b < 0 → a ≠ b → (TJxa66e6 a).2.1 ≠ (TJxa66e6 b).2.1 := by decide +kernel
theorem tyJxa66e6_ok : ∀ k, k < 0 → parseFieldDescriptor (TJxa66e6 k).2.2.1 = some (tyJxa66e6 k) := by decide +kernel
def RJ8 : String := "jdk/internal/util/ArraysSupport"
def TJ8 : u_T := fun k => match k with
  | _ => ("", "", "", false)
def tyJ8 : Nat → FieldType := fun k => match k with
  | _ => .int
abbrev wsJ80 : List Cond := u_ws RJ8 TJ8 0
theorem nmJ8 : ∀ a, a < 0 → ∀ b, b < 0 → a ≠ b → (TJ8 a).2.1 ≠ (TJ8 b).2.1 := by decide +kernel
theorem tyJ8_ok : ∀ k, k < 0 → parseFieldDescriptor (TJ8 k).2.2.1 = some (tyJ8 k) := by decide +kernel
abbrev cJ8_newLength_cabcc : ByteArray := prog_36_method_27_code
def yJ8_newLength_cabcc : MethodName := ⟨RJ8, "newLength", "(III)I"⟩
abbrev cJ8_hugeLength_7cf53 : ByteArray := prog_36_method_28_code
def yJ8_hugeLength_7cf53 : MethodName := ⟨RJ8, "hugeLength", "(II)I"⟩
def RJ3 : String := "jdk/internal/util/Preconditions"
def TJ3 : u_T := fun k => match k with
  | _ => ("", "", "", false)
def tyJ3 : Nat → FieldType := fun k => match k with
  | _ => .int
abbrev wsJ30 : List Cond := u_ws RJ3 TJ3 0
theorem nmJ3 : ∀ a, a < 0 → ∀ b, b < 0 → a ≠ b → (TJ3 a).2.1 ≠ (TJ3 b).2.1 := by decide +kernel
theorem tyJ3_ok : ∀ k, k < 0 → parseFieldDescriptor (TJ3 k).2.2.1 = some (tyJ3 k) := by decide +kernel
abbrev cJ3_checkIndex_8e157 : ByteArray := prog_37_method_11_code
def yJ3_checkIndex_8e157 : MethodName := ⟨RJ3, "checkIndex", "(IILjava/util/function/BiFunction;)I"⟩
def RL : String := "MillstreamPaymentsLaw"
abbrev cL_fund : ByteArray := method_3_code
def yL_fund : MethodName := ⟨RL, "fund", "(LMillstreamPayments;III[J)I"⟩
abbrev cL_line : ByteArray := method_4_code
def yL_line : MethodName := ⟨RL, "line", "(LMillstreamPayments;III[J)I"⟩
abbrev cL_limit : ByteArray := method_5_code
def yL_limit : MethodName := ⟨RL, "limit", "(LMillstreamPayments;IIII[J)I"⟩
abbrev cL_out : ByteArray := method_6_code
def yL_out : MethodName := ⟨RL, "out", "(LMillstreamPayments;IZ[J)I"⟩
abbrev cL_holiday : ByteArray := method_7_code
def yL_holiday : MethodName := ⟨RL, "holiday", "(LMillstreamPayments;IIZ[J)I"⟩
abbrev cL_list : ByteArray := method_8_code
def yL_list : MethodName := ⟨RL, "list", "(LMillstreamPayments;IZ[J)I"⟩
abbrev cL_send : ByteArray := method_9_code
def yL_send : MethodName := ⟨RL, "send", "(LMillstreamPayments;IIIIIIIZIZ[J)I"⟩
abbrev cL_join : ByteArray := method_10_code
def yL_join : MethodName := ⟨RL, "join", "(LMillstreamPayments;II)I"⟩
abbrev cL_withdraw : ByteArray := method_11_code
def yL_withdraw : MethodName := ⟨RL, "withdraw", "(LMillstreamPayments;I[J)I"⟩
abbrev cL_release : ByteArray := method_12_code
def yL_release : MethodName := ⟨RL, "release", "(LMillstreamPayments;II[J)I"⟩
abbrev cL_refuse : ByteArray := method_13_code
def yL_refuse : MethodName := ⟨RL, "refuse", "(LMillstreamPayments;I[J)I"⟩
abbrev cL_offset : ByteArray := method_14_code
def yL_offset : MethodName := ⟨RL, "offset", "(LMillstreamPayments;I[J)I"⟩
abbrev cL_recall : ByteArray := method_15_code
def yL_recall : MethodName := ⟨RL, "recall", "(LMillstreamPayments;I[J)I"⟩
abbrev cL_answer : ByteArray := method_16_code
def yL_answer : MethodName := ⟨RL, "answer", "(LMillstreamPayments;IZ[J)I"⟩
abbrev cL_endDay : ByteArray := method_17_code
def yL_endDay : MethodName := ⟨RL, "endDay", "(LMillstreamPayments;[J)I"⟩
abbrev cL_account : ByteArray := method_18_code
def yL_account : MethodName := ⟨RL, "account", "(LMillstreamPayments;II[J)I"⟩
abbrev cL_accountAnew : ByteArray := method_19_code
def yL_accountAnew : MethodName := ⟨RL, "accountAnew", "(LMillstreamPayments;II[J)I"⟩
abbrev cL_paid : ByteArray := method_20_code
def yL_paid : MethodName := ⟨RL, "paid", "(LMillstreamPayments;III[J)I"⟩
abbrev cL_stateOf : ByteArray := method_21_code
def yL_stateOf : MethodName := ⟨RL, "stateOf", "(LMillstreamPayments;I[J)I"⟩
abbrev cL_queueAt : ByteArray := method_22_code
def yL_queueAt : MethodName := ⟨RL, "queueAt", "(LMillstreamPayments;III[J)I"⟩
abbrev cL_entryAt : ByteArray := method_23_code
def yL_entryAt : MethodName := ⟨RL, "entryAt", "(LMillstreamPayments;II[J)I"⟩
abbrev cL_advice : ByteArray := method_24_code
def yL_advice : MethodName := ⟨RL, "advice", "(LMillstreamPayments;I[J)I"⟩
abbrev cL_again : ByteArray := method_25_code
def yL_again : MethodName := ⟨RL, "again", "(LMillstreamPayments;II[J)I"⟩
abbrev cL_law : ByteArray := code
def yL_law : MethodName := ⟨RL, "law", "([I)Z"⟩
abbrev vwCl : List vw_C := [(RJx4a65c, TJx4a65c, 3), (RX0, TX0, 5), (RX1, TX1, 4), (RX2, TX2, 3), (RX3, TX3, 1), (RX4, TX4, 2), (RX5, TX5, 5), (RX6, TX6, 8), (RX7, TX7, 9), (RX8, TX8, 2), (RX9, TX9, 1), (RX10, TX10, 9), (RX11, TX11, 1), (RX12, TX12, 37)]
end
section
theorem gd_in {B big ws : List Cond} (hB : ∀ w ∈ B, w ∈ big) (hg : B.all goodWord = true) (h : ∀ w ∈ ws, w ∈ B) : GoodIn big ws := fun w hw => ⟨hB w (h w hw), good_of_word (List.all_eq_true.mp hg w (h w hw))⟩
theorem gd_V {B : List Cond} {l i s n c : Cond} (h1 : l ∈ B) (h2 : i ∈ B) (h3 : s ∈ B) (h4 : n ∈ B) (h5 : c ∈ B) : ∀ w ∈ ([l, i, s, n] ++ (c :: B) : List Cond), w ∈ B := by
  intro w hw
  simp only [List.cons_append, List.nil_append, List.mem_cons] at hw
  rcases hw with rfl | rfl | rfl | rfl | rfl | h <;> assumption
theorem gd_S {B : List Cond} {l s n c : Cond} (h1 : l ∈ B) (h3 : s ∈ B) (h4 : n ∈ B) (h5 : c ∈ B) : ∀ w ∈ ([l, s, n] ++ (c :: B) : List Cond), w ∈ B := by
  intro w hw
  simp only [List.cons_append, List.nil_append, List.mem_cons] at hw
  rcases hw with rfl | rfl | rfl | rfl | h <;> assumption
def wsM_0 : List Cond := [.methodLink RX12 1 objectInit, .instanceMethod objectInit, .code objectInit ⟨#[0xb1]⟩ 1 none, .arrayClass .long, .fieldLink RX12 7 "MillstreamPaymentsModel" "account" "[J", .arrayClass .int, .fieldLink RX12 13 "MillstreamPaymentsModel" "line" "[I", .fieldLink RX12 17 "MillstreamPaymentsModel" "limit" "[I", .fieldLink RX12 20 "MillstreamPaymentsModel" "paid" "[J", .arrayClass .boolean, .fieldLink RX12 23 "MillstreamPaymentsModel" "isOut" "[Z", .fieldLink RX12 27 "MillstreamPaymentsModel" "isHoliday" "[Z", .fieldLink RX12 30 "MillstreamPaymentsModel" "isListed" "[Z", .fieldLink RX12 33 "MillstreamPaymentsModel" "from" "[I", .fieldLink RX12 36 "MillstreamPaymentsModel" "to" "[I", .fieldLink RX12 39 "MillstreamPaymentsModel" "currency" "[I", .fieldLink RX12 42 "MillstreamPaymentsModel" "amount" "[I", .fieldLink RX12 45 "MillstreamPaymentsModel" "payee" "[I", .fieldLink RX12 48 "MillstreamPaymentsModel" "rank" "[I", .fieldLink RX12 51 "MillstreamPaymentsModel" "isReal" "[Z", .fieldLink RX12 54 "MillstreamPaymentsModel" "day" "[I", .fieldLink RX12 57 "MillstreamPaymentsModel" "stays" "[Z", .fieldLink RX12 60 "MillstreamPaymentsModel" "state" "[I", .fieldLink RX12 63 "MillstreamPaymentsModel" "isReleased" "[Z", .fieldLink RX12 66 "MillstreamPaymentsModel" "officer" "[I"]
def wsM_1 : List Cond := [.fieldLink RX12 69 "MillstreamPaymentsModel" "leg" "[I", .fieldLink RX12 72 "MillstreamPaymentsModel" "finalOn" "[I", .fieldLink RX12 75 "MillstreamPaymentsModel" "recalledOn" "[I", .fieldLink RX12 78 "MillstreamPaymentsModel" "isAnswered" "[Z", .fieldLink RX12 81 "MillstreamPaymentsModel" "message" "[I", .fieldLink RX12 84 "MillstreamPaymentsModel" "finished" "[I", .fieldLink RX12 87 "MillstreamPaymentsModel" "taken" "[I", .fieldLink RX12 90 "MillstreamPaymentsModel" "most" "[I", .constant RX12 93 (150000), .fieldLink RX12 94 "MillstreamPaymentsModel" "entry" "[J", .fieldLink RX12 97 "MillstreamPaymentsModel" "isIn" "[Z", .fieldLink RX12 100 "MillstreamPaymentsModel" "more" "[J", .fieldLink RX12 103 "MillstreamPaymentsModel" "morePaid" "[J", .fieldLink RX12 106 "MillstreamPaymentsModel" "thrown" "I", .methodLink RX12 110 yX12_in, .static yX12_in, .initialized RX12, .code yX12_in cX12_in 3 (some .boolean), .fieldLink RX12 114 "MillstreamPaymentsModel" "payments" "I", .fieldLink RX12 117 "MillstreamPaymentsModel" "entries" "I", .methodLink RX12 120 yX12_of, .static yX12_of, .code yX12_of cX12_of 2 (some .int), .methodLink RX12 124 yX12_pair, .static yX12_pair]
def wsM_2 : List Cond := [.code yX12_pair cX12_pair 3 (some .int), .methodLink RX12 128 yX12_isShort, .instanceMethod yX12_isShort, .selects RX12 yX12_isShort yX12_isShort, .code yX12_isShort cX12_isShort 4 (some .boolean), .methodLink RX12 132 yX12_isPassed, .instanceMethod yX12_isPassed, .selects RX12 yX12_isPassed yX12_isPassed, .code yX12_isPassed cX12_isPassed 5 (some .boolean), .fieldLink RX12 135 "MillstreamPaymentsModel" "today" "I", .methodLink RX12 138 yX12_isOpen, .instanceMethod yX12_isOpen, .selects RX12 yX12_isOpen yX12_isOpen, .code yX12_isOpen cX12_isOpen 3 (some .boolean), .fieldLink RX12 145 "MillstreamPaymentsModel" "finals" "I", .methodLink RX12 141 yX12_books, .instanceMethod yX12_books, .selects RX12 yX12_books yX12_books, .code yX12_books cX12_books 7 none, .methodLink RX12 148 yX12_queued, .instanceMethod yX12_queued, .selects RX12 yX12_queued yX12_queued, .code yX12_queued cX12_queued 7 (some .int), .methodLink RX12 151 yX12_clears, .instanceMethod yX12_clears]
def wsM_3 : List Cond := [.selects RX12 yX12_clears yX12_clears, .code yX12_clears cX12_clears 2 none, .methodLink RX12 154 yX12_sums, .instanceMethod yX12_sums, .selects RX12 yX12_sums yX12_sums, .code yX12_sums cX12_sums 2 none, .methodLink RX12 157 yX12_areAtWork, .instanceMethod yX12_areAtWork, .selects RX12 yX12_areAtWork yX12_areAtWork, .code yX12_areAtWork cX12_areAtWork 3 (some .boolean), .methodLink RX12 161 yX12_fits, .instanceMethod yX12_fits, .selects RX12 yX12_fits yX12_fits, .code yX12_fits cX12_fits 5 (some .boolean), .methodLink RX12 165 yX12_settles, .instanceMethod yX12_settles, .selects RX12 yX12_settles yX12_settles, .code yX12_settles cX12_settles 3 (some .int), .methodLink RX12 169 yX12_settlesFirst, .instanceMethod yX12_settlesFirst, .selects RX12 yX12_settlesFirst yX12_settlesFirst, .code yX12_settlesFirst cX12_settlesFirst 4 (some .int), .methodLink RX12 172 yX12_last, .instanceMethod yX12_last, .selects RX12 yX12_last yX12_last]
def wsM_4 : List Cond := [.code yX12_last cX12_last 7 (some .int), .methodLink RX12 176 yX12_isShortAny, .instanceMethod yX12_isShortAny, .selects RX12 yX12_isShortAny yX12_isShortAny, .code yX12_isShortAny cX12_isShortAny 4 (some .boolean), .methodLink RX12 179 yX12_enters, .instanceMethod yX12_enters, .selects RX12 yX12_enters yX12_enters, .code yX12_enters cX12_enters 2 none, .constant RX12 192 (1000000), .fieldLink RX12 201 "MillstreamPaymentsModel" "doubles" "I", .methodLink RX12 183 yX12_isBank, .static yX12_isBank, .code yX12_isBank cX12_isBank 1 (some .boolean), .methodLink RX12 186 yX12_isCurrency, .static yX12_isCurrency, .code yX12_isCurrency cX12_isCurrency 1 (some .boolean), .methodLink RX12 189 yX12_isName, .static yX12_isName, .code yX12_isName cX12_isName 1 (some .boolean), .methodLink RX12 193 yX12_isAlike, .instanceMethod yX12_isAlike, .selects RX12 yX12_isAlike yX12_isAlike, .code yX12_isAlike cX12_isAlike 10 (some .boolean), .methodLink RX12 197 yX12_goes]
def wsM_5 : List Cond := [.instanceMethod yX12_goes, .selects RX12 yX12_goes yX12_goes, .code yX12_goes cX12_goes 4 (some .boolean), .methodLink RX12 204 yX12_comes, .instanceMethod yX12_comes, .selects RX12 yX12_comes yX12_comes, .code yX12_comes cX12_comes 11 (some .int), .methodLink RX12 208 yX12_runs, .instanceMethod yX12_runs, .selects RX12 yX12_runs yX12_runs, .code yX12_runs cX12_runs 5 (some .int), .methodLink RX12 211 yX12_ends, .instanceMethod yX12_ends, .selects RX12 yX12_ends yX12_ends, .code yX12_ends cX12_ends 2 (some .boolean), .methodLink RX12 214 yX12_isPayment, .instanceMethod yX12_isPayment, .selects RX12 yX12_isPayment yX12_isPayment, .code yX12_isPayment cX12_isPayment 2 (some .boolean), .methodLink RX12 217 yX12_canJoin, .instanceMethod yX12_canJoin, .selects RX12 yX12_canJoin yX12_canJoin, .code yX12_canJoin cX12_canJoin 4 (some .boolean), .methodLink RX12 220 yX12_returns, .instanceMethod yX12_returns]
def wsM_6 : List Cond := [.selects RX12 yX12_returns yX12_returns, .code yX12_returns cX12_returns 3 (some .int), .methodLink RX12 224 yX12_reduces, .instanceMethod yX12_reduces, .selects RX12 yX12_reduces yX12_reduces, .code yX12_reduces cX12_reduces 5 (some .int), .constantLong RX12 228 (99), .constantLong RX12 230 (100), .methodLink RX12 232 yX12_cutsOff, .instanceMethod yX12_cutsOff, .selects RX12 yX12_cutsOff yX12_cutsOff, .code yX12_cutsOff cX12_cutsOff 3 (some .int), .methodLink RX12 235 yX12_charges, .instanceMethod yX12_charges, .selects RX12 yX12_charges yX12_charges, .code yX12_charges cX12_charges 8 none, .methodLink RX12 239 yX12_isAccount, .static yX12_isAccount, .code yX12_isAccount cX12_isAccount 1 (some .boolean), .methodLink RX12 242 yX12_adviceAt, .instanceMethod yX12_adviceAt, .selects RX12 yX12_adviceAt yX12_adviceAt, .code yX12_adviceAt cX12_adviceAt 5 (some .int)]
def wsM : List Cond := (wsM_0 ++ (wsM_1 ++ (wsM_2 ++ (wsM_3 ++ (wsM_4 ++ (wsM_5 ++ (wsM_6 ++ wsX120)))))))
theorem wsMw_0 : (.methodLink RX12 1 objectInit : Cond) ∈ wsM := List.mem_append_left _ (List.mem_of_getElem? (l := wsM_0) (i := 0) rfl)
theorem wsMw_1 : (.instanceMethod objectInit : Cond) ∈ wsM := List.mem_append_left _ (List.mem_of_getElem? (l := wsM_0) (i := 1) rfl)
theorem wsMw_2 : (.code objectInit ⟨#[0xb1]⟩ 1 none : Cond) ∈ wsM := List.mem_append_left _ (List.mem_of_getElem? (l := wsM_0) (i := 2) rfl)
theorem wsMw_3 : (.arrayClass .long : Cond) ∈ wsM := List.mem_append_left _ (List.mem_of_getElem? (l := wsM_0) (i := 3) rfl)
theorem wsMw_4 : (.fieldLink RX12 7 "MillstreamPaymentsModel" "account" "[J" : Cond) ∈ wsM := List.mem_append_left _ (List.mem_of_getElem? (l := wsM_0) (i := 4) rfl)
theorem wsMw_5 : (.arrayClass .int : Cond) ∈ wsM := List.mem_append_left _ (List.mem_of_getElem? (l := wsM_0) (i := 5) rfl)
theorem wsMw_6 : (.fieldLink RX12 13 "MillstreamPaymentsModel" "line" "[I" : Cond) ∈ wsM := List.mem_append_left _ (List.mem_of_getElem? (l := wsM_0) (i := 6) rfl)
theorem wsMw_7 : (.fieldLink RX12 17 "MillstreamPaymentsModel" "limit" "[I" : Cond) ∈ wsM := List.mem_append_left _ (List.mem_of_getElem? (l := wsM_0) (i := 7) rfl)
theorem wsMw_8 : (.fieldLink RX12 20 "MillstreamPaymentsModel" "paid" "[J" : Cond) ∈ wsM := List.mem_append_left _ (List.mem_of_getElem? (l := wsM_0) (i := 8) rfl)
theorem wsMw_9 : (.arrayClass .boolean : Cond) ∈ wsM := List.mem_append_left _ (List.mem_of_getElem? (l := wsM_0) (i := 9) rfl)
theorem wsMw_10 : (.fieldLink RX12 23 "MillstreamPaymentsModel" "isOut" "[Z" : Cond) ∈ wsM := List.mem_append_left _ (List.mem_of_getElem? (l := wsM_0) (i := 10) rfl)
theorem wsMw_11 : (.fieldLink RX12 27 "MillstreamPaymentsModel" "isHoliday" "[Z" : Cond) ∈ wsM := List.mem_append_left _ (List.mem_of_getElem? (l := wsM_0) (i := 11) rfl)
theorem wsMw_12 : (.fieldLink RX12 30 "MillstreamPaymentsModel" "isListed" "[Z" : Cond) ∈ wsM := List.mem_append_left _ (List.mem_of_getElem? (l := wsM_0) (i := 12) rfl)
theorem wsMw_13 : (.fieldLink RX12 33 "MillstreamPaymentsModel" "from" "[I" : Cond) ∈ wsM := List.mem_append_left _ (List.mem_of_getElem? (l := wsM_0) (i := 13) rfl)
theorem wsMw_14 : (.fieldLink RX12 36 "MillstreamPaymentsModel" "to" "[I" : Cond) ∈ wsM := List.mem_append_left _ (List.mem_of_getElem? (l := wsM_0) (i := 14) rfl)
theorem wsMw_15 : (.fieldLink RX12 39 "MillstreamPaymentsModel" "currency" "[I" : Cond) ∈ wsM := List.mem_append_left _ (List.mem_of_getElem? (l := wsM_0) (i := 15) rfl)
theorem wsMw_16 : (.fieldLink RX12 42 "MillstreamPaymentsModel" "amount" "[I" : Cond) ∈ wsM := List.mem_append_left _ (List.mem_of_getElem? (l := wsM_0) (i := 16) rfl)
theorem wsMw_17 : (.fieldLink RX12 45 "MillstreamPaymentsModel" "payee" "[I" : Cond) ∈ wsM := List.mem_append_left _ (List.mem_of_getElem? (l := wsM_0) (i := 17) rfl)
theorem wsMw_18 : (.fieldLink RX12 48 "MillstreamPaymentsModel" "rank" "[I" : Cond) ∈ wsM := List.mem_append_left _ (List.mem_of_getElem? (l := wsM_0) (i := 18) rfl)
theorem wsMw_19 : (.fieldLink RX12 51 "MillstreamPaymentsModel" "isReal" "[Z" : Cond) ∈ wsM := List.mem_append_left _ (List.mem_of_getElem? (l := wsM_0) (i := 19) rfl)
theorem wsMw_20 : (.fieldLink RX12 54 "MillstreamPaymentsModel" "day" "[I" : Cond) ∈ wsM := List.mem_append_left _ (List.mem_of_getElem? (l := wsM_0) (i := 20) rfl)
theorem wsMw_21 : (.fieldLink RX12 57 "MillstreamPaymentsModel" "stays" "[Z" : Cond) ∈ wsM := List.mem_append_left _ (List.mem_of_getElem? (l := wsM_0) (i := 21) rfl)
theorem wsMw_22 : (.fieldLink RX12 60 "MillstreamPaymentsModel" "state" "[I" : Cond) ∈ wsM := List.mem_append_left _ (List.mem_of_getElem? (l := wsM_0) (i := 22) rfl)
theorem wsMw_23 : (.fieldLink RX12 63 "MillstreamPaymentsModel" "isReleased" "[Z" : Cond) ∈ wsM := List.mem_append_left _ (List.mem_of_getElem? (l := wsM_0) (i := 23) rfl)
theorem wsMw_24 : (.fieldLink RX12 66 "MillstreamPaymentsModel" "officer" "[I" : Cond) ∈ wsM := List.mem_append_left _ (List.mem_of_getElem? (l := wsM_0) (i := 24) rfl)
theorem wsMw_25 : (.fieldLink RX12 69 "MillstreamPaymentsModel" "leg" "[I" : Cond) ∈ wsM := List.mem_append_right _ (List.mem_append_left _ (List.mem_of_getElem? (l := wsM_1) (i := 0) rfl))
theorem wsMw_26 : (.fieldLink RX12 72 "MillstreamPaymentsModel" "finalOn" "[I" : Cond) ∈ wsM := List.mem_append_right _ (List.mem_append_left _ (List.mem_of_getElem? (l := wsM_1) (i := 1) rfl))
theorem wsMw_27 : (.fieldLink RX12 75 "MillstreamPaymentsModel" "recalledOn" "[I" : Cond) ∈ wsM := List.mem_append_right _ (List.mem_append_left _ (List.mem_of_getElem? (l := wsM_1) (i := 2) rfl))
theorem wsMw_28 : (.fieldLink RX12 78 "MillstreamPaymentsModel" "isAnswered" "[Z" : Cond) ∈ wsM := List.mem_append_right _ (List.mem_append_left _ (List.mem_of_getElem? (l := wsM_1) (i := 3) rfl))
theorem wsMw_29 : (.fieldLink RX12 81 "MillstreamPaymentsModel" "message" "[I" : Cond) ∈ wsM := List.mem_append_right _ (List.mem_append_left _ (List.mem_of_getElem? (l := wsM_1) (i := 4) rfl))
theorem wsMw_30 : (.fieldLink RX12 84 "MillstreamPaymentsModel" "finished" "[I" : Cond) ∈ wsM := List.mem_append_right _ (List.mem_append_left _ (List.mem_of_getElem? (l := wsM_1) (i := 5) rfl))
theorem wsMw_31 : (.fieldLink RX12 87 "MillstreamPaymentsModel" "taken" "[I" : Cond) ∈ wsM := List.mem_append_right _ (List.mem_append_left _ (List.mem_of_getElem? (l := wsM_1) (i := 6) rfl))
theorem wsMw_32 : (.fieldLink RX12 90 "MillstreamPaymentsModel" "most" "[I" : Cond) ∈ wsM := List.mem_append_right _ (List.mem_append_left _ (List.mem_of_getElem? (l := wsM_1) (i := 7) rfl))
theorem wsMw_33 : (.constant RX12 93 (150000) : Cond) ∈ wsM := List.mem_append_right _ (List.mem_append_left _ (List.mem_of_getElem? (l := wsM_1) (i := 8) rfl))
theorem wsMw_34 : (.fieldLink RX12 94 "MillstreamPaymentsModel" "entry" "[J" : Cond) ∈ wsM := List.mem_append_right _ (List.mem_append_left _ (List.mem_of_getElem? (l := wsM_1) (i := 9) rfl))
theorem wsMw_35 : (.fieldLink RX12 97 "MillstreamPaymentsModel" "isIn" "[Z" : Cond) ∈ wsM := List.mem_append_right _ (List.mem_append_left _ (List.mem_of_getElem? (l := wsM_1) (i := 10) rfl))
theorem wsMw_36 : (.fieldLink RX12 100 "MillstreamPaymentsModel" "more" "[J" : Cond) ∈ wsM := List.mem_append_right _ (List.mem_append_left _ (List.mem_of_getElem? (l := wsM_1) (i := 11) rfl))
theorem wsMw_37 : (.fieldLink RX12 103 "MillstreamPaymentsModel" "morePaid" "[J" : Cond) ∈ wsM := List.mem_append_right _ (List.mem_append_left _ (List.mem_of_getElem? (l := wsM_1) (i := 12) rfl))
theorem wsMw_38 : (.fieldLink RX12 106 "MillstreamPaymentsModel" "thrown" "I" : Cond) ∈ wsM := List.mem_append_right _ (List.mem_append_left _ (List.mem_of_getElem? (l := wsM_1) (i := 13) rfl))
theorem wsMw_39 : (.methodLink RX12 110 yX12_in : Cond) ∈ wsM := List.mem_append_right _ (List.mem_append_left _ (List.mem_of_getElem? (l := wsM_1) (i := 14) rfl))
theorem wsMw_40 : (.static yX12_in : Cond) ∈ wsM := List.mem_append_right _ (List.mem_append_left _ (List.mem_of_getElem? (l := wsM_1) (i := 15) rfl))
theorem wsMw_41 : (.initialized RX12 : Cond) ∈ wsM := List.mem_append_right _ (List.mem_append_left _ (List.mem_of_getElem? (l := wsM_1) (i := 16) rfl))
theorem wsMw_42 : (.code yX12_in cX12_in 3 (some .boolean) : Cond) ∈ wsM := List.mem_append_right _ (List.mem_append_left _ (List.mem_of_getElem? (l := wsM_1) (i := 17) rfl))
theorem wsMw_43 : (.fieldLink RX12 114 "MillstreamPaymentsModel" "payments" "I" : Cond) ∈ wsM := List.mem_append_right _ (List.mem_append_left _ (List.mem_of_getElem? (l := wsM_1) (i := 18) rfl))
theorem wsMw_44 : (.fieldLink RX12 117 "MillstreamPaymentsModel" "entries" "I" : Cond) ∈ wsM := List.mem_append_right _ (List.mem_append_left _ (List.mem_of_getElem? (l := wsM_1) (i := 19) rfl))
theorem wsMw_45 : (.methodLink RX12 120 yX12_of : Cond) ∈ wsM := List.mem_append_right _ (List.mem_append_left _ (List.mem_of_getElem? (l := wsM_1) (i := 20) rfl))
theorem wsMw_46 : (.static yX12_of : Cond) ∈ wsM := List.mem_append_right _ (List.mem_append_left _ (List.mem_of_getElem? (l := wsM_1) (i := 21) rfl))
theorem wsMw_47 : (.code yX12_of cX12_of 2 (some .int) : Cond) ∈ wsM := List.mem_append_right _ (List.mem_append_left _ (List.mem_of_getElem? (l := wsM_1) (i := 22) rfl))
theorem wsMw_48 : (.methodLink RX12 124 yX12_pair : Cond) ∈ wsM := List.mem_append_right _ (List.mem_append_left _ (List.mem_of_getElem? (l := wsM_1) (i := 23) rfl))
theorem wsMw_49 : (.static yX12_pair : Cond) ∈ wsM := List.mem_append_right _ (List.mem_append_left _ (List.mem_of_getElem? (l := wsM_1) (i := 24) rfl))
theorem wsMw_50 : (.code yX12_pair cX12_pair 3 (some .int) : Cond) ∈ wsM := List.mem_append_right _ (List.mem_append_right _ (List.mem_append_left _ (List.mem_of_getElem? (l := wsM_2) (i := 0) rfl)))
theorem wsMw_51 : (.methodLink RX12 128 yX12_isShort : Cond) ∈ wsM := List.mem_append_right _ (List.mem_append_right _ (List.mem_append_left _ (List.mem_of_getElem? (l := wsM_2) (i := 1) rfl)))
theorem wsMw_52 : (.instanceMethod yX12_isShort : Cond) ∈ wsM := List.mem_append_right _ (List.mem_append_right _ (List.mem_append_left _ (List.mem_of_getElem? (l := wsM_2) (i := 2) rfl)))
theorem wsMw_53 : (.selects RX12 yX12_isShort yX12_isShort : Cond) ∈ wsM := List.mem_append_right _ (List.mem_append_right _ (List.mem_append_left _ (List.mem_of_getElem? (l := wsM_2) (i := 3) rfl)))
theorem wsMw_54 : (.code yX12_isShort cX12_isShort 4 (some .boolean) : Cond) ∈ wsM := List.mem_append_right _ (List.mem_append_right _ (List.mem_append_left _ (List.mem_of_getElem? (l := wsM_2) (i := 4) rfl)))
theorem wsMw_55 : (.methodLink RX12 132 yX12_isPassed : Cond) ∈ wsM := List.mem_append_right _ (List.mem_append_right _ (List.mem_append_left _ (List.mem_of_getElem? (l := wsM_2) (i := 5) rfl)))
theorem wsMw_56 : (.instanceMethod yX12_isPassed : Cond) ∈ wsM := List.mem_append_right _ (List.mem_append_right _ (List.mem_append_left _ (List.mem_of_getElem? (l := wsM_2) (i := 6) rfl)))
theorem wsMw_57 : (.selects RX12 yX12_isPassed yX12_isPassed : Cond) ∈ wsM := List.mem_append_right _ (List.mem_append_right _ (List.mem_append_left _ (List.mem_of_getElem? (l := wsM_2) (i := 7) rfl)))
theorem wsMw_58 : (.code yX12_isPassed cX12_isPassed 5 (some .boolean) : Cond) ∈ wsM := List.mem_append_right _ (List.mem_append_right _ (List.mem_append_left _ (List.mem_of_getElem? (l := wsM_2) (i := 8) rfl)))
theorem wsMw_59 : (.fieldLink RX12 135 "MillstreamPaymentsModel" "today" "I" : Cond) ∈ wsM := List.mem_append_right _ (List.mem_append_right _ (List.mem_append_left _ (List.mem_of_getElem? (l := wsM_2) (i := 9) rfl)))
theorem wsMw_60 : (.methodLink RX12 138 yX12_isOpen : Cond) ∈ wsM := List.mem_append_right _ (List.mem_append_right _ (List.mem_append_left _ (List.mem_of_getElem? (l := wsM_2) (i := 10) rfl)))
theorem wsMw_61 : (.instanceMethod yX12_isOpen : Cond) ∈ wsM := List.mem_append_right _ (List.mem_append_right _ (List.mem_append_left _ (List.mem_of_getElem? (l := wsM_2) (i := 11) rfl)))
theorem wsMw_62 : (.selects RX12 yX12_isOpen yX12_isOpen : Cond) ∈ wsM := List.mem_append_right _ (List.mem_append_right _ (List.mem_append_left _ (List.mem_of_getElem? (l := wsM_2) (i := 12) rfl)))
theorem wsMw_63 : (.code yX12_isOpen cX12_isOpen 3 (some .boolean) : Cond) ∈ wsM := List.mem_append_right _ (List.mem_append_right _ (List.mem_append_left _ (List.mem_of_getElem? (l := wsM_2) (i := 13) rfl)))
theorem wsMw_64 : (.fieldLink RX12 145 "MillstreamPaymentsModel" "finals" "I" : Cond) ∈ wsM := List.mem_append_right _ (List.mem_append_right _ (List.mem_append_left _ (List.mem_of_getElem? (l := wsM_2) (i := 14) rfl)))
theorem wsMw_65 : (.methodLink RX12 141 yX12_books : Cond) ∈ wsM := List.mem_append_right _ (List.mem_append_right _ (List.mem_append_left _ (List.mem_of_getElem? (l := wsM_2) (i := 15) rfl)))
theorem wsMw_66 : (.instanceMethod yX12_books : Cond) ∈ wsM := List.mem_append_right _ (List.mem_append_right _ (List.mem_append_left _ (List.mem_of_getElem? (l := wsM_2) (i := 16) rfl)))
theorem wsMw_67 : (.selects RX12 yX12_books yX12_books : Cond) ∈ wsM := List.mem_append_right _ (List.mem_append_right _ (List.mem_append_left _ (List.mem_of_getElem? (l := wsM_2) (i := 17) rfl)))
theorem wsMw_68 : (.code yX12_books cX12_books 7 none : Cond) ∈ wsM := List.mem_append_right _ (List.mem_append_right _ (List.mem_append_left _ (List.mem_of_getElem? (l := wsM_2) (i := 18) rfl)))
theorem wsMw_69 : (.methodLink RX12 148 yX12_queued : Cond) ∈ wsM := List.mem_append_right _ (List.mem_append_right _ (List.mem_append_left _ (List.mem_of_getElem? (l := wsM_2) (i := 19) rfl)))
theorem wsMw_70 : (.instanceMethod yX12_queued : Cond) ∈ wsM := List.mem_append_right _ (List.mem_append_right _ (List.mem_append_left _ (List.mem_of_getElem? (l := wsM_2) (i := 20) rfl)))
theorem wsMw_71 : (.selects RX12 yX12_queued yX12_queued : Cond) ∈ wsM := List.mem_append_right _ (List.mem_append_right _ (List.mem_append_left _ (List.mem_of_getElem? (l := wsM_2) (i := 21) rfl)))
theorem wsMw_72 : (.code yX12_queued cX12_queued 7 (some .int) : Cond) ∈ wsM := List.mem_append_right _ (List.mem_append_right _ (List.mem_append_left _ (List.mem_of_getElem? (l := wsM_2) (i := 22) rfl)))
theorem wsMw_73 : (.methodLink RX12 151 yX12_clears : Cond) ∈ wsM := List.mem_append_right _ (List.mem_append_right _ (List.mem_append_left _ (List.mem_of_getElem? (l := wsM_2) (i := 23) rfl)))
theorem wsMw_74 : (.instanceMethod yX12_clears : Cond) ∈ wsM := List.mem_append_right _ (List.mem_append_right _ (List.mem_append_left _ (List.mem_of_getElem? (l := wsM_2) (i := 24) rfl)))
theorem wsMw_75 : (.selects RX12 yX12_clears yX12_clears : Cond) ∈ wsM := List.mem_append_right _ (List.mem_append_right _ (List.mem_append_right _ (List.mem_append_left _ (List.mem_of_getElem? (l := wsM_3) (i := 0) rfl))))
theorem wsMw_76 : (.code yX12_clears cX12_clears 2 none : Cond) ∈ wsM := List.mem_append_right _ (List.mem_append_right _ (List.mem_append_right _ (List.mem_append_left _ (List.mem_of_getElem? (l := wsM_3) (i := 1) rfl))))
theorem wsMw_77 : (.methodLink RX12 154 yX12_sums : Cond) ∈ wsM := List.mem_append_right _ (List.mem_append_right _ (List.mem_append_right _ (List.mem_append_left _ (List.mem_of_getElem? (l := wsM_3) (i := 2) rfl))))
theorem wsMw_78 : (.instanceMethod yX12_sums : Cond) ∈ wsM := List.mem_append_right _ (List.mem_append_right _ (List.mem_append_right _ (List.mem_append_left _ (List.mem_of_getElem? (l := wsM_3) (i := 3) rfl))))
theorem wsMw_79 : (.selects RX12 yX12_sums yX12_sums : Cond) ∈ wsM := List.mem_append_right _ (List.mem_append_right _ (List.mem_append_right _ (List.mem_append_left _ (List.mem_of_getElem? (l := wsM_3) (i := 4) rfl))))
theorem wsMw_80 : (.code yX12_sums cX12_sums 2 none : Cond) ∈ wsM := List.mem_append_right _ (List.mem_append_right _ (List.mem_append_right _ (List.mem_append_left _ (List.mem_of_getElem? (l := wsM_3) (i := 5) rfl))))
theorem wsMw_81 : (.methodLink RX12 157 yX12_areAtWork : Cond) ∈ wsM := List.mem_append_right _ (List.mem_append_right _ (List.mem_append_right _ (List.mem_append_left _ (List.mem_of_getElem? (l := wsM_3) (i := 6) rfl))))
theorem wsMw_82 : (.instanceMethod yX12_areAtWork : Cond) ∈ wsM := List.mem_append_right _ (List.mem_append_right _ (List.mem_append_right _ (List.mem_append_left _ (List.mem_of_getElem? (l := wsM_3) (i := 7) rfl))))
theorem wsMw_83 : (.selects RX12 yX12_areAtWork yX12_areAtWork : Cond) ∈ wsM := List.mem_append_right _ (List.mem_append_right _ (List.mem_append_right _ (List.mem_append_left _ (List.mem_of_getElem? (l := wsM_3) (i := 8) rfl))))
theorem wsMw_84 : (.code yX12_areAtWork cX12_areAtWork 3 (some .boolean) : Cond) ∈ wsM := List.mem_append_right _ (List.mem_append_right _ (List.mem_append_right _ (List.mem_append_left _ (List.mem_of_getElem? (l := wsM_3) (i := 9) rfl))))
theorem wsMw_85 : (.methodLink RX12 161 yX12_fits : Cond) ∈ wsM := List.mem_append_right _ (List.mem_append_right _ (List.mem_append_right _ (List.mem_append_left _ (List.mem_of_getElem? (l := wsM_3) (i := 10) rfl))))
theorem wsMw_86 : (.instanceMethod yX12_fits : Cond) ∈ wsM := List.mem_append_right _ (List.mem_append_right _ (List.mem_append_right _ (List.mem_append_left _ (List.mem_of_getElem? (l := wsM_3) (i := 11) rfl))))
theorem wsMw_87 : (.selects RX12 yX12_fits yX12_fits : Cond) ∈ wsM := List.mem_append_right _ (List.mem_append_right _ (List.mem_append_right _ (List.mem_append_left _ (List.mem_of_getElem? (l := wsM_3) (i := 12) rfl))))
theorem wsMw_88 : (.code yX12_fits cX12_fits 5 (some .boolean) : Cond) ∈ wsM := List.mem_append_right _ (List.mem_append_right _ (List.mem_append_right _ (List.mem_append_left _ (List.mem_of_getElem? (l := wsM_3) (i := 13) rfl))))
theorem wsMw_89 : (.methodLink RX12 165 yX12_settles : Cond) ∈ wsM := List.mem_append_right _ (List.mem_append_right _ (List.mem_append_right _ (List.mem_append_left _ (List.mem_of_getElem? (l := wsM_3) (i := 14) rfl))))
theorem wsMw_90 : (.instanceMethod yX12_settles : Cond) ∈ wsM := List.mem_append_right _ (List.mem_append_right _ (List.mem_append_right _ (List.mem_append_left _ (List.mem_of_getElem? (l := wsM_3) (i := 15) rfl))))
theorem wsMw_91 : (.selects RX12 yX12_settles yX12_settles : Cond) ∈ wsM := List.mem_append_right _ (List.mem_append_right _ (List.mem_append_right _ (List.mem_append_left _ (List.mem_of_getElem? (l := wsM_3) (i := 16) rfl))))
theorem wsMw_92 : (.code yX12_settles cX12_settles 3 (some .int) : Cond) ∈ wsM := List.mem_append_right _ (List.mem_append_right _ (List.mem_append_right _ (List.mem_append_left _ (List.mem_of_getElem? (l := wsM_3) (i := 17) rfl))))
theorem wsMw_93 : (.methodLink RX12 169 yX12_settlesFirst : Cond) ∈ wsM := List.mem_append_right _ (List.mem_append_right _ (List.mem_append_right _ (List.mem_append_left _ (List.mem_of_getElem? (l := wsM_3) (i := 18) rfl))))
theorem wsMw_94 : (.instanceMethod yX12_settlesFirst : Cond) ∈ wsM := List.mem_append_right _ (List.mem_append_right _ (List.mem_append_right _ (List.mem_append_left _ (List.mem_of_getElem? (l := wsM_3) (i := 19) rfl))))
theorem wsMw_95 : (.selects RX12 yX12_settlesFirst yX12_settlesFirst : Cond) ∈ wsM := List.mem_append_right _ (List.mem_append_right _ (List.mem_append_right _ (List.mem_append_left _ (List.mem_of_getElem? (l := wsM_3) (i := 20) rfl))))
theorem wsMw_96 : (.code yX12_settlesFirst cX12_settlesFirst 4 (some .int) : Cond) ∈ wsM := List.mem_append_right _ (List.mem_append_right _ (List.mem_append_right _ (List.mem_append_left _ (List.mem_of_getElem? (l := wsM_3) (i := 21) rfl))))
theorem wsMw_97 : (.methodLink RX12 172 yX12_last : Cond) ∈ wsM := List.mem_append_right _ (List.mem_append_right _ (List.mem_append_right _ (List.mem_append_left _ (List.mem_of_getElem? (l := wsM_3) (i := 22) rfl))))
theorem wsMw_98 : (.instanceMethod yX12_last : Cond) ∈ wsM := List.mem_append_right _ (List.mem_append_right _ (List.mem_append_right _ (List.mem_append_left _ (List.mem_of_getElem? (l := wsM_3) (i := 23) rfl))))
theorem wsMw_99 : (.selects RX12 yX12_last yX12_last : Cond) ∈ wsM := List.mem_append_right _ (List.mem_append_right _ (List.mem_append_right _ (List.mem_append_left _ (List.mem_of_getElem? (l := wsM_3) (i := 24) rfl))))
theorem wsMw_100 : (.code yX12_last cX12_last 7 (some .int) : Cond) ∈ wsM := List.mem_append_right _ (List.mem_append_right _ (List.mem_append_right _ (List.mem_append_right _ (List.mem_append_left _ (List.mem_of_getElem? (l := wsM_4) (i := 0) rfl)))))
theorem wsMw_101 : (.methodLink RX12 176 yX12_isShortAny : Cond) ∈ wsM := List.mem_append_right _ (List.mem_append_right _ (List.mem_append_right _ (List.mem_append_right _ (List.mem_append_left _ (List.mem_of_getElem? (l := wsM_4) (i := 1) rfl)))))
theorem wsMw_102 : (.instanceMethod yX12_isShortAny : Cond) ∈ wsM := List.mem_append_right _ (List.mem_append_right _ (List.mem_append_right _ (List.mem_append_right _ (List.mem_append_left _ (List.mem_of_getElem? (l := wsM_4) (i := 2) rfl)))))
theorem wsMw_103 : (.selects RX12 yX12_isShortAny yX12_isShortAny : Cond) ∈ wsM := List.mem_append_right _ (List.mem_append_right _ (List.mem_append_right _ (List.mem_append_right _ (List.mem_append_left _ (List.mem_of_getElem? (l := wsM_4) (i := 3) rfl)))))
theorem wsMw_104 : (.code yX12_isShortAny cX12_isShortAny 4 (some .boolean) : Cond) ∈ wsM := List.mem_append_right _ (List.mem_append_right _ (List.mem_append_right _ (List.mem_append_right _ (List.mem_append_left _ (List.mem_of_getElem? (l := wsM_4) (i := 4) rfl)))))
theorem wsMw_105 : (.methodLink RX12 179 yX12_enters : Cond) ∈ wsM := List.mem_append_right _ (List.mem_append_right _ (List.mem_append_right _ (List.mem_append_right _ (List.mem_append_left _ (List.mem_of_getElem? (l := wsM_4) (i := 5) rfl)))))
theorem wsMw_106 : (.instanceMethod yX12_enters : Cond) ∈ wsM := List.mem_append_right _ (List.mem_append_right _ (List.mem_append_right _ (List.mem_append_right _ (List.mem_append_left _ (List.mem_of_getElem? (l := wsM_4) (i := 6) rfl)))))
theorem wsMw_107 : (.selects RX12 yX12_enters yX12_enters : Cond) ∈ wsM := List.mem_append_right _ (List.mem_append_right _ (List.mem_append_right _ (List.mem_append_right _ (List.mem_append_left _ (List.mem_of_getElem? (l := wsM_4) (i := 7) rfl)))))
theorem wsMw_108 : (.code yX12_enters cX12_enters 2 none : Cond) ∈ wsM := List.mem_append_right _ (List.mem_append_right _ (List.mem_append_right _ (List.mem_append_right _ (List.mem_append_left _ (List.mem_of_getElem? (l := wsM_4) (i := 8) rfl)))))
theorem wsMw_109 : (.constant RX12 192 (1000000) : Cond) ∈ wsM := List.mem_append_right _ (List.mem_append_right _ (List.mem_append_right _ (List.mem_append_right _ (List.mem_append_left _ (List.mem_of_getElem? (l := wsM_4) (i := 9) rfl)))))
theorem wsMw_110 : (.fieldLink RX12 201 "MillstreamPaymentsModel" "doubles" "I" : Cond) ∈ wsM := List.mem_append_right _ (List.mem_append_right _ (List.mem_append_right _ (List.mem_append_right _ (List.mem_append_left _ (List.mem_of_getElem? (l := wsM_4) (i := 10) rfl)))))
theorem wsMw_111 : (.methodLink RX12 183 yX12_isBank : Cond) ∈ wsM := List.mem_append_right _ (List.mem_append_right _ (List.mem_append_right _ (List.mem_append_right _ (List.mem_append_left _ (List.mem_of_getElem? (l := wsM_4) (i := 11) rfl)))))
theorem wsMw_112 : (.static yX12_isBank : Cond) ∈ wsM := List.mem_append_right _ (List.mem_append_right _ (List.mem_append_right _ (List.mem_append_right _ (List.mem_append_left _ (List.mem_of_getElem? (l := wsM_4) (i := 12) rfl)))))
theorem wsMw_113 : (.code yX12_isBank cX12_isBank 1 (some .boolean) : Cond) ∈ wsM := List.mem_append_right _ (List.mem_append_right _ (List.mem_append_right _ (List.mem_append_right _ (List.mem_append_left _ (List.mem_of_getElem? (l := wsM_4) (i := 13) rfl)))))
theorem wsMw_114 : (.methodLink RX12 186 yX12_isCurrency : Cond) ∈ wsM := List.mem_append_right _ (List.mem_append_right _ (List.mem_append_right _ (List.mem_append_right _ (List.mem_append_left _ (List.mem_of_getElem? (l := wsM_4) (i := 14) rfl)))))
theorem wsMw_115 : (.static yX12_isCurrency : Cond) ∈ wsM := List.mem_append_right _ (List.mem_append_right _ (List.mem_append_right _ (List.mem_append_right _ (List.mem_append_left _ (List.mem_of_getElem? (l := wsM_4) (i := 15) rfl)))))
theorem wsMw_116 : (.code yX12_isCurrency cX12_isCurrency 1 (some .boolean) : Cond) ∈ wsM := List.mem_append_right _ (List.mem_append_right _ (List.mem_append_right _ (List.mem_append_right _ (List.mem_append_left _ (List.mem_of_getElem? (l := wsM_4) (i := 16) rfl)))))
theorem wsMw_117 : (.methodLink RX12 189 yX12_isName : Cond) ∈ wsM := List.mem_append_right _ (List.mem_append_right _ (List.mem_append_right _ (List.mem_append_right _ (List.mem_append_left _ (List.mem_of_getElem? (l := wsM_4) (i := 17) rfl)))))
theorem wsMw_118 : (.static yX12_isName : Cond) ∈ wsM := List.mem_append_right _ (List.mem_append_right _ (List.mem_append_right _ (List.mem_append_right _ (List.mem_append_left _ (List.mem_of_getElem? (l := wsM_4) (i := 18) rfl)))))
theorem wsMw_119 : (.code yX12_isName cX12_isName 1 (some .boolean) : Cond) ∈ wsM := List.mem_append_right _ (List.mem_append_right _ (List.mem_append_right _ (List.mem_append_right _ (List.mem_append_left _ (List.mem_of_getElem? (l := wsM_4) (i := 19) rfl)))))
theorem wsMw_120 : (.methodLink RX12 193 yX12_isAlike : Cond) ∈ wsM := List.mem_append_right _ (List.mem_append_right _ (List.mem_append_right _ (List.mem_append_right _ (List.mem_append_left _ (List.mem_of_getElem? (l := wsM_4) (i := 20) rfl)))))
theorem wsMw_121 : (.instanceMethod yX12_isAlike : Cond) ∈ wsM := List.mem_append_right _ (List.mem_append_right _ (List.mem_append_right _ (List.mem_append_right _ (List.mem_append_left _ (List.mem_of_getElem? (l := wsM_4) (i := 21) rfl)))))
theorem wsMw_122 : (.selects RX12 yX12_isAlike yX12_isAlike : Cond) ∈ wsM := List.mem_append_right _ (List.mem_append_right _ (List.mem_append_right _ (List.mem_append_right _ (List.mem_append_left _ (List.mem_of_getElem? (l := wsM_4) (i := 22) rfl)))))
theorem wsMw_123 : (.code yX12_isAlike cX12_isAlike 10 (some .boolean) : Cond) ∈ wsM := List.mem_append_right _ (List.mem_append_right _ (List.mem_append_right _ (List.mem_append_right _ (List.mem_append_left _ (List.mem_of_getElem? (l := wsM_4) (i := 23) rfl)))))
theorem wsMw_124 : (.methodLink RX12 197 yX12_goes : Cond) ∈ wsM := List.mem_append_right _ (List.mem_append_right _ (List.mem_append_right _ (List.mem_append_right _ (List.mem_append_left _ (List.mem_of_getElem? (l := wsM_4) (i := 24) rfl)))))
theorem wsMw_125 : (.instanceMethod yX12_goes : Cond) ∈ wsM := List.mem_append_right _ (List.mem_append_right _ (List.mem_append_right _ (List.mem_append_right _ (List.mem_append_right _ (List.mem_append_left _ (List.mem_of_getElem? (l := wsM_5) (i := 0) rfl))))))
theorem wsMw_126 : (.selects RX12 yX12_goes yX12_goes : Cond) ∈ wsM := List.mem_append_right _ (List.mem_append_right _ (List.mem_append_right _ (List.mem_append_right _ (List.mem_append_right _ (List.mem_append_left _ (List.mem_of_getElem? (l := wsM_5) (i := 1) rfl))))))
theorem wsMw_127 : (.code yX12_goes cX12_goes 4 (some .boolean) : Cond) ∈ wsM := List.mem_append_right _ (List.mem_append_right _ (List.mem_append_right _ (List.mem_append_right _ (List.mem_append_right _ (List.mem_append_left _ (List.mem_of_getElem? (l := wsM_5) (i := 2) rfl))))))
theorem wsMw_128 : (.methodLink RX12 204 yX12_comes : Cond) ∈ wsM := List.mem_append_right _ (List.mem_append_right _ (List.mem_append_right _ (List.mem_append_right _ (List.mem_append_right _ (List.mem_append_left _ (List.mem_of_getElem? (l := wsM_5) (i := 3) rfl))))))
theorem wsMw_129 : (.instanceMethod yX12_comes : Cond) ∈ wsM := List.mem_append_right _ (List.mem_append_right _ (List.mem_append_right _ (List.mem_append_right _ (List.mem_append_right _ (List.mem_append_left _ (List.mem_of_getElem? (l := wsM_5) (i := 4) rfl))))))
theorem wsMw_130 : (.selects RX12 yX12_comes yX12_comes : Cond) ∈ wsM := List.mem_append_right _ (List.mem_append_right _ (List.mem_append_right _ (List.mem_append_right _ (List.mem_append_right _ (List.mem_append_left _ (List.mem_of_getElem? (l := wsM_5) (i := 5) rfl))))))
theorem wsMw_131 : (.code yX12_comes cX12_comes 11 (some .int) : Cond) ∈ wsM := List.mem_append_right _ (List.mem_append_right _ (List.mem_append_right _ (List.mem_append_right _ (List.mem_append_right _ (List.mem_append_left _ (List.mem_of_getElem? (l := wsM_5) (i := 6) rfl))))))
theorem wsMw_132 : (.methodLink RX12 208 yX12_runs : Cond) ∈ wsM := List.mem_append_right _ (List.mem_append_right _ (List.mem_append_right _ (List.mem_append_right _ (List.mem_append_right _ (List.mem_append_left _ (List.mem_of_getElem? (l := wsM_5) (i := 7) rfl))))))
theorem wsMw_133 : (.instanceMethod yX12_runs : Cond) ∈ wsM := List.mem_append_right _ (List.mem_append_right _ (List.mem_append_right _ (List.mem_append_right _ (List.mem_append_right _ (List.mem_append_left _ (List.mem_of_getElem? (l := wsM_5) (i := 8) rfl))))))
theorem wsMw_134 : (.selects RX12 yX12_runs yX12_runs : Cond) ∈ wsM := List.mem_append_right _ (List.mem_append_right _ (List.mem_append_right _ (List.mem_append_right _ (List.mem_append_right _ (List.mem_append_left _ (List.mem_of_getElem? (l := wsM_5) (i := 9) rfl))))))
theorem wsMw_135 : (.code yX12_runs cX12_runs 5 (some .int) : Cond) ∈ wsM := List.mem_append_right _ (List.mem_append_right _ (List.mem_append_right _ (List.mem_append_right _ (List.mem_append_right _ (List.mem_append_left _ (List.mem_of_getElem? (l := wsM_5) (i := 10) rfl))))))
theorem wsMw_136 : (.methodLink RX12 211 yX12_ends : Cond) ∈ wsM := List.mem_append_right _ (List.mem_append_right _ (List.mem_append_right _ (List.mem_append_right _ (List.mem_append_right _ (List.mem_append_left _ (List.mem_of_getElem? (l := wsM_5) (i := 11) rfl))))))
theorem wsMw_137 : (.instanceMethod yX12_ends : Cond) ∈ wsM := List.mem_append_right _ (List.mem_append_right _ (List.mem_append_right _ (List.mem_append_right _ (List.mem_append_right _ (List.mem_append_left _ (List.mem_of_getElem? (l := wsM_5) (i := 12) rfl))))))
theorem wsMw_138 : (.selects RX12 yX12_ends yX12_ends : Cond) ∈ wsM := List.mem_append_right _ (List.mem_append_right _ (List.mem_append_right _ (List.mem_append_right _ (List.mem_append_right _ (List.mem_append_left _ (List.mem_of_getElem? (l := wsM_5) (i := 13) rfl))))))
theorem wsMw_139 : (.code yX12_ends cX12_ends 2 (some .boolean) : Cond) ∈ wsM := List.mem_append_right _ (List.mem_append_right _ (List.mem_append_right _ (List.mem_append_right _ (List.mem_append_right _ (List.mem_append_left _ (List.mem_of_getElem? (l := wsM_5) (i := 14) rfl))))))
theorem wsMw_140 : (.methodLink RX12 214 yX12_isPayment : Cond) ∈ wsM := List.mem_append_right _ (List.mem_append_right _ (List.mem_append_right _ (List.mem_append_right _ (List.mem_append_right _ (List.mem_append_left _ (List.mem_of_getElem? (l := wsM_5) (i := 15) rfl))))))
theorem wsMw_141 : (.instanceMethod yX12_isPayment : Cond) ∈ wsM := List.mem_append_right _ (List.mem_append_right _ (List.mem_append_right _ (List.mem_append_right _ (List.mem_append_right _ (List.mem_append_left _ (List.mem_of_getElem? (l := wsM_5) (i := 16) rfl))))))
theorem wsMw_142 : (.selects RX12 yX12_isPayment yX12_isPayment : Cond) ∈ wsM := List.mem_append_right _ (List.mem_append_right _ (List.mem_append_right _ (List.mem_append_right _ (List.mem_append_right _ (List.mem_append_left _ (List.mem_of_getElem? (l := wsM_5) (i := 17) rfl))))))
theorem wsMw_143 : (.code yX12_isPayment cX12_isPayment 2 (some .boolean) : Cond) ∈ wsM := List.mem_append_right _ (List.mem_append_right _ (List.mem_append_right _ (List.mem_append_right _ (List.mem_append_right _ (List.mem_append_left _ (List.mem_of_getElem? (l := wsM_5) (i := 18) rfl))))))
theorem wsMw_144 : (.methodLink RX12 217 yX12_canJoin : Cond) ∈ wsM := List.mem_append_right _ (List.mem_append_right _ (List.mem_append_right _ (List.mem_append_right _ (List.mem_append_right _ (List.mem_append_left _ (List.mem_of_getElem? (l := wsM_5) (i := 19) rfl))))))
theorem wsMw_145 : (.instanceMethod yX12_canJoin : Cond) ∈ wsM := List.mem_append_right _ (List.mem_append_right _ (List.mem_append_right _ (List.mem_append_right _ (List.mem_append_right _ (List.mem_append_left _ (List.mem_of_getElem? (l := wsM_5) (i := 20) rfl))))))
theorem wsMw_146 : (.selects RX12 yX12_canJoin yX12_canJoin : Cond) ∈ wsM := List.mem_append_right _ (List.mem_append_right _ (List.mem_append_right _ (List.mem_append_right _ (List.mem_append_right _ (List.mem_append_left _ (List.mem_of_getElem? (l := wsM_5) (i := 21) rfl))))))
theorem wsMw_147 : (.code yX12_canJoin cX12_canJoin 4 (some .boolean) : Cond) ∈ wsM := List.mem_append_right _ (List.mem_append_right _ (List.mem_append_right _ (List.mem_append_right _ (List.mem_append_right _ (List.mem_append_left _ (List.mem_of_getElem? (l := wsM_5) (i := 22) rfl))))))
theorem wsMw_148 : (.methodLink RX12 220 yX12_returns : Cond) ∈ wsM := List.mem_append_right _ (List.mem_append_right _ (List.mem_append_right _ (List.mem_append_right _ (List.mem_append_right _ (List.mem_append_left _ (List.mem_of_getElem? (l := wsM_5) (i := 23) rfl))))))
theorem wsMw_149 : (.instanceMethod yX12_returns : Cond) ∈ wsM := List.mem_append_right _ (List.mem_append_right _ (List.mem_append_right _ (List.mem_append_right _ (List.mem_append_right _ (List.mem_append_left _ (List.mem_of_getElem? (l := wsM_5) (i := 24) rfl))))))
theorem wsMw_150 : (.selects RX12 yX12_returns yX12_returns : Cond) ∈ wsM := List.mem_append_right _ (List.mem_append_right _ (List.mem_append_right _ (List.mem_append_right _ (List.mem_append_right _ (List.mem_append_right _ (List.mem_append_left _ (List.mem_of_getElem? (l := wsM_6) (i := 0) rfl)))))))
theorem wsMw_151 : (.code yX12_returns cX12_returns 3 (some .int) : Cond) ∈ wsM := List.mem_append_right _ (List.mem_append_right _ (List.mem_append_right _ (List.mem_append_right _ (List.mem_append_right _ (List.mem_append_right _ (List.mem_append_left _ (List.mem_of_getElem? (l := wsM_6) (i := 1) rfl)))))))
theorem wsMw_152 : (.methodLink RX12 224 yX12_reduces : Cond) ∈ wsM := List.mem_append_right _ (List.mem_append_right _ (List.mem_append_right _ (List.mem_append_right _ (List.mem_append_right _ (List.mem_append_right _ (List.mem_append_left _ (List.mem_of_getElem? (l := wsM_6) (i := 2) rfl)))))))
theorem wsMw_153 : (.instanceMethod yX12_reduces : Cond) ∈ wsM := List.mem_append_right _ (List.mem_append_right _ (List.mem_append_right _ (List.mem_append_right _ (List.mem_append_right _ (List.mem_append_right _ (List.mem_append_left _ (List.mem_of_getElem? (l := wsM_6) (i := 3) rfl)))))))
theorem wsMw_154 : (.selects RX12 yX12_reduces yX12_reduces : Cond) ∈ wsM := List.mem_append_right _ (List.mem_append_right _ (List.mem_append_right _ (List.mem_append_right _ (List.mem_append_right _ (List.mem_append_right _ (List.mem_append_left _ (List.mem_of_getElem? (l := wsM_6) (i := 4) rfl)))))))
theorem wsMw_155 : (.code yX12_reduces cX12_reduces 5 (some .int) : Cond) ∈ wsM := List.mem_append_right _ (List.mem_append_right _ (List.mem_append_right _ (List.mem_append_right _ (List.mem_append_right _ (List.mem_append_right _ (List.mem_append_left _ (List.mem_of_getElem? (l := wsM_6) (i := 5) rfl)))))))
theorem wsMw_156 : (.constantLong RX12 228 (99) : Cond) ∈ wsM := List.mem_append_right _ (List.mem_append_right _ (List.mem_append_right _ (List.mem_append_right _ (List.mem_append_right _ (List.mem_append_right _ (List.mem_append_left _ (List.mem_of_getElem? (l := wsM_6) (i := 6) rfl)))))))
theorem wsMw_157 : (.constantLong RX12 230 (100) : Cond) ∈ wsM := List.mem_append_right _ (List.mem_append_right _ (List.mem_append_right _ (List.mem_append_right _ (List.mem_append_right _ (List.mem_append_right _ (List.mem_append_left _ (List.mem_of_getElem? (l := wsM_6) (i := 7) rfl)))))))
theorem wsMw_158 : (.methodLink RX12 232 yX12_cutsOff : Cond) ∈ wsM := List.mem_append_right _ (List.mem_append_right _ (List.mem_append_right _ (List.mem_append_right _ (List.mem_append_right _ (List.mem_append_right _ (List.mem_append_left _ (List.mem_of_getElem? (l := wsM_6) (i := 8) rfl)))))))
theorem wsMw_159 : (.instanceMethod yX12_cutsOff : Cond) ∈ wsM := List.mem_append_right _ (List.mem_append_right _ (List.mem_append_right _ (List.mem_append_right _ (List.mem_append_right _ (List.mem_append_right _ (List.mem_append_left _ (List.mem_of_getElem? (l := wsM_6) (i := 9) rfl)))))))
theorem wsMw_160 : (.selects RX12 yX12_cutsOff yX12_cutsOff : Cond) ∈ wsM := List.mem_append_right _ (List.mem_append_right _ (List.mem_append_right _ (List.mem_append_right _ (List.mem_append_right _ (List.mem_append_right _ (List.mem_append_left _ (List.mem_of_getElem? (l := wsM_6) (i := 10) rfl)))))))
theorem wsMw_161 : (.code yX12_cutsOff cX12_cutsOff 3 (some .int) : Cond) ∈ wsM := List.mem_append_right _ (List.mem_append_right _ (List.mem_append_right _ (List.mem_append_right _ (List.mem_append_right _ (List.mem_append_right _ (List.mem_append_left _ (List.mem_of_getElem? (l := wsM_6) (i := 11) rfl)))))))
theorem wsMw_162 : (.methodLink RX12 235 yX12_charges : Cond) ∈ wsM := List.mem_append_right _ (List.mem_append_right _ (List.mem_append_right _ (List.mem_append_right _ (List.mem_append_right _ (List.mem_append_right _ (List.mem_append_left _ (List.mem_of_getElem? (l := wsM_6) (i := 12) rfl)))))))
theorem wsMw_163 : (.instanceMethod yX12_charges : Cond) ∈ wsM := List.mem_append_right _ (List.mem_append_right _ (List.mem_append_right _ (List.mem_append_right _ (List.mem_append_right _ (List.mem_append_right _ (List.mem_append_left _ (List.mem_of_getElem? (l := wsM_6) (i := 13) rfl)))))))
theorem wsMw_164 : (.selects RX12 yX12_charges yX12_charges : Cond) ∈ wsM := List.mem_append_right _ (List.mem_append_right _ (List.mem_append_right _ (List.mem_append_right _ (List.mem_append_right _ (List.mem_append_right _ (List.mem_append_left _ (List.mem_of_getElem? (l := wsM_6) (i := 14) rfl)))))))
theorem wsMw_165 : (.code yX12_charges cX12_charges 8 none : Cond) ∈ wsM := List.mem_append_right _ (List.mem_append_right _ (List.mem_append_right _ (List.mem_append_right _ (List.mem_append_right _ (List.mem_append_right _ (List.mem_append_left _ (List.mem_of_getElem? (l := wsM_6) (i := 15) rfl)))))))
theorem wsMw_166 : (.methodLink RX12 239 yX12_isAccount : Cond) ∈ wsM := List.mem_append_right _ (List.mem_append_right _ (List.mem_append_right _ (List.mem_append_right _ (List.mem_append_right _ (List.mem_append_right _ (List.mem_append_left _ (List.mem_of_getElem? (l := wsM_6) (i := 16) rfl)))))))
theorem wsMw_167 : (.static yX12_isAccount : Cond) ∈ wsM := List.mem_append_right _ (List.mem_append_right _ (List.mem_append_right _ (List.mem_append_right _ (List.mem_append_right _ (List.mem_append_right _ (List.mem_append_left _ (List.mem_of_getElem? (l := wsM_6) (i := 17) rfl)))))))
theorem wsMw_168 : (.code yX12_isAccount cX12_isAccount 1 (some .boolean) : Cond) ∈ wsM := List.mem_append_right _ (List.mem_append_right _ (List.mem_append_right _ (List.mem_append_right _ (List.mem_append_right _ (List.mem_append_right _ (List.mem_append_left _ (List.mem_of_getElem? (l := wsM_6) (i := 18) rfl)))))))
theorem wsMw_169 : (.methodLink RX12 242 yX12_adviceAt : Cond) ∈ wsM := List.mem_append_right _ (List.mem_append_right _ (List.mem_append_right _ (List.mem_append_right _ (List.mem_append_right _ (List.mem_append_right _ (List.mem_append_left _ (List.mem_of_getElem? (l := wsM_6) (i := 19) rfl)))))))
theorem wsMw_170 : (.instanceMethod yX12_adviceAt : Cond) ∈ wsM := List.mem_append_right _ (List.mem_append_right _ (List.mem_append_right _ (List.mem_append_right _ (List.mem_append_right _ (List.mem_append_right _ (List.mem_append_left _ (List.mem_of_getElem? (l := wsM_6) (i := 20) rfl)))))))
theorem wsMw_171 : (.selects RX12 yX12_adviceAt yX12_adviceAt : Cond) ∈ wsM := List.mem_append_right _ (List.mem_append_right _ (List.mem_append_right _ (List.mem_append_right _ (List.mem_append_right _ (List.mem_append_right _ (List.mem_append_left _ (List.mem_of_getElem? (l := wsM_6) (i := 21) rfl)))))))
theorem wsMw_172 : (.code yX12_adviceAt cX12_adviceAt 5 (some .int) : Cond) ∈ wsM := List.mem_append_right _ (List.mem_append_right _ (List.mem_append_right _ (List.mem_append_right _ (List.mem_append_right _ (List.mem_append_right _ (List.mem_append_left _ (List.mem_of_getElem? (l := wsM_6) (i := 22) rfl)))))))
theorem wsM_good : wsM.all goodWord = true := by decide +kernel
theorem wsM_cls {x : Cond} : ∀ w ∈ wsX120, w ∈ x :: wsM := fun w h => List.mem_cons_of_mem _ (List.mem_append_right _ (List.mem_append_right _ (List.mem_append_right _ (List.mem_append_right _ (List.mem_append_right _ (List.mem_append_right _ (List.mem_append_right _ (h))))))))
abbrev vX12_init : List Cond := .code yX12_init cX12_init 2 none :: wsM
abbrev vX12_thrown : List Cond := .code yX12_thrown cX12_thrown 1 (some .int) :: wsM
abbrev vX12_in : List Cond := .code yX12_in cX12_in 3 (some .boolean) :: wsM
abbrev vX12_goes : List Cond := .code yX12_goes cX12_goes 4 (some .boolean) :: wsM
abbrev vX12_isBank : List Cond := .code yX12_isBank cX12_isBank 1 (some .boolean) :: wsM
abbrev vX12_isCurrency : List Cond := .code yX12_isCurrency cX12_isCurrency 1 (some .boolean) :: wsM
abbrev vX12_isName : List Cond := .code yX12_isName cX12_isName 1 (some .boolean) :: wsM
abbrev vX12_isPayment : List Cond := .code yX12_isPayment cX12_isPayment 2 (some .boolean) :: wsM
abbrev vX12_of : List Cond := .code yX12_of cX12_of 2 (some .int) :: wsM
abbrev vX12_pair : List Cond := .code yX12_pair cX12_pair 3 (some .int) :: wsM
abbrev vX12_isOpen : List Cond := .code yX12_isOpen cX12_isOpen 3 (some .boolean) :: wsM
abbrev vX12_ends : List Cond := .code yX12_ends cX12_ends 2 (some .boolean) :: wsM
abbrev vX12_books : List Cond := .code yX12_books cX12_books 7 none :: wsM
abbrev vX12_clears : List Cond := .code yX12_clears cX12_clears 2 none :: wsM
abbrev vX12_sums : List Cond := .code yX12_sums cX12_sums 2 none :: wsM
abbrev vX12_isShort : List Cond := .code yX12_isShort cX12_isShort 4 (some .boolean) :: wsM
abbrev vX12_isPassed : List Cond := .code yX12_isPassed cX12_isPassed 5 (some .boolean) :: wsM
abbrev vX12_fits : List Cond := .code yX12_fits cX12_fits 5 (some .boolean) :: wsM
abbrev vX12_areAtWork : List Cond := .code yX12_areAtWork cX12_areAtWork 3 (some .boolean) :: wsM
abbrev vX12_settles : List Cond := .code yX12_settles cX12_settles 3 (some .int) :: wsM
abbrev vX12_queued : List Cond := .code yX12_queued cX12_queued 7 (some .int) :: wsM
abbrev vX12_settlesFirst : List Cond := .code yX12_settlesFirst cX12_settlesFirst 4 (some .int) :: wsM
abbrev vX12_runs : List Cond := .code yX12_runs cX12_runs 5 (some .int) :: wsM
abbrev vX12_last : List Cond := .code yX12_last cX12_last 7 (some .int) :: wsM
abbrev vX12_isShortAny : List Cond := .code yX12_isShortAny cX12_isShortAny 4 (some .boolean) :: wsM
abbrev vX12_reduces : List Cond := .code yX12_reduces cX12_reduces 5 (some .int) :: wsM
abbrev vX12_enters : List Cond := .code yX12_enters cX12_enters 2 none :: wsM
abbrev vX12_comes : List Cond := .code yX12_comes cX12_comes 11 (some .int) :: wsM
abbrev vX12_isAlike : List Cond := .code yX12_isAlike cX12_isAlike 10 (some .boolean) :: wsM
abbrev vX12_send : List Cond := .code yX12_send cX12_send 16 (some .int) :: wsM
abbrev vX12_doubles : List Cond := .code yX12_doubles cX12_doubles 1 (some .int) :: wsM
abbrev vX12_canJoin : List Cond := .code yX12_canJoin cX12_canJoin 4 (some .boolean) :: wsM
abbrev vX12_join : List Cond := .code yX12_join cX12_join 5 none :: wsM
abbrev vX12_returns : List Cond := .code yX12_returns cX12_returns 3 (some .int) :: wsM
abbrev vX12_withdraw : List Cond := .code yX12_withdraw cX12_withdraw 5 (some .int) :: wsM
abbrev vX12_release : List Cond := .code yX12_release cX12_release 6 (some .boolean) :: wsM
abbrev vX12_refuse : List Cond := .code yX12_refuse cX12_refuse 5 (some .int) :: wsM
abbrev vX12_offset : List Cond := .code yX12_offset cX12_offset 4 (some .int) :: wsM
abbrev vX12_recall : List Cond := .code yX12_recall cX12_recall 3 (some .int) :: wsM
abbrev vX12_answer : List Cond := .code yX12_answer cX12_answer 7 (some .int) :: wsM
abbrev vX12_fund : List Cond := .code yX12_fund cX12_fund 5 (some .long) :: wsM
abbrev vX12_line : List Cond := .code yX12_line cX12_line 6 (some .int) :: wsM
abbrev vX12_limit : List Cond := .code yX12_limit cX12_limit 8 (some .int) :: wsM
abbrev vX12_out : List Cond := .code yX12_out cX12_out 5 (some .boolean) :: wsM
abbrev vX12_holiday : List Cond := .code yX12_holiday cX12_holiday 5 (some .boolean) :: wsM
abbrev vX12_list : List Cond := .code yX12_list cX12_list 5 (some .int) :: wsM
abbrev vX12_cutsOff : List Cond := .code yX12_cutsOff cX12_cutsOff 3 (some .int) :: wsM
abbrev vX12_charges : List Cond := .code yX12_charges cX12_charges 8 none :: wsM
abbrev vX12_endDay : List Cond := .code yX12_endDay cX12_endDay 4 (some .int) :: wsM
abbrev vX12_today : List Cond := .code yX12_today cX12_today 1 (some .int) :: wsM
abbrev vX12_isAccount : List Cond := .code yX12_isAccount cX12_isAccount 1 (some .boolean) :: wsM
abbrev vX12_account : List Cond := .code yX12_account cX12_account 3 (some .long) :: wsM
abbrev vX12_accountAnew : List Cond := .code yX12_accountAnew cX12_accountAnew 7 (some .long) :: wsM
abbrev vX12_paid : List Cond := .code yX12_paid cX12_paid 4 (some .long) :: wsM
abbrev vX12_payments : List Cond := .code yX12_payments cX12_payments 1 (some .int) :: wsM
abbrev vX12_stateOf : List Cond := .code yX12_stateOf cX12_stateOf 2 (some .int) :: wsM
abbrev vX12_queueAt : List Cond := .code yX12_queueAt cX12_queueAt 4 (some .int) :: wsM
abbrev vX12_entries : List Cond := .code yX12_entries cX12_entries 1 (some .int) :: wsM
abbrev vX12_entryAt : List Cond := .code yX12_entryAt cX12_entryAt 3 (some .long) :: wsM
abbrev vX12_adviceAt : List Cond := .code yX12_adviceAt cX12_adviceAt 5 (some .int) :: wsM
abbrev vX12_advice : List Cond := .code yX12_advice cX12_advice 3 (some .int) :: wsM
abbrev vX12_again : List Cond := .code yX12_again cX12_again 6 (some .int) :: wsM
theorem aM_long {x : Cond} : (.arrayClass .long : Cond) ∈ x :: wsM := List.mem_cons_of_mem _ wsMw_3
theorem lM_account {x : Cond} : Cond.fieldLink RX12 7 RX12 "account" "[J" ∈ x :: wsM := List.mem_cons_of_mem _ wsMw_4
theorem aM_int {x : Cond} : (.arrayClass .int : Cond) ∈ x :: wsM := List.mem_cons_of_mem _ wsMw_5
theorem lM_line {x : Cond} : Cond.fieldLink RX12 13 RX12 "line" "[I" ∈ x :: wsM := List.mem_cons_of_mem _ wsMw_6
theorem lM_limit {x : Cond} : Cond.fieldLink RX12 17 RX12 "limit" "[I" ∈ x :: wsM := List.mem_cons_of_mem _ wsMw_7
theorem lM_paid {x : Cond} : Cond.fieldLink RX12 20 RX12 "paid" "[J" ∈ x :: wsM := List.mem_cons_of_mem _ wsMw_8
theorem aM_boolean {x : Cond} : (.arrayClass .boolean : Cond) ∈ x :: wsM := List.mem_cons_of_mem _ wsMw_9
theorem lM_isOut {x : Cond} : Cond.fieldLink RX12 23 RX12 "isOut" "[Z" ∈ x :: wsM := List.mem_cons_of_mem _ wsMw_10
theorem lM_isHoliday {x : Cond} : Cond.fieldLink RX12 27 RX12 "isHoliday" "[Z" ∈ x :: wsM := List.mem_cons_of_mem _ wsMw_11
theorem lM_isListed {x : Cond} : Cond.fieldLink RX12 30 RX12 "isListed" "[Z" ∈ x :: wsM := List.mem_cons_of_mem _ wsMw_12
theorem lM_from {x : Cond} : Cond.fieldLink RX12 33 RX12 "from" "[I" ∈ x :: wsM := List.mem_cons_of_mem _ wsMw_13
theorem lM_to {x : Cond} : Cond.fieldLink RX12 36 RX12 "to" "[I" ∈ x :: wsM := List.mem_cons_of_mem _ wsMw_14
theorem lM_currency {x : Cond} : Cond.fieldLink RX12 39 RX12 "currency" "[I" ∈ x :: wsM := List.mem_cons_of_mem _ wsMw_15
theorem lM_amount {x : Cond} : Cond.fieldLink RX12 42 RX12 "amount" "[I" ∈ x :: wsM := List.mem_cons_of_mem _ wsMw_16
theorem lM_payee {x : Cond} : Cond.fieldLink RX12 45 RX12 "payee" "[I" ∈ x :: wsM := List.mem_cons_of_mem _ wsMw_17
theorem lM_rank {x : Cond} : Cond.fieldLink RX12 48 RX12 "rank" "[I" ∈ x :: wsM := List.mem_cons_of_mem _ wsMw_18
theorem lM_isReal {x : Cond} : Cond.fieldLink RX12 51 RX12 "isReal" "[Z" ∈ x :: wsM := List.mem_cons_of_mem _ wsMw_19
theorem lM_day {x : Cond} : Cond.fieldLink RX12 54 RX12 "day" "[I" ∈ x :: wsM := List.mem_cons_of_mem _ wsMw_20
theorem lM_stays {x : Cond} : Cond.fieldLink RX12 57 RX12 "stays" "[Z" ∈ x :: wsM := List.mem_cons_of_mem _ wsMw_21
theorem lM_state {x : Cond} : Cond.fieldLink RX12 60 RX12 "state" "[I" ∈ x :: wsM := List.mem_cons_of_mem _ wsMw_22
theorem lM_isReleased {x : Cond} : Cond.fieldLink RX12 63 RX12 "isReleased" "[Z" ∈ x :: wsM := List.mem_cons_of_mem _ wsMw_23
theorem lM_officer {x : Cond} : Cond.fieldLink RX12 66 RX12 "officer" "[I" ∈ x :: wsM := List.mem_cons_of_mem _ wsMw_24
theorem lM_leg {x : Cond} : Cond.fieldLink RX12 69 RX12 "leg" "[I" ∈ x :: wsM := List.mem_cons_of_mem _ wsMw_25
theorem lM_finalOn {x : Cond} : Cond.fieldLink RX12 72 RX12 "finalOn" "[I" ∈ x :: wsM := List.mem_cons_of_mem _ wsMw_26
theorem lM_recalledOn {x : Cond} : Cond.fieldLink RX12 75 RX12 "recalledOn" "[I" ∈ x :: wsM := List.mem_cons_of_mem _ wsMw_27
theorem lM_isAnswered {x : Cond} : Cond.fieldLink RX12 78 RX12 "isAnswered" "[Z" ∈ x :: wsM := List.mem_cons_of_mem _ wsMw_28
theorem lM_message {x : Cond} : Cond.fieldLink RX12 81 RX12 "message" "[I" ∈ x :: wsM := List.mem_cons_of_mem _ wsMw_29
theorem lM_finished {x : Cond} : Cond.fieldLink RX12 84 RX12 "finished" "[I" ∈ x :: wsM := List.mem_cons_of_mem _ wsMw_30
theorem lM_taken {x : Cond} : Cond.fieldLink RX12 87 RX12 "taken" "[I" ∈ x :: wsM := List.mem_cons_of_mem _ wsMw_31
theorem lM_most {x : Cond} : Cond.fieldLink RX12 90 RX12 "most" "[I" ∈ x :: wsM := List.mem_cons_of_mem _ wsMw_32
theorem kM_93 {x : Cond} : (.constant RX12 93 (150000) : Cond) ∈ x :: wsM := List.mem_cons_of_mem _ wsMw_33
theorem lM_entry {x : Cond} : Cond.fieldLink RX12 94 RX12 "entry" "[J" ∈ x :: wsM := List.mem_cons_of_mem _ wsMw_34
theorem lM_isIn {x : Cond} : Cond.fieldLink RX12 97 RX12 "isIn" "[Z" ∈ x :: wsM := List.mem_cons_of_mem _ wsMw_35
theorem lM_more {x : Cond} : Cond.fieldLink RX12 100 RX12 "more" "[J" ∈ x :: wsM := List.mem_cons_of_mem _ wsMw_36
theorem lM_morePaid {x : Cond} : Cond.fieldLink RX12 103 RX12 "morePaid" "[J" ∈ x :: wsM := List.mem_cons_of_mem _ wsMw_37
theorem lM_thrown {x : Cond} : Cond.fieldLink RX12 106 RX12 "thrown" "I" ∈ x :: wsM := List.mem_cons_of_mem _ wsMw_38
theorem gM_X12_in {x : Cond} : GoodIn (x :: wsM) (va_wsS RX12 110 yX12_in vX12_in) := gd_in (fun w h => List.mem_cons_of_mem _ h) wsM_good (gd_S wsMw_39 wsMw_40 wsMw_41 wsMw_42)
theorem lM_payments {x : Cond} : Cond.fieldLink RX12 114 RX12 "payments" "I" ∈ x :: wsM := List.mem_cons_of_mem _ wsMw_43
theorem lM_entries {x : Cond} : Cond.fieldLink RX12 117 RX12 "entries" "I" ∈ x :: wsM := List.mem_cons_of_mem _ wsMw_44
theorem gM_X12_of {x : Cond} : GoodIn (x :: wsM) (va_wsS RX12 120 yX12_of vX12_of) := gd_in (fun w h => List.mem_cons_of_mem _ h) wsM_good (gd_S wsMw_45 wsMw_46 wsMw_41 wsMw_47)
theorem gM_X12_pair {x : Cond} : GoodIn (x :: wsM) (va_wsS RX12 124 yX12_pair vX12_pair) := gd_in (fun w h => List.mem_cons_of_mem _ h) wsM_good (gd_S wsMw_48 wsMw_49 wsMw_41 wsMw_50)
theorem gM_X12_isShort {x : Cond} : GoodIn (x :: wsM) (wsV RX12 128 RX12 yX12_isShort vX12_isShort) := gd_in (fun w h => List.mem_cons_of_mem _ h) wsM_good (gd_V wsMw_51 wsMw_52 wsMw_53 wsMw_41 wsMw_54)
theorem gM_X12_isPassed {x : Cond} : GoodIn (x :: wsM) (wsV RX12 132 RX12 yX12_isPassed vX12_isPassed) := gd_in (fun w h => List.mem_cons_of_mem _ h) wsM_good (gd_V wsMw_55 wsMw_56 wsMw_57 wsMw_41 wsMw_58)
theorem lM_today {x : Cond} : Cond.fieldLink RX12 135 RX12 "today" "I" ∈ x :: wsM := List.mem_cons_of_mem _ wsMw_59
theorem gM_X12_isOpen {x : Cond} : GoodIn (x :: wsM) (wsV RX12 138 RX12 yX12_isOpen vX12_isOpen) := gd_in (fun w h => List.mem_cons_of_mem _ h) wsM_good (gd_V wsMw_60 wsMw_61 wsMw_62 wsMw_41 wsMw_63)
theorem lM_finals {x : Cond} : Cond.fieldLink RX12 145 RX12 "finals" "I" ∈ x :: wsM := List.mem_cons_of_mem _ wsMw_64
theorem gM_X12_books {x : Cond} : GoodIn (x :: wsM) (wsV RX12 141 RX12 yX12_books vX12_books) := gd_in (fun w h => List.mem_cons_of_mem _ h) wsM_good (gd_V wsMw_65 wsMw_66 wsMw_67 wsMw_41 wsMw_68)
theorem gM_X12_queued {x : Cond} : GoodIn (x :: wsM) (wsV RX12 148 RX12 yX12_queued vX12_queued) := gd_in (fun w h => List.mem_cons_of_mem _ h) wsM_good (gd_V wsMw_69 wsMw_70 wsMw_71 wsMw_41 wsMw_72)
theorem gM_X12_clears {x : Cond} : GoodIn (x :: wsM) (wsV RX12 151 RX12 yX12_clears vX12_clears) := gd_in (fun w h => List.mem_cons_of_mem _ h) wsM_good (gd_V wsMw_73 wsMw_74 wsMw_75 wsMw_41 wsMw_76)
theorem gM_X12_sums {x : Cond} : GoodIn (x :: wsM) (wsV RX12 154 RX12 yX12_sums vX12_sums) := gd_in (fun w h => List.mem_cons_of_mem _ h) wsM_good (gd_V wsMw_77 wsMw_78 wsMw_79 wsMw_41 wsMw_80)
theorem gM_X12_areAtWork {x : Cond} : GoodIn (x :: wsM) (wsV RX12 157 RX12 yX12_areAtWork vX12_areAtWork) := gd_in (fun w h => List.mem_cons_of_mem _ h) wsM_good (gd_V wsMw_81 wsMw_82 wsMw_83 wsMw_41 wsMw_84)
theorem gM_X12_fits {x : Cond} : GoodIn (x :: wsM) (wsV RX12 161 RX12 yX12_fits vX12_fits) := gd_in (fun w h => List.mem_cons_of_mem _ h) wsM_good (gd_V wsMw_85 wsMw_86 wsMw_87 wsMw_41 wsMw_88)
theorem gM_X12_settles {x : Cond} : GoodIn (x :: wsM) (wsV RX12 165 RX12 yX12_settles vX12_settles) := gd_in (fun w h => List.mem_cons_of_mem _ h) wsM_good (gd_V wsMw_89 wsMw_90 wsMw_91 wsMw_41 wsMw_92)
theorem gM_X12_settlesFirst {x : Cond} : GoodIn (x :: wsM) (wsV RX12 169 RX12 yX12_settlesFirst vX12_settlesFirst) := gd_in (fun w h => List.mem_cons_of_mem _ h) wsM_good (gd_V wsMw_93 wsMw_94 wsMw_95 wsMw_41 wsMw_96)
theorem gM_X12_last {x : Cond} : GoodIn (x :: wsM) (wsV RX12 172 RX12 yX12_last vX12_last) := gd_in (fun w h => List.mem_cons_of_mem _ h) wsM_good (gd_V wsMw_97 wsMw_98 wsMw_99 wsMw_41 wsMw_100)
theorem gM_X12_isShortAny {x : Cond} : GoodIn (x :: wsM) (wsV RX12 176 RX12 yX12_isShortAny vX12_isShortAny) := gd_in (fun w h => List.mem_cons_of_mem _ h) wsM_good (gd_V wsMw_101 wsMw_102 wsMw_103 wsMw_41 wsMw_104)
theorem gM_X12_enters {x : Cond} : GoodIn (x :: wsM) (wsV RX12 179 RX12 yX12_enters vX12_enters) := gd_in (fun w h => List.mem_cons_of_mem _ h) wsM_good (gd_V wsMw_105 wsMw_106 wsMw_107 wsMw_41 wsMw_108)
theorem kM_192 {x : Cond} : (.constant RX12 192 (1000000) : Cond) ∈ x :: wsM := List.mem_cons_of_mem _ wsMw_109
theorem lM_doubles {x : Cond} : Cond.fieldLink RX12 201 RX12 "doubles" "I" ∈ x :: wsM := List.mem_cons_of_mem _ wsMw_110
theorem gM_X12_isBank {x : Cond} : GoodIn (x :: wsM) (va_wsS RX12 183 yX12_isBank vX12_isBank) := gd_in (fun w h => List.mem_cons_of_mem _ h) wsM_good (gd_S wsMw_111 wsMw_112 wsMw_41 wsMw_113)
theorem gM_X12_isCurrency {x : Cond} : GoodIn (x :: wsM) (va_wsS RX12 186 yX12_isCurrency vX12_isCurrency) := gd_in (fun w h => List.mem_cons_of_mem _ h) wsM_good (gd_S wsMw_114 wsMw_115 wsMw_41 wsMw_116)
theorem gM_X12_isName {x : Cond} : GoodIn (x :: wsM) (va_wsS RX12 189 yX12_isName vX12_isName) := gd_in (fun w h => List.mem_cons_of_mem _ h) wsM_good (gd_S wsMw_117 wsMw_118 wsMw_41 wsMw_119)
theorem gM_X12_isAlike {x : Cond} : GoodIn (x :: wsM) (wsV RX12 193 RX12 yX12_isAlike vX12_isAlike) := gd_in (fun w h => List.mem_cons_of_mem _ h) wsM_good (gd_V wsMw_120 wsMw_121 wsMw_122 wsMw_41 wsMw_123)
theorem gM_X12_goes {x : Cond} : GoodIn (x :: wsM) (wsV RX12 197 RX12 yX12_goes vX12_goes) := gd_in (fun w h => List.mem_cons_of_mem _ h) wsM_good (gd_V wsMw_124 wsMw_125 wsMw_126 wsMw_41 wsMw_127)
theorem gM_X12_comes {x : Cond} : GoodIn (x :: wsM) (wsV RX12 204 RX12 yX12_comes vX12_comes) := gd_in (fun w h => List.mem_cons_of_mem _ h) wsM_good (gd_V wsMw_128 wsMw_129 wsMw_130 wsMw_41 wsMw_131)
theorem gM_X12_runs {x : Cond} : GoodIn (x :: wsM) (wsV RX12 208 RX12 yX12_runs vX12_runs) := gd_in (fun w h => List.mem_cons_of_mem _ h) wsM_good (gd_V wsMw_132 wsMw_133 wsMw_134 wsMw_41 wsMw_135)
theorem gM_X12_ends {x : Cond} : GoodIn (x :: wsM) (wsV RX12 211 RX12 yX12_ends vX12_ends) := gd_in (fun w h => List.mem_cons_of_mem _ h) wsM_good (gd_V wsMw_136 wsMw_137 wsMw_138 wsMw_41 wsMw_139)
theorem gM_X12_isPayment {x : Cond} : GoodIn (x :: wsM) (wsV RX12 214 RX12 yX12_isPayment vX12_isPayment) := gd_in (fun w h => List.mem_cons_of_mem _ h) wsM_good (gd_V wsMw_140 wsMw_141 wsMw_142 wsMw_41 wsMw_143)
theorem gM_X12_canJoin {x : Cond} : GoodIn (x :: wsM) (wsV RX12 217 RX12 yX12_canJoin vX12_canJoin) := gd_in (fun w h => List.mem_cons_of_mem _ h) wsM_good (gd_V wsMw_144 wsMw_145 wsMw_146 wsMw_41 wsMw_147)
theorem gM_X12_returns {x : Cond} : GoodIn (x :: wsM) (wsV RX12 220 RX12 yX12_returns vX12_returns) := gd_in (fun w h => List.mem_cons_of_mem _ h) wsM_good (gd_V wsMw_148 wsMw_149 wsMw_150 wsMw_41 wsMw_151)
theorem gM_X12_reduces {x : Cond} : GoodIn (x :: wsM) (wsV RX12 224 RX12 yX12_reduces vX12_reduces) := gd_in (fun w h => List.mem_cons_of_mem _ h) wsM_good (gd_V wsMw_152 wsMw_153 wsMw_154 wsMw_41 wsMw_155)
theorem kM_228 {x : Cond} : (.constantLong RX12 228 (99) : Cond) ∈ x :: wsM := List.mem_cons_of_mem _ wsMw_156
theorem kM_230 {x : Cond} : (.constantLong RX12 230 (100) : Cond) ∈ x :: wsM := List.mem_cons_of_mem _ wsMw_157
theorem gM_X12_cutsOff {x : Cond} : GoodIn (x :: wsM) (wsV RX12 232 RX12 yX12_cutsOff vX12_cutsOff) := gd_in (fun w h => List.mem_cons_of_mem _ h) wsM_good (gd_V wsMw_158 wsMw_159 wsMw_160 wsMw_41 wsMw_161)
theorem gM_X12_charges {x : Cond} : GoodIn (x :: wsM) (wsV RX12 235 RX12 yX12_charges vX12_charges) := gd_in (fun w h => List.mem_cons_of_mem _ h) wsM_good (gd_V wsMw_162 wsMw_163 wsMw_164 wsMw_41 wsMw_165)
theorem gM_X12_isAccount {x : Cond} : GoodIn (x :: wsM) (va_wsS RX12 239 yX12_isAccount vX12_isAccount) := gd_in (fun w h => List.mem_cons_of_mem _ h) wsM_good (gd_S wsMw_166 wsMw_167 wsMw_41 wsMw_168)
theorem gM_X12_adviceAt {x : Cond} : GoodIn (x :: wsM) (wsV RX12 242 RX12 yX12_adviceAt vX12_adviceAt) := gd_in (fun w h => List.mem_cons_of_mem _ h) wsM_good (gd_V wsMw_169 wsMw_170 wsMw_171 wsMw_41 wsMw_172)
end
section
theorem dX12_init_0 : decode cX12_init 0 = .ok (.aload_n 0, 1) := by decide +kernel
theorem dX12_init_1 : decode cX12_init 1 = .ok (.invokespecial 1, 3) := by decide +kernel
theorem dX12_init_4 : decode cX12_init 4 = .ok (.aload_n 0, 1) := by decide +kernel
theorem dX12_init_5 : decode cX12_init 5 = .ok (.bipush 21, 2) := by decide +kernel
theorem dX12_init_7 : decode cX12_init 7 = .ok (.newarray .long, 2) := by decide +kernel
theorem dX12_init_9 : decode cX12_init 9 = .ok (.putfield 7, 3) := by decide +kernel
theorem dX12_init_12 : decode cX12_init 12 = .ok (.aload_n 0, 1) := by decide +kernel
theorem dX12_init_13 : decode cX12_init 13 = .ok (.bipush 18, 2) := by decide +kernel
theorem dX12_init_15 : decode cX12_init 15 = .ok (.newarray .int, 2) := by decide +kernel
theorem dX12_init_17 : decode cX12_init 17 = .ok (.putfield 13, 3) := by decide +kernel
theorem dX12_init_20 : decode cX12_init 20 = .ok (.aload_n 0, 1) := by decide +kernel
theorem dX12_init_21 : decode cX12_init 21 = .ok (.bipush 108, 2) := by decide +kernel
theorem dX12_init_23 : decode cX12_init 23 = .ok (.newarray .int, 2) := by decide +kernel
theorem dX12_init_25 : decode cX12_init 25 = .ok (.putfield 17, 3) := by decide +kernel
theorem dX12_init_28 : decode cX12_init 28 = .ok (.aload_n 0, 1) := by decide +kernel
theorem dX12_init_29 : decode cX12_init 29 = .ok (.bipush 108, 2) := by decide +kernel
theorem dX12_init_31 : decode cX12_init 31 = .ok (.newarray .long, 2) := by decide +kernel
theorem dX12_init_33 : decode cX12_init 33 = .ok (.putfield 20, 3) := by decide +kernel
theorem dX12_init_36 : decode cX12_init 36 = .ok (.aload_n 0, 1) := by decide +kernel
theorem dX12_init_37 : decode cX12_init 37 = .ok (.bipush 6, 2) := by decide +kernel
theorem dX12_init_39 : decode cX12_init 39 = .ok (.newarray .boolean, 2) := by decide +kernel
theorem dX12_init_41 : decode cX12_init 41 = .ok (.putfield 23, 3) := by decide +kernel
theorem dX12_init_44 : decode cX12_init 44 = .ok (.aload_n 0, 1) := by decide +kernel
theorem dX12_init_45 : decode cX12_init 45 = .ok (.sipush 3000, 3) := by decide +kernel
theorem dX12_init_48 : decode cX12_init 48 = .ok (.newarray .boolean, 2) := by decide +kernel
theorem dX12_init_50 : decode cX12_init 50 = .ok (.putfield 27, 3) := by decide +kernel
theorem dX12_init_53 : decode cX12_init 53 = .ok (.aload_n 0, 1) := by decide +kernel
theorem dX12_init_54 : decode cX12_init 54 = .ok (.bipush 20, 2) := by decide +kernel
theorem dX12_init_56 : decode cX12_init 56 = .ok (.newarray .boolean, 2) := by decide +kernel
theorem dX12_init_58 : decode cX12_init 58 = .ok (.putfield 30, 3) := by decide +kernel
theorem dX12_init_61 : decode cX12_init 61 = .ok (.aload_n 0, 1) := by decide +kernel
theorem dX12_init_62 : decode cX12_init 62 = .ok (.bipush 60, 2) := by decide +kernel
theorem dX12_init_64 : decode cX12_init 64 = .ok (.newarray .int, 2) := by decide +kernel
theorem dX12_init_66 : decode cX12_init 66 = .ok (.putfield 33, 3) := by decide +kernel
theorem dX12_init_69 : decode cX12_init 69 = .ok (.aload_n 0, 1) := by decide +kernel
theorem dX12_init_70 : decode cX12_init 70 = .ok (.bipush 60, 2) := by decide +kernel
theorem dX12_init_72 : decode cX12_init 72 = .ok (.newarray .int, 2) := by decide +kernel
theorem dX12_init_74 : decode cX12_init 74 = .ok (.putfield 36, 3) := by decide +kernel
theorem dX12_init_77 : decode cX12_init 77 = .ok (.aload_n 0, 1) := by decide +kernel
theorem dX12_init_78 : decode cX12_init 78 = .ok (.bipush 60, 2) := by decide +kernel
theorem dX12_init_80 : decode cX12_init 80 = .ok (.newarray .int, 2) := by decide +kernel
theorem dX12_init_82 : decode cX12_init 82 = .ok (.putfield 39, 3) := by decide +kernel
theorem dX12_init_85 : decode cX12_init 85 = .ok (.aload_n 0, 1) := by decide +kernel
theorem dX12_init_86 : decode cX12_init 86 = .ok (.bipush 60, 2) := by decide +kernel
theorem dX12_init_88 : decode cX12_init 88 = .ok (.newarray .int, 2) := by decide +kernel
theorem dX12_init_90 : decode cX12_init 90 = .ok (.putfield 42, 3) := by decide +kernel
theorem dX12_init_93 : decode cX12_init 93 = .ok (.aload_n 0, 1) := by decide +kernel
theorem dX12_init_94 : decode cX12_init 94 = .ok (.bipush 60, 2) := by decide +kernel
theorem dX12_init_96 : decode cX12_init 96 = .ok (.newarray .int, 2) := by decide +kernel
theorem dX12_init_98 : decode cX12_init 98 = .ok (.putfield 45, 3) := by decide +kernel
theorem dX12_init_101 : decode cX12_init 101 = .ok (.aload_n 0, 1) := by decide +kernel
theorem dX12_init_102 : decode cX12_init 102 = .ok (.bipush 60, 2) := by decide +kernel
theorem dX12_init_104 : decode cX12_init 104 = .ok (.newarray .int, 2) := by decide +kernel
theorem dX12_init_106 : decode cX12_init 106 = .ok (.putfield 48, 3) := by decide +kernel
theorem dX12_init_109 : decode cX12_init 109 = .ok (.aload_n 0, 1) := by decide +kernel
theorem dX12_init_110 : decode cX12_init 110 = .ok (.bipush 60, 2) := by decide +kernel
theorem dX12_init_112 : decode cX12_init 112 = .ok (.newarray .boolean, 2) := by decide +kernel
theorem dX12_init_114 : decode cX12_init 114 = .ok (.putfield 51, 3) := by decide +kernel
theorem dX12_init_117 : decode cX12_init 117 = .ok (.aload_n 0, 1) := by decide +kernel
theorem dX12_init_118 : decode cX12_init 118 = .ok (.bipush 60, 2) := by decide +kernel
theorem dX12_init_120 : decode cX12_init 120 = .ok (.newarray .int, 2) := by decide +kernel
theorem dX12_init_122 : decode cX12_init 122 = .ok (.putfield 54, 3) := by decide +kernel
theorem dX12_init_125 : decode cX12_init 125 = .ok (.aload_n 0, 1) := by decide +kernel
theorem dX12_init_126 : decode cX12_init 126 = .ok (.bipush 60, 2) := by decide +kernel
theorem dX12_init_128 : decode cX12_init 128 = .ok (.newarray .boolean, 2) := by decide +kernel
theorem dX12_init_130 : decode cX12_init 130 = .ok (.putfield 57, 3) := by decide +kernel
theorem dX12_init_133 : decode cX12_init 133 = .ok (.aload_n 0, 1) := by decide +kernel
theorem dX12_init_134 : decode cX12_init 134 = .ok (.bipush 60, 2) := by decide +kernel
theorem dX12_init_136 : decode cX12_init 136 = .ok (.newarray .int, 2) := by decide +kernel
theorem dX12_init_138 : decode cX12_init 138 = .ok (.putfield 60, 3) := by decide +kernel
theorem dX12_init_141 : decode cX12_init 141 = .ok (.aload_n 0, 1) := by decide +kernel
theorem dX12_init_142 : decode cX12_init 142 = .ok (.bipush 60, 2) := by decide +kernel
theorem dX12_init_144 : decode cX12_init 144 = .ok (.newarray .boolean, 2) := by decide +kernel
theorem dX12_init_146 : decode cX12_init 146 = .ok (.putfield 63, 3) := by decide +kernel
theorem dX12_init_149 : decode cX12_init 149 = .ok (.aload_n 0, 1) := by decide +kernel
theorem dX12_init_150 : decode cX12_init 150 = .ok (.bipush 60, 2) := by decide +kernel
theorem dX12_init_152 : decode cX12_init 152 = .ok (.newarray .int, 2) := by decide +kernel
theorem dX12_init_154 : decode cX12_init 154 = .ok (.putfield 66, 3) := by decide +kernel
theorem dX12_init_157 : decode cX12_init 157 = .ok (.aload_n 0, 1) := by decide +kernel
theorem dX12_init_158 : decode cX12_init 158 = .ok (.bipush 60, 2) := by decide +kernel
theorem dX12_init_160 : decode cX12_init 160 = .ok (.newarray .int, 2) := by decide +kernel
theorem dX12_init_162 : decode cX12_init 162 = .ok (.putfield 69, 3) := by decide +kernel
theorem dX12_init_165 : decode cX12_init 165 = .ok (.aload_n 0, 1) := by decide +kernel
theorem dX12_init_166 : decode cX12_init 166 = .ok (.bipush 60, 2) := by decide +kernel
theorem dX12_init_168 : decode cX12_init 168 = .ok (.newarray .int, 2) := by decide +kernel
theorem dX12_init_170 : decode cX12_init 170 = .ok (.putfield 72, 3) := by decide +kernel
theorem dX12_init_173 : decode cX12_init 173 = .ok (.aload_n 0, 1) := by decide +kernel
theorem dX12_init_174 : decode cX12_init 174 = .ok (.bipush 60, 2) := by decide +kernel
theorem dX12_init_176 : decode cX12_init 176 = .ok (.newarray .int, 2) := by decide +kernel
theorem dX12_init_178 : decode cX12_init 178 = .ok (.putfield 75, 3) := by decide +kernel
theorem dX12_init_181 : decode cX12_init 181 = .ok (.aload_n 0, 1) := by decide +kernel
theorem dX12_init_182 : decode cX12_init 182 = .ok (.bipush 60, 2) := by decide +kernel
theorem dX12_init_184 : decode cX12_init 184 = .ok (.newarray .boolean, 2) := by decide +kernel
theorem dX12_init_186 : decode cX12_init 186 = .ok (.putfield 78, 3) := by decide +kernel
theorem dX12_init_189 : decode cX12_init 189 = .ok (.aload_n 0, 1) := by decide +kernel
theorem dX12_init_190 : decode cX12_init 190 = .ok (.sipush 600, 3) := by decide +kernel
theorem dX12_init_193 : decode cX12_init 193 = .ok (.newarray .int, 2) := by decide +kernel
theorem dX12_init_195 : decode cX12_init 195 = .ok (.putfield 81, 3) := by decide +kernel
theorem dX12_init_198 : decode cX12_init 198 = .ok (.aload_n 0, 1) := by decide +kernel
theorem dX12_init_199 : decode cX12_init 199 = .ok (.bipush 60, 2) := by decide +kernel
theorem dX12_init_201 : decode cX12_init 201 = .ok (.newarray .int, 2) := by decide +kernel
theorem dX12_init_203 : decode cX12_init 203 = .ok (.putfield 84, 3) := by decide +kernel
theorem dX12_init_206 : decode cX12_init 206 = .ok (.aload_n 0, 1) := by decide +kernel
theorem dX12_init_207 : decode cX12_init 207 = .ok (.bipush 6, 2) := by decide +kernel
theorem dX12_init_209 : decode cX12_init 209 = .ok (.newarray .int, 2) := by decide +kernel
theorem dX12_init_211 : decode cX12_init 211 = .ok (.putfield 87, 3) := by decide +kernel
theorem dX12_init_214 : decode cX12_init 214 = .ok (.aload_n 0, 1) := by decide +kernel
theorem dX12_init_215 : decode cX12_init 215 = .ok (.bipush 6, 2) := by decide +kernel
theorem dX12_init_217 : decode cX12_init 217 = .ok (.newarray .int, 2) := by decide +kernel
theorem dX12_init_219 : decode cX12_init 219 = .ok (.putfield 90, 3) := by decide +kernel
theorem dX12_init_222 : decode cX12_init 222 = .ok (.aload_n 0, 1) := by decide +kernel
theorem dX12_init_223 : decode cX12_init 223 = .ok (.ldc 93, 2) := by decide +kernel
theorem dX12_init_225 : decode cX12_init 225 = .ok (.newarray .long, 2) := by decide +kernel
theorem dX12_init_227 : decode cX12_init 227 = .ok (.putfield 94, 3) := by decide +kernel
theorem dX12_init_230 : decode cX12_init 230 = .ok (.aload_n 0, 1) := by decide +kernel
theorem dX12_init_231 : decode cX12_init 231 = .ok (.bipush 60, 2) := by decide +kernel
theorem dX12_init_233 : decode cX12_init 233 = .ok (.newarray .boolean, 2) := by decide +kernel
theorem dX12_init_235 : decode cX12_init 235 = .ok (.putfield 97, 3) := by decide +kernel
theorem dX12_init_238 : decode cX12_init 238 = .ok (.aload_n 0, 1) := by decide +kernel
theorem dX12_init_239 : decode cX12_init 239 = .ok (.bipush 21, 2) := by decide +kernel
theorem dX12_init_241 : decode cX12_init 241 = .ok (.newarray .long, 2) := by decide +kernel
theorem dX12_init_243 : decode cX12_init 243 = .ok (.putfield 100, 3) := by decide +kernel
theorem dX12_init_246 : decode cX12_init 246 = .ok (.aload_n 0, 1) := by decide +kernel
theorem dX12_init_247 : decode cX12_init 247 = .ok (.bipush 108, 2) := by decide +kernel
theorem dX12_init_249 : decode cX12_init 249 = .ok (.newarray .long, 2) := by decide +kernel
theorem dX12_init_251 : decode cX12_init 251 = .ok (.putfield 103, 3) := by decide +kernel
theorem dX12_init_254 : decode cX12_init 254 = .ok (.iconst 0, 1) := by decide +kernel
theorem dX12_init_255 : decode cX12_init 255 = .ok (.istore_n 1, 1) := by decide +kernel
theorem dX12_init_256 : decode cX12_init 256 = .ok (.iload_n 1, 1) := by decide +kernel
theorem dX12_init_257 : decode cX12_init 257 = .ok (.bipush 108, 2) := by decide +kernel
theorem dX12_init_259 : decode cX12_init 259 = .ok (.if_icmp .ge 16, 3) := by decide +kernel
theorem dX12_init_262 : decode cX12_init 262 = .ok (.aload_n 0, 1) := by decide +kernel
theorem dX12_init_263 : decode cX12_init 263 = .ok (.getfield 17, 3) := by decide +kernel
theorem dX12_init_266 : decode cX12_init 266 = .ok (.iload_n 1, 1) := by decide +kernel
theorem dX12_init_267 : decode cX12_init 267 = .ok (.iconst (-1), 1) := by decide +kernel
theorem dX12_init_268 : decode cX12_init 268 = .ok (.iastore, 1) := by decide +kernel
theorem dX12_init_269 : decode cX12_init 269 = .ok (.iinc 1 1, 3) := by decide +kernel
theorem dX12_init_272 : decode cX12_init 272 = .ok (.goto (-16), 3) := by decide +kernel
theorem dX12_init_275 : decode cX12_init 275 = .ok (.iconst 0, 1) := by decide +kernel
theorem dX12_init_276 : decode cX12_init 276 = .ok (.istore_n 1, 1) := by decide +kernel
theorem dX12_init_277 : decode cX12_init 277 = .ok (.iload_n 1, 1) := by decide +kernel
theorem dX12_init_278 : decode cX12_init 278 = .ok (.sipush 600, 3) := by decide +kernel
theorem dX12_init_281 : decode cX12_init 281 = .ok (.if_icmp .ge 16, 3) := by decide +kernel
theorem dX12_init_284 : decode cX12_init 284 = .ok (.aload_n 0, 1) := by decide +kernel
theorem dX12_init_285 : decode cX12_init 285 = .ok (.getfield 81, 3) := by decide +kernel
theorem dX12_init_288 : decode cX12_init 288 = .ok (.iload_n 1, 1) := by decide +kernel
theorem dX12_init_289 : decode cX12_init 289 = .ok (.iconst (-1), 1) := by decide +kernel
theorem dX12_init_290 : decode cX12_init 290 = .ok (.iastore, 1) := by decide +kernel
theorem dX12_init_291 : decode cX12_init 291 = .ok (.iinc 1 1, 3) := by decide +kernel
theorem dX12_init_294 : decode cX12_init 294 = .ok (.goto (-17), 3) := by decide +kernel
theorem dX12_init_297 : decode cX12_init 297 = .ok (.return_, 1) := by decide +kernel
theorem dX12_thrown_0 : decode cX12_thrown 0 = .ok (.aload_n 0, 1) := by decide +kernel
theorem dX12_thrown_1 : decode cX12_thrown 1 = .ok (.getfield 106, 3) := by decide +kernel
theorem dX12_thrown_4 : decode cX12_thrown 4 = .ok (.ireturn, 1) := by decide +kernel
theorem dX12_in_0 : decode cX12_in 0 = .ok (.iload_n 0, 1) := by decide +kernel
theorem dX12_in_1 : decode cX12_in 1 = .ok (.iload_n 1, 1) := by decide +kernel
theorem dX12_in_2 : decode cX12_in 2 = .ok (.if_icmp .lt 12, 3) := by decide +kernel
theorem dX12_in_5 : decode cX12_in 5 = .ok (.iload_n 0, 1) := by decide +kernel
theorem dX12_in_6 : decode cX12_in 6 = .ok (.iload_n 2, 1) := by decide +kernel
theorem dX12_in_7 : decode cX12_in 7 = .ok (.if_icmp .gt 7, 3) := by decide +kernel
theorem dX12_in_10 : decode cX12_in 10 = .ok (.iconst 1, 1) := by decide +kernel
theorem dX12_in_11 : decode cX12_in 11 = .ok (.goto 4, 3) := by decide +kernel
theorem dX12_in_14 : decode cX12_in 14 = .ok (.iconst 0, 1) := by decide +kernel
theorem dX12_in_15 : decode cX12_in 15 = .ok (.ireturn, 1) := by decide +kernel
theorem dX12_goes_0 : decode cX12_goes 0 = .ok (.aload_n 0, 1) := by decide +kernel
theorem dX12_goes_1 : decode cX12_goes 1 = .ok (.iload_n 1, 1) := by decide +kernel
theorem dX12_goes_2 : decode cX12_goes 2 = .ok (.ifCond .ne 7, 3) := by decide +kernel
theorem dX12_goes_5 : decode cX12_goes 5 = .ok (.iconst 1, 1) := by decide +kernel
theorem dX12_goes_6 : decode cX12_goes 6 = .ok (.goto 20, 3) := by decide +kernel
theorem dX12_goes_9 : decode cX12_goes 9 = .ok (.iload_n 2, 1) := by decide +kernel
theorem dX12_goes_10 : decode cX12_goes 10 = .ok (.ifCond .ne 7, 3) := by decide +kernel
theorem dX12_goes_13 : decode cX12_goes 13 = .ok (.iconst 2, 1) := by decide +kernel
theorem dX12_goes_14 : decode cX12_goes 14 = .ok (.goto 12, 3) := by decide +kernel
theorem dX12_goes_17 : decode cX12_goes 17 = .ok (.iload_n 3, 1) := by decide +kernel
theorem dX12_goes_18 : decode cX12_goes 18 = .ok (.ifCond .ne 7, 3) := by decide +kernel
theorem dX12_goes_21 : decode cX12_goes 21 = .ok (.iconst 3, 1) := by decide +kernel
theorem dX12_goes_22 : decode cX12_goes 22 = .ok (.goto 4, 3) := by decide +kernel
theorem dX12_goes_25 : decode cX12_goes 25 = .ok (.iconst 0, 1) := by decide +kernel
theorem dX12_goes_26 : decode cX12_goes 26 = .ok (.putfield 106, 3) := by decide +kernel
theorem dX12_goes_29 : decode cX12_goes 29 = .ok (.aload_n 0, 1) := by decide +kernel
theorem dX12_goes_30 : decode cX12_goes 30 = .ok (.getfield 106, 3) := by decide +kernel
theorem dX12_goes_33 : decode cX12_goes 33 = .ok (.ifCond .ne 7, 3) := by decide +kernel
theorem dX12_goes_36 : decode cX12_goes 36 = .ok (.iconst 1, 1) := by decide +kernel
theorem dX12_goes_37 : decode cX12_goes 37 = .ok (.goto 4, 3) := by decide +kernel
theorem dX12_goes_40 : decode cX12_goes 40 = .ok (.iconst 0, 1) := by decide +kernel
theorem dX12_goes_41 : decode cX12_goes 41 = .ok (.ireturn, 1) := by decide +kernel
theorem dX12_isBank_0 : decode cX12_isBank 0 = .ok (.iload_n 0, 1) := by decide +kernel
theorem dX12_isBank_1 : decode cX12_isBank 1 = .ok (.iconst 0, 1) := by decide +kernel
theorem dX12_isBank_2 : decode cX12_isBank 2 = .ok (.iconst 5, 1) := by decide +kernel
theorem dX12_isBank_3 : decode cX12_isBank 3 = .ok (.invokestatic 110, 3) := by decide +kernel
theorem dX12_isBank_6 : decode cX12_isBank 6 = .ok (.ireturn, 1) := by decide +kernel
theorem dX12_isCurrency_0 : decode cX12_isCurrency 0 = .ok (.iload_n 0, 1) := by decide +kernel
theorem dX12_isCurrency_1 : decode cX12_isCurrency 1 = .ok (.iconst 0, 1) := by decide +kernel
theorem dX12_isCurrency_2 : decode cX12_isCurrency 2 = .ok (.iconst 2, 1) := by decide +kernel
theorem dX12_isCurrency_3 : decode cX12_isCurrency 3 = .ok (.invokestatic 110, 3) := by decide +kernel
theorem dX12_isCurrency_6 : decode cX12_isCurrency 6 = .ok (.ireturn, 1) := by decide +kernel
theorem dX12_isName_0 : decode cX12_isName 0 = .ok (.iload_n 0, 1) := by decide +kernel
theorem dX12_isName_1 : decode cX12_isName 1 = .ok (.iconst 0, 1) := by decide +kernel
theorem dX12_isName_2 : decode cX12_isName 2 = .ok (.bipush 19, 2) := by decide +kernel
theorem dX12_isName_4 : decode cX12_isName 4 = .ok (.invokestatic 110, 3) := by decide +kernel
theorem dX12_isName_7 : decode cX12_isName 7 = .ok (.ireturn, 1) := by decide +kernel
theorem dX12_isPayment_0 : decode cX12_isPayment 0 = .ok (.iload_n 1, 1) := by decide +kernel
theorem dX12_isPayment_1 : decode cX12_isPayment 1 = .ok (.iconst 0, 1) := by decide +kernel
theorem dX12_isPayment_2 : decode cX12_isPayment 2 = .ok (.aload_n 0, 1) := by decide +kernel
theorem dX12_isPayment_3 : decode cX12_isPayment 3 = .ok (.getfield 114, 3) := by decide +kernel
theorem dX12_isPayment_6 : decode cX12_isPayment 6 = .ok (.iconst 1, 1) := by decide +kernel
theorem dX12_isPayment_7 : decode cX12_isPayment 7 = .ok (.isub, 1) := by decide +kernel
theorem dX12_isPayment_8 : decode cX12_isPayment 8 = .ok (.invokestatic 110, 3) := by decide +kernel
theorem dX12_isPayment_11 : decode cX12_isPayment 11 = .ok (.ireturn, 1) := by decide +kernel
theorem dX12_of_0 : decode cX12_of 0 = .ok (.iconst 3, 1) := by decide +kernel
theorem dX12_of_1 : decode cX12_of 1 = .ok (.iload_n 0, 1) := by decide +kernel
theorem dX12_of_2 : decode cX12_of 2 = .ok (.imul, 1) := by decide +kernel
theorem dX12_of_3 : decode cX12_of 3 = .ok (.iload_n 1, 1) := by decide +kernel
theorem dX12_of_4 : decode cX12_of 4 = .ok (.iadd, 1) := by decide +kernel
theorem dX12_of_5 : decode cX12_of 5 = .ok (.ireturn, 1) := by decide +kernel
theorem dX12_pair_0 : decode cX12_pair 0 = .ok (.iconst 3, 1) := by decide +kernel
theorem dX12_pair_1 : decode cX12_pair 1 = .ok (.bipush 6, 2) := by decide +kernel
theorem dX12_pair_3 : decode cX12_pair 3 = .ok (.iload_n 0, 1) := by decide +kernel
theorem dX12_pair_4 : decode cX12_pair 4 = .ok (.imul, 1) := by decide +kernel
theorem dX12_pair_5 : decode cX12_pair 5 = .ok (.iload_n 1, 1) := by decide +kernel
theorem dX12_pair_6 : decode cX12_pair 6 = .ok (.iadd, 1) := by decide +kernel
theorem dX12_pair_7 : decode cX12_pair 7 = .ok (.imul, 1) := by decide +kernel
theorem dX12_pair_8 : decode cX12_pair 8 = .ok (.iload_n 2, 1) := by decide +kernel
theorem dX12_pair_9 : decode cX12_pair 9 = .ok (.iadd, 1) := by decide +kernel
theorem dX12_pair_10 : decode cX12_pair 10 = .ok (.ireturn, 1) := by decide +kernel
theorem dX12_isOpen_0 : decode cX12_isOpen 0 = .ok (.iload_n 2, 1) := by decide +kernel
theorem dX12_isOpen_1 : decode cX12_isOpen 1 = .ok (.bipush 7, 2) := by decide +kernel
theorem dX12_isOpen_3 : decode cX12_isOpen 3 = .ok (.irem, 1) := by decide +kernel
theorem dX12_isOpen_4 : decode cX12_isOpen 4 = .ok (.iconst 5, 1) := by decide +kernel
theorem dX12_isOpen_5 : decode cX12_isOpen 5 = .ok (.if_icmp .ge 22, 3) := by decide +kernel
theorem dX12_isOpen_8 : decode cX12_isOpen 8 = .ok (.aload_n 0, 1) := by decide +kernel
theorem dX12_isOpen_9 : decode cX12_isOpen 9 = .ok (.getfield 27, 3) := by decide +kernel
theorem dX12_isOpen_12 : decode cX12_isOpen 12 = .ok (.sipush 1000, 3) := by decide +kernel
theorem dX12_isOpen_15 : decode cX12_isOpen 15 = .ok (.iload_n 1, 1) := by decide +kernel
theorem dX12_isOpen_16 : decode cX12_isOpen 16 = .ok (.imul, 1) := by decide +kernel
theorem dX12_isOpen_17 : decode cX12_isOpen 17 = .ok (.iload_n 2, 1) := by decide +kernel
theorem dX12_isOpen_18 : decode cX12_isOpen 18 = .ok (.iadd, 1) := by decide +kernel
theorem dX12_isOpen_19 : decode cX12_isOpen 19 = .ok (.baload, 1) := by decide +kernel
theorem dX12_isOpen_20 : decode cX12_isOpen 20 = .ok (.ifCond .ne 7, 3) := by decide +kernel
theorem dX12_isOpen_23 : decode cX12_isOpen 23 = .ok (.iconst 1, 1) := by decide +kernel
theorem dX12_isOpen_24 : decode cX12_isOpen 24 = .ok (.goto 4, 3) := by decide +kernel
theorem dX12_isOpen_27 : decode cX12_isOpen 27 = .ok (.iconst 0, 1) := by decide +kernel
theorem dX12_isOpen_28 : decode cX12_isOpen 28 = .ok (.ireturn, 1) := by decide +kernel
theorem dX12_ends_0 : decode cX12_ends 0 = .ok (.aload_n 0, 1) := by decide +kernel
theorem dX12_ends_1 : decode cX12_ends 1 = .ok (.getfield 60, 3) := by decide +kernel
theorem dX12_ends_4 : decode cX12_ends 4 = .ok (.iload_n 1, 1) := by decide +kernel
theorem dX12_ends_5 : decode cX12_ends 5 = .ok (.iaload, 1) := by decide +kernel
theorem dX12_ends_6 : decode cX12_ends 6 = .ok (.iconst 4, 1) := by decide +kernel
theorem dX12_ends_7 : decode cX12_ends 7 = .ok (.if_icmp .eq 13, 3) := by decide +kernel
theorem dX12_ends_10 : decode cX12_ends 10 = .ok (.aload_n 0, 1) := by decide +kernel
theorem dX12_ends_11 : decode cX12_ends 11 = .ok (.getfield 60, 3) := by decide +kernel
theorem dX12_ends_14 : decode cX12_ends 14 = .ok (.iload_n 1, 1) := by decide +kernel
theorem dX12_ends_15 : decode cX12_ends 15 = .ok (.iaload, 1) := by decide +kernel
theorem dX12_ends_16 : decode cX12_ends 16 = .ok (.iconst 5, 1) := by decide +kernel
theorem dX12_ends_17 : decode cX12_ends 17 = .ok (.if_icmp .ne 7, 3) := by decide +kernel
theorem dX12_ends_20 : decode cX12_ends 20 = .ok (.iconst 1, 1) := by decide +kernel
theorem dX12_ends_21 : decode cX12_ends 21 = .ok (.goto 4, 3) := by decide +kernel
theorem dX12_ends_24 : decode cX12_ends 24 = .ok (.iconst 0, 1) := by decide +kernel
theorem dX12_ends_25 : decode cX12_ends 25 = .ok (.ireturn, 1) := by decide +kernel
theorem dX12_books_0 : decode cX12_books 0 = .ok (.aload_n 0, 1) := by decide +kernel
theorem dX12_books_1 : decode cX12_books 1 = .ok (.getfield 94, 3) := by decide +kernel
theorem dX12_books_4 : decode cX12_books 4 = .ok (.iconst 5, 1) := by decide +kernel
theorem dX12_books_5 : decode cX12_books 5 = .ok (.aload_n 0, 1) := by decide +kernel
theorem dX12_books_6 : decode cX12_books 6 = .ok (.getfield 117, 3) := by decide +kernel
theorem dX12_books_9 : decode cX12_books 9 = .ok (.imul, 1) := by decide +kernel
theorem dX12_books_10 : decode cX12_books 10 = .ok (.iload_n 1, 1) := by decide +kernel
theorem dX12_books_11 : decode cX12_books 11 = .ok (.i2l, 1) := by decide +kernel
theorem dX12_books_12 : decode cX12_books 12 = .ok (.lastore, 1) := by decide +kernel
theorem dX12_books_13 : decode cX12_books 13 = .ok (.aload_n 0, 1) := by decide +kernel
theorem dX12_books_14 : decode cX12_books 14 = .ok (.getfield 94, 3) := by decide +kernel
theorem dX12_books_17 : decode cX12_books 17 = .ok (.iconst 5, 1) := by decide +kernel
theorem dX12_books_18 : decode cX12_books 18 = .ok (.aload_n 0, 1) := by decide +kernel
theorem dX12_books_19 : decode cX12_books 19 = .ok (.getfield 117, 3) := by decide +kernel
theorem dX12_books_22 : decode cX12_books 22 = .ok (.imul, 1) := by decide +kernel
theorem dX12_books_23 : decode cX12_books 23 = .ok (.iconst 1, 1) := by decide +kernel
theorem dX12_books_24 : decode cX12_books 24 = .ok (.iadd, 1) := by decide +kernel
theorem dX12_books_25 : decode cX12_books 25 = .ok (.iload_n 2, 1) := by decide +kernel
theorem dX12_books_26 : decode cX12_books 26 = .ok (.i2l, 1) := by decide +kernel
theorem dX12_books_27 : decode cX12_books 27 = .ok (.lastore, 1) := by decide +kernel
theorem dX12_books_28 : decode cX12_books 28 = .ok (.aload_n 0, 1) := by decide +kernel
theorem dX12_books_29 : decode cX12_books 29 = .ok (.getfield 94, 3) := by decide +kernel
theorem dX12_books_32 : decode cX12_books 32 = .ok (.iconst 5, 1) := by decide +kernel
theorem dX12_books_33 : decode cX12_books 33 = .ok (.aload_n 0, 1) := by decide +kernel
theorem dX12_books_34 : decode cX12_books 34 = .ok (.getfield 117, 3) := by decide +kernel
theorem dX12_books_37 : decode cX12_books 37 = .ok (.imul, 1) := by decide +kernel
theorem dX12_books_38 : decode cX12_books 38 = .ok (.iconst 2, 1) := by decide +kernel
theorem dX12_books_39 : decode cX12_books 39 = .ok (.iadd, 1) := by decide +kernel
theorem dX12_books_40 : decode cX12_books 40 = .ok (.iload_n 3, 1) := by decide +kernel
theorem dX12_books_41 : decode cX12_books 41 = .ok (.i2l, 1) := by decide +kernel
theorem dX12_books_42 : decode cX12_books 42 = .ok (.lastore, 1) := by decide +kernel
theorem dX12_books_43 : decode cX12_books 43 = .ok (.aload_n 0, 1) := by decide +kernel
theorem dX12_books_44 : decode cX12_books 44 = .ok (.getfield 94, 3) := by decide +kernel
theorem dX12_books_47 : decode cX12_books 47 = .ok (.iconst 5, 1) := by decide +kernel
theorem dX12_books_48 : decode cX12_books 48 = .ok (.aload_n 0, 1) := by decide +kernel
theorem dX12_books_49 : decode cX12_books 49 = .ok (.getfield 117, 3) := by decide +kernel
theorem dX12_books_52 : decode cX12_books 52 = .ok (.imul, 1) := by decide +kernel
theorem dX12_books_53 : decode cX12_books 53 = .ok (.iconst 3, 1) := by decide +kernel
theorem dX12_books_54 : decode cX12_books 54 = .ok (.iadd, 1) := by decide +kernel
theorem dX12_books_55 : decode cX12_books 55 = .ok (.lload 4, 2) := by decide +kernel
theorem dX12_books_57 : decode cX12_books 57 = .ok (.lastore, 1) := by decide +kernel
theorem dX12_books_58 : decode cX12_books 58 = .ok (.aload_n 0, 1) := by decide +kernel
theorem dX12_books_59 : decode cX12_books 59 = .ok (.getfield 94, 3) := by decide +kernel
theorem dX12_books_62 : decode cX12_books 62 = .ok (.iconst 5, 1) := by decide +kernel
theorem dX12_books_63 : decode cX12_books 63 = .ok (.aload_n 0, 1) := by decide +kernel
theorem dX12_books_64 : decode cX12_books 64 = .ok (.getfield 117, 3) := by decide +kernel
theorem dX12_books_67 : decode cX12_books 67 = .ok (.imul, 1) := by decide +kernel
theorem dX12_books_68 : decode cX12_books 68 = .ok (.iconst 4, 1) := by decide +kernel
theorem dX12_books_69 : decode cX12_books 69 = .ok (.iadd, 1) := by decide +kernel
theorem dX12_books_70 : decode cX12_books 70 = .ok (.iload 6, 2) := by decide +kernel
theorem dX12_books_72 : decode cX12_books 72 = .ok (.i2l, 1) := by decide +kernel
theorem dX12_books_73 : decode cX12_books 73 = .ok (.lastore, 1) := by decide +kernel
theorem dX12_books_74 : decode cX12_books 74 = .ok (.aload_n 0, 1) := by decide +kernel
theorem dX12_books_75 : decode cX12_books 75 = .ok (.dup, 1) := by decide +kernel
theorem dX12_books_76 : decode cX12_books 76 = .ok (.getfield 117, 3) := by decide +kernel
theorem dX12_books_79 : decode cX12_books 79 = .ok (.iconst 1, 1) := by decide +kernel
theorem dX12_books_80 : decode cX12_books 80 = .ok (.iadd, 1) := by decide +kernel
theorem dX12_books_81 : decode cX12_books 81 = .ok (.putfield 117, 3) := by decide +kernel
theorem dX12_books_84 : decode cX12_books 84 = .ok (.iload_n 1, 1) := by decide +kernel
theorem dX12_books_85 : decode cX12_books 85 = .ok (.iconst (-1), 1) := by decide +kernel
theorem dX12_books_86 : decode cX12_books 86 = .ok (.if_icmp .eq 18, 3) := by decide +kernel
theorem dX12_books_89 : decode cX12_books 89 = .ok (.aload_n 0, 1) := by decide +kernel
theorem dX12_books_90 : decode cX12_books 90 = .ok (.getfield 7, 3) := by decide +kernel
theorem dX12_books_93 : decode cX12_books 93 = .ok (.iload_n 1, 1) := by decide +kernel
theorem dX12_books_94 : decode cX12_books 94 = .ok (.iload_n 3, 1) := by decide +kernel
theorem dX12_books_95 : decode cX12_books 95 = .ok (.invokestatic 120, 3) := by decide +kernel
theorem dX12_books_98 : decode cX12_books 98 = .ok (.dup2, 1) := by decide +kernel
theorem dX12_books_99 : decode cX12_books 99 = .ok (.laload, 1) := by decide +kernel
theorem dX12_books_100 : decode cX12_books 100 = .ok (.lload 4, 2) := by decide +kernel
theorem dX12_books_102 : decode cX12_books 102 = .ok (.lsub, 1) := by decide +kernel
theorem dX12_books_103 : decode cX12_books 103 = .ok (.lastore, 1) := by decide +kernel
theorem dX12_books_104 : decode cX12_books 104 = .ok (.aload_n 0, 1) := by decide +kernel
theorem dX12_books_105 : decode cX12_books 105 = .ok (.getfield 7, 3) := by decide +kernel
theorem dX12_books_108 : decode cX12_books 108 = .ok (.iload_n 2, 1) := by decide +kernel
theorem dX12_books_109 : decode cX12_books 109 = .ok (.iload_n 3, 1) := by decide +kernel
theorem dX12_books_110 : decode cX12_books 110 = .ok (.invokestatic 120, 3) := by decide +kernel
theorem dX12_books_113 : decode cX12_books 113 = .ok (.dup2, 1) := by decide +kernel
theorem dX12_books_114 : decode cX12_books 114 = .ok (.laload, 1) := by decide +kernel
theorem dX12_books_115 : decode cX12_books 115 = .ok (.lload 4, 2) := by decide +kernel
theorem dX12_books_117 : decode cX12_books 117 = .ok (.ladd, 1) := by decide +kernel
theorem dX12_books_118 : decode cX12_books 118 = .ok (.lastore, 1) := by decide +kernel
theorem dX12_books_119 : decode cX12_books 119 = .ok (.return_, 1) := by decide +kernel
theorem dX12_clears_0 : decode cX12_clears 0 = .ok (.iconst 0, 1) := by decide +kernel
theorem dX12_clears_1 : decode cX12_clears 1 = .ok (.istore_n 1, 1) := by decide +kernel
theorem dX12_clears_2 : decode cX12_clears 2 = .ok (.iload_n 1, 1) := by decide +kernel
theorem dX12_clears_3 : decode cX12_clears 3 = .ok (.bipush 60, 2) := by decide +kernel
theorem dX12_clears_5 : decode cX12_clears 5 = .ok (.if_icmp .ge 16, 3) := by decide +kernel
theorem dX12_clears_8 : decode cX12_clears 8 = .ok (.aload_n 0, 1) := by decide +kernel
theorem dX12_clears_9 : decode cX12_clears 9 = .ok (.getfield 97, 3) := by decide +kernel
theorem dX12_clears_12 : decode cX12_clears 12 = .ok (.iload_n 1, 1) := by decide +kernel
theorem dX12_clears_13 : decode cX12_clears 13 = .ok (.iconst 0, 1) := by decide +kernel
theorem dX12_clears_14 : decode cX12_clears 14 = .ok (.bastore, 1) := by decide +kernel
theorem dX12_clears_15 : decode cX12_clears 15 = .ok (.iinc 1 1, 3) := by decide +kernel
theorem dX12_clears_18 : decode cX12_clears 18 = .ok (.goto (-16), 3) := by decide +kernel
theorem dX12_clears_21 : decode cX12_clears 21 = .ok (.return_, 1) := by decide +kernel
theorem dX12_sums_0 : decode cX12_sums 0 = .ok (.iconst 0, 1) := by decide +kernel
theorem dX12_sums_1 : decode cX12_sums 1 = .ok (.istore_n 1, 1) := by decide +kernel
theorem dX12_sums_2 : decode cX12_sums 2 = .ok (.iload_n 1, 1) := by decide +kernel
theorem dX12_sums_3 : decode cX12_sums 3 = .ok (.bipush 21, 2) := by decide +kernel
theorem dX12_sums_5 : decode cX12_sums 5 = .ok (.if_icmp .ge 16, 3) := by decide +kernel
theorem dX12_sums_8 : decode cX12_sums 8 = .ok (.aload_n 0, 1) := by decide +kernel
theorem dX12_sums_9 : decode cX12_sums 9 = .ok (.getfield 100, 3) := by decide +kernel
theorem dX12_sums_12 : decode cX12_sums 12 = .ok (.iload_n 1, 1) := by decide +kernel
theorem dX12_sums_13 : decode cX12_sums 13 = .ok (.lconst 0, 1) := by decide +kernel
theorem dX12_sums_14 : decode cX12_sums 14 = .ok (.lastore, 1) := by decide +kernel
theorem dX12_sums_15 : decode cX12_sums 15 = .ok (.iinc 1 1, 3) := by decide +kernel
theorem dX12_sums_18 : decode cX12_sums 18 = .ok (.goto (-16), 3) := by decide +kernel
theorem dX12_sums_21 : decode cX12_sums 21 = .ok (.iconst 0, 1) := by decide +kernel
theorem dX12_sums_22 : decode cX12_sums 22 = .ok (.istore_n 1, 1) := by decide +kernel
theorem dX12_sums_23 : decode cX12_sums 23 = .ok (.iload_n 1, 1) := by decide +kernel
theorem dX12_sums_24 : decode cX12_sums 24 = .ok (.bipush 108, 2) := by decide +kernel
theorem dX12_sums_26 : decode cX12_sums 26 = .ok (.if_icmp .ge 16, 3) := by decide +kernel
theorem dX12_sums_29 : decode cX12_sums 29 = .ok (.aload_n 0, 1) := by decide +kernel
theorem dX12_sums_30 : decode cX12_sums 30 = .ok (.getfield 103, 3) := by decide +kernel
theorem dX12_sums_33 : decode cX12_sums 33 = .ok (.iload_n 1, 1) := by decide +kernel
theorem dX12_sums_34 : decode cX12_sums 34 = .ok (.lconst 0, 1) := by decide +kernel
theorem dX12_sums_35 : decode cX12_sums 35 = .ok (.lastore, 1) := by decide +kernel
theorem dX12_sums_36 : decode cX12_sums 36 = .ok (.iinc 1 1, 3) := by decide +kernel
theorem dX12_sums_39 : decode cX12_sums 39 = .ok (.goto (-16), 3) := by decide +kernel
theorem dX12_sums_42 : decode cX12_sums 42 = .ok (.iconst 0, 1) := by decide +kernel
theorem dX12_sums_43 : decode cX12_sums 43 = .ok (.istore_n 1, 1) := by decide +kernel
theorem dX12_sums_44 : decode cX12_sums 44 = .ok (.iload_n 1, 1) := by decide +kernel
theorem dX12_sums_45 : decode cX12_sums 45 = .ok (.aload_n 0, 1) := by decide +kernel
theorem dX12_sums_46 : decode cX12_sums 46 = .ok (.getfield 114, 3) := by decide +kernel
theorem dX12_sums_49 : decode cX12_sums 49 = .ok (.if_icmp .ge 150, 3) := by decide +kernel
theorem dX12_sums_52 : decode cX12_sums 52 = .ok (.aload_n 0, 1) := by decide +kernel
theorem dX12_sums_53 : decode cX12_sums 53 = .ok (.getfield 97, 3) := by decide +kernel
theorem dX12_sums_56 : decode cX12_sums 56 = .ok (.iload_n 1, 1) := by decide +kernel
theorem dX12_sums_57 : decode cX12_sums 57 = .ok (.baload, 1) := by decide +kernel
theorem dX12_sums_58 : decode cX12_sums 58 = .ok (.ifCond .eq 135, 3) := by decide +kernel
theorem dX12_sums_61 : decode cX12_sums 61 = .ok (.aload_n 0, 1) := by decide +kernel
theorem dX12_sums_62 : decode cX12_sums 62 = .ok (.getfield 100, 3) := by decide +kernel
theorem dX12_sums_65 : decode cX12_sums 65 = .ok (.aload_n 0, 1) := by decide +kernel
theorem dX12_sums_66 : decode cX12_sums 66 = .ok (.getfield 33, 3) := by decide +kernel
theorem dX12_sums_69 : decode cX12_sums 69 = .ok (.iload_n 1, 1) := by decide +kernel
theorem dX12_sums_70 : decode cX12_sums 70 = .ok (.iaload, 1) := by decide +kernel
theorem dX12_sums_71 : decode cX12_sums 71 = .ok (.aload_n 0, 1) := by decide +kernel
theorem dX12_sums_72 : decode cX12_sums 72 = .ok (.getfield 39, 3) := by decide +kernel
theorem dX12_sums_75 : decode cX12_sums 75 = .ok (.iload_n 1, 1) := by decide +kernel
theorem dX12_sums_76 : decode cX12_sums 76 = .ok (.iaload, 1) := by decide +kernel
theorem dX12_sums_77 : decode cX12_sums 77 = .ok (.invokestatic 120, 3) := by decide +kernel
theorem dX12_sums_80 : decode cX12_sums 80 = .ok (.dup2, 1) := by decide +kernel
theorem dX12_sums_81 : decode cX12_sums 81 = .ok (.laload, 1) := by decide +kernel
theorem dX12_sums_82 : decode cX12_sums 82 = .ok (.aload_n 0, 1) := by decide +kernel
theorem dX12_sums_83 : decode cX12_sums 83 = .ok (.getfield 42, 3) := by decide +kernel
theorem dX12_sums_86 : decode cX12_sums 86 = .ok (.iload_n 1, 1) := by decide +kernel
theorem dX12_sums_87 : decode cX12_sums 87 = .ok (.iaload, 1) := by decide +kernel
theorem dX12_sums_88 : decode cX12_sums 88 = .ok (.i2l, 1) := by decide +kernel
theorem dX12_sums_89 : decode cX12_sums 89 = .ok (.lsub, 1) := by decide +kernel
theorem dX12_sums_90 : decode cX12_sums 90 = .ok (.lastore, 1) := by decide +kernel
theorem dX12_sums_91 : decode cX12_sums 91 = .ok (.aload_n 0, 1) := by decide +kernel
theorem dX12_sums_92 : decode cX12_sums 92 = .ok (.getfield 100, 3) := by decide +kernel
theorem dX12_sums_95 : decode cX12_sums 95 = .ok (.aload_n 0, 1) := by decide +kernel
theorem dX12_sums_96 : decode cX12_sums 96 = .ok (.getfield 36, 3) := by decide +kernel
theorem dX12_sums_99 : decode cX12_sums 99 = .ok (.iload_n 1, 1) := by decide +kernel
theorem dX12_sums_100 : decode cX12_sums 100 = .ok (.iaload, 1) := by decide +kernel
theorem dX12_sums_101 : decode cX12_sums 101 = .ok (.aload_n 0, 1) := by decide +kernel
theorem dX12_sums_102 : decode cX12_sums 102 = .ok (.getfield 39, 3) := by decide +kernel
theorem dX12_sums_105 : decode cX12_sums 105 = .ok (.iload_n 1, 1) := by decide +kernel
theorem dX12_sums_106 : decode cX12_sums 106 = .ok (.iaload, 1) := by decide +kernel
theorem dX12_sums_107 : decode cX12_sums 107 = .ok (.invokestatic 120, 3) := by decide +kernel
theorem dX12_sums_110 : decode cX12_sums 110 = .ok (.dup2, 1) := by decide +kernel
theorem dX12_sums_111 : decode cX12_sums 111 = .ok (.laload, 1) := by decide +kernel
theorem dX12_sums_112 : decode cX12_sums 112 = .ok (.aload_n 0, 1) := by decide +kernel
theorem dX12_sums_113 : decode cX12_sums 113 = .ok (.getfield 42, 3) := by decide +kernel
theorem dX12_sums_116 : decode cX12_sums 116 = .ok (.iload_n 1, 1) := by decide +kernel
theorem dX12_sums_117 : decode cX12_sums 117 = .ok (.iaload, 1) := by decide +kernel
theorem dX12_sums_118 : decode cX12_sums 118 = .ok (.i2l, 1) := by decide +kernel
theorem dX12_sums_119 : decode cX12_sums 119 = .ok (.ladd, 1) := by decide +kernel
theorem dX12_sums_120 : decode cX12_sums 120 = .ok (.lastore, 1) := by decide +kernel
theorem dX12_sums_121 : decode cX12_sums 121 = .ok (.aload_n 0, 1) := by decide +kernel
theorem dX12_sums_122 : decode cX12_sums 122 = .ok (.getfield 103, 3) := by decide +kernel
theorem dX12_sums_125 : decode cX12_sums 125 = .ok (.aload_n 0, 1) := by decide +kernel
theorem dX12_sums_126 : decode cX12_sums 126 = .ok (.getfield 33, 3) := by decide +kernel
theorem dX12_sums_129 : decode cX12_sums 129 = .ok (.iload_n 1, 1) := by decide +kernel
theorem dX12_sums_130 : decode cX12_sums 130 = .ok (.iaload, 1) := by decide +kernel
theorem dX12_sums_131 : decode cX12_sums 131 = .ok (.aload_n 0, 1) := by decide +kernel
theorem dX12_sums_132 : decode cX12_sums 132 = .ok (.getfield 36, 3) := by decide +kernel
theorem dX12_sums_135 : decode cX12_sums 135 = .ok (.iload_n 1, 1) := by decide +kernel
theorem dX12_sums_136 : decode cX12_sums 136 = .ok (.iaload, 1) := by decide +kernel
theorem dX12_sums_137 : decode cX12_sums 137 = .ok (.aload_n 0, 1) := by decide +kernel
theorem dX12_sums_138 : decode cX12_sums 138 = .ok (.getfield 39, 3) := by decide +kernel
theorem dX12_sums_141 : decode cX12_sums 141 = .ok (.iload_n 1, 1) := by decide +kernel
theorem dX12_sums_142 : decode cX12_sums 142 = .ok (.iaload, 1) := by decide +kernel
theorem dX12_sums_143 : decode cX12_sums 143 = .ok (.invokestatic 124, 3) := by decide +kernel
theorem dX12_sums_146 : decode cX12_sums 146 = .ok (.dup2, 1) := by decide +kernel
theorem dX12_sums_147 : decode cX12_sums 147 = .ok (.laload, 1) := by decide +kernel
theorem dX12_sums_148 : decode cX12_sums 148 = .ok (.aload_n 0, 1) := by decide +kernel
theorem dX12_sums_149 : decode cX12_sums 149 = .ok (.getfield 42, 3) := by decide +kernel
theorem dX12_sums_152 : decode cX12_sums 152 = .ok (.iload_n 1, 1) := by decide +kernel
theorem dX12_sums_153 : decode cX12_sums 153 = .ok (.iaload, 1) := by decide +kernel
theorem dX12_sums_154 : decode cX12_sums 154 = .ok (.i2l, 1) := by decide +kernel
theorem dX12_sums_155 : decode cX12_sums 155 = .ok (.ladd, 1) := by decide +kernel
theorem dX12_sums_156 : decode cX12_sums 156 = .ok (.lastore, 1) := by decide +kernel
theorem dX12_sums_157 : decode cX12_sums 157 = .ok (.aload_n 0, 1) := by decide +kernel
theorem dX12_sums_158 : decode cX12_sums 158 = .ok (.getfield 103, 3) := by decide +kernel
theorem dX12_sums_161 : decode cX12_sums 161 = .ok (.aload_n 0, 1) := by decide +kernel
theorem dX12_sums_162 : decode cX12_sums 162 = .ok (.getfield 36, 3) := by decide +kernel
theorem dX12_sums_165 : decode cX12_sums 165 = .ok (.iload_n 1, 1) := by decide +kernel
theorem dX12_sums_166 : decode cX12_sums 166 = .ok (.iaload, 1) := by decide +kernel
theorem dX12_sums_167 : decode cX12_sums 167 = .ok (.aload_n 0, 1) := by decide +kernel
theorem dX12_sums_168 : decode cX12_sums 168 = .ok (.getfield 33, 3) := by decide +kernel
theorem dX12_sums_171 : decode cX12_sums 171 = .ok (.iload_n 1, 1) := by decide +kernel
theorem dX12_sums_172 : decode cX12_sums 172 = .ok (.iaload, 1) := by decide +kernel
theorem dX12_sums_173 : decode cX12_sums 173 = .ok (.aload_n 0, 1) := by decide +kernel
theorem dX12_sums_174 : decode cX12_sums 174 = .ok (.getfield 39, 3) := by decide +kernel
theorem dX12_sums_177 : decode cX12_sums 177 = .ok (.iload_n 1, 1) := by decide +kernel
theorem dX12_sums_178 : decode cX12_sums 178 = .ok (.iaload, 1) := by decide +kernel
theorem dX12_sums_179 : decode cX12_sums 179 = .ok (.invokestatic 124, 3) := by decide +kernel
theorem dX12_sums_182 : decode cX12_sums 182 = .ok (.dup2, 1) := by decide +kernel
theorem dX12_sums_183 : decode cX12_sums 183 = .ok (.laload, 1) := by decide +kernel
theorem dX12_sums_184 : decode cX12_sums 184 = .ok (.aload_n 0, 1) := by decide +kernel
theorem dX12_sums_185 : decode cX12_sums 185 = .ok (.getfield 42, 3) := by decide +kernel
theorem dX12_sums_188 : decode cX12_sums 188 = .ok (.iload_n 1, 1) := by decide +kernel
theorem dX12_sums_189 : decode cX12_sums 189 = .ok (.iaload, 1) := by decide +kernel
theorem dX12_sums_190 : decode cX12_sums 190 = .ok (.i2l, 1) := by decide +kernel
theorem dX12_sums_191 : decode cX12_sums 191 = .ok (.lsub, 1) := by decide +kernel
theorem dX12_sums_192 : decode cX12_sums 192 = .ok (.lastore, 1) := by decide +kernel
theorem dX12_sums_193 : decode cX12_sums 193 = .ok (.iinc 1 1, 3) := by decide +kernel
theorem dX12_sums_196 : decode cX12_sums 196 = .ok (.goto (-152), 3) := by decide +kernel
theorem dX12_sums_199 : decode cX12_sums 199 = .ok (.return_, 1) := by decide +kernel
theorem dX12_isShort_0 : decode cX12_isShort 0 = .ok (.iload_n 1, 1) := by decide +kernel
theorem dX12_isShort_1 : decode cX12_isShort 1 = .ok (.iload_n 2, 1) := by decide +kernel
theorem dX12_isShort_2 : decode cX12_isShort 2 = .ok (.invokestatic 120, 3) := by decide +kernel
theorem dX12_isShort_5 : decode cX12_isShort 5 = .ok (.istore_n 3, 1) := by decide +kernel
theorem dX12_isShort_6 : decode cX12_isShort 6 = .ok (.aload_n 0, 1) := by decide +kernel
theorem dX12_isShort_7 : decode cX12_isShort 7 = .ok (.getfield 100, 3) := by decide +kernel
theorem dX12_isShort_10 : decode cX12_isShort 10 = .ok (.iload_n 3, 1) := by decide +kernel
theorem dX12_isShort_11 : decode cX12_isShort 11 = .ok (.laload, 1) := by decide +kernel
theorem dX12_isShort_12 : decode cX12_isShort 12 = .ok (.lconst 0, 1) := by decide +kernel
theorem dX12_isShort_13 : decode cX12_isShort 13 = .ok (.lcmp, 1) := by decide +kernel
theorem dX12_isShort_14 : decode cX12_isShort 14 = .ok (.ifCond .ge 32, 3) := by decide +kernel
theorem dX12_isShort_17 : decode cX12_isShort 17 = .ok (.aload_n 0, 1) := by decide +kernel
theorem dX12_isShort_18 : decode cX12_isShort 18 = .ok (.getfield 7, 3) := by decide +kernel
theorem dX12_isShort_21 : decode cX12_isShort 21 = .ok (.iload_n 3, 1) := by decide +kernel
theorem dX12_isShort_22 : decode cX12_isShort 22 = .ok (.laload, 1) := by decide +kernel
theorem dX12_isShort_23 : decode cX12_isShort 23 = .ok (.aload_n 0, 1) := by decide +kernel
theorem dX12_isShort_24 : decode cX12_isShort 24 = .ok (.getfield 100, 3) := by decide +kernel
theorem dX12_isShort_27 : decode cX12_isShort 27 = .ok (.iload_n 3, 1) := by decide +kernel
theorem dX12_isShort_28 : decode cX12_isShort 28 = .ok (.laload, 1) := by decide +kernel
theorem dX12_isShort_29 : decode cX12_isShort 29 = .ok (.ladd, 1) := by decide +kernel
theorem dX12_isShort_30 : decode cX12_isShort 30 = .ok (.aload_n 0, 1) := by decide +kernel
theorem dX12_isShort_31 : decode cX12_isShort 31 = .ok (.getfield 13, 3) := by decide +kernel
theorem dX12_isShort_34 : decode cX12_isShort 34 = .ok (.iload_n 3, 1) := by decide +kernel
theorem dX12_isShort_35 : decode cX12_isShort 35 = .ok (.iaload, 1) := by decide +kernel
theorem dX12_isShort_36 : decode cX12_isShort 36 = .ok (.ineg, 1) := by decide +kernel
theorem dX12_isShort_37 : decode cX12_isShort 37 = .ok (.i2l, 1) := by decide +kernel
theorem dX12_isShort_38 : decode cX12_isShort 38 = .ok (.lcmp, 1) := by decide +kernel
theorem dX12_isShort_39 : decode cX12_isShort 39 = .ok (.ifCond .ge 7, 3) := by decide +kernel
theorem dX12_isShort_42 : decode cX12_isShort 42 = .ok (.iconst 1, 1) := by decide +kernel
theorem dX12_isShort_43 : decode cX12_isShort 43 = .ok (.goto 4, 3) := by decide +kernel
theorem dX12_isShort_46 : decode cX12_isShort 46 = .ok (.iconst 0, 1) := by decide +kernel
theorem dX12_isShort_47 : decode cX12_isShort 47 = .ok (.ireturn, 1) := by decide +kernel
theorem dX12_isPassed_0 : decode cX12_isPassed 0 = .ok (.iload_n 1, 1) := by decide +kernel
theorem dX12_isPassed_1 : decode cX12_isPassed 1 = .ok (.iload_n 2, 1) := by decide +kernel
theorem dX12_isPassed_2 : decode cX12_isPassed 2 = .ok (.iload_n 3, 1) := by decide +kernel
theorem dX12_isPassed_3 : decode cX12_isPassed 3 = .ok (.invokestatic 124, 3) := by decide +kernel
theorem dX12_isPassed_6 : decode cX12_isPassed 6 = .ok (.istore 4, 2) := by decide +kernel
theorem dX12_isPassed_8 : decode cX12_isPassed 8 = .ok (.aload_n 0, 1) := by decide +kernel
theorem dX12_isPassed_9 : decode cX12_isPassed 9 = .ok (.getfield 103, 3) := by decide +kernel
theorem dX12_isPassed_12 : decode cX12_isPassed 12 = .ok (.iload 4, 2) := by decide +kernel
theorem dX12_isPassed_14 : decode cX12_isPassed 14 = .ok (.laload, 1) := by decide +kernel
theorem dX12_isPassed_15 : decode cX12_isPassed 15 = .ok (.lconst 0, 1) := by decide +kernel
theorem dX12_isPassed_16 : decode cX12_isPassed 16 = .ok (.lcmp, 1) := by decide +kernel
theorem dX12_isPassed_17 : decode cX12_isPassed 17 = .ok (.ifCond .le 45, 3) := by decide +kernel
theorem dX12_isPassed_20 : decode cX12_isPassed 20 = .ok (.aload_n 0, 1) := by decide +kernel
theorem dX12_isPassed_21 : decode cX12_isPassed 21 = .ok (.getfield 17, 3) := by decide +kernel
theorem dX12_isPassed_24 : decode cX12_isPassed 24 = .ok (.iload 4, 2) := by decide +kernel
theorem dX12_isPassed_26 : decode cX12_isPassed 26 = .ok (.iaload, 1) := by decide +kernel
theorem dX12_isPassed_27 : decode cX12_isPassed 27 = .ok (.iconst (-1), 1) := by decide +kernel
theorem dX12_isPassed_28 : decode cX12_isPassed 28 = .ok (.if_icmp .eq 34, 3) := by decide +kernel
theorem dX12_isPassed_31 : decode cX12_isPassed 31 = .ok (.aload_n 0, 1) := by decide +kernel
theorem dX12_isPassed_32 : decode cX12_isPassed 32 = .ok (.getfield 20, 3) := by decide +kernel
theorem dX12_isPassed_35 : decode cX12_isPassed 35 = .ok (.iload 4, 2) := by decide +kernel
theorem dX12_isPassed_37 : decode cX12_isPassed 37 = .ok (.laload, 1) := by decide +kernel
theorem dX12_isPassed_38 : decode cX12_isPassed 38 = .ok (.aload_n 0, 1) := by decide +kernel
theorem dX12_isPassed_39 : decode cX12_isPassed 39 = .ok (.getfield 103, 3) := by decide +kernel
theorem dX12_isPassed_42 : decode cX12_isPassed 42 = .ok (.iload 4, 2) := by decide +kernel
theorem dX12_isPassed_44 : decode cX12_isPassed 44 = .ok (.laload, 1) := by decide +kernel
theorem dX12_isPassed_45 : decode cX12_isPassed 45 = .ok (.ladd, 1) := by decide +kernel
theorem dX12_isPassed_46 : decode cX12_isPassed 46 = .ok (.aload_n 0, 1) := by decide +kernel
theorem dX12_isPassed_47 : decode cX12_isPassed 47 = .ok (.getfield 17, 3) := by decide +kernel
theorem dX12_isPassed_50 : decode cX12_isPassed 50 = .ok (.iload 4, 2) := by decide +kernel
theorem dX12_isPassed_52 : decode cX12_isPassed 52 = .ok (.iaload, 1) := by decide +kernel
theorem dX12_isPassed_53 : decode cX12_isPassed 53 = .ok (.i2l, 1) := by decide +kernel
theorem dX12_isPassed_54 : decode cX12_isPassed 54 = .ok (.lcmp, 1) := by decide +kernel
theorem dX12_isPassed_55 : decode cX12_isPassed 55 = .ok (.ifCond .le 7, 3) := by decide +kernel
theorem dX12_isPassed_58 : decode cX12_isPassed 58 = .ok (.iconst 1, 1) := by decide +kernel
theorem dX12_isPassed_59 : decode cX12_isPassed 59 = .ok (.goto 4, 3) := by decide +kernel
theorem dX12_isPassed_62 : decode cX12_isPassed 62 = .ok (.iconst 0, 1) := by decide +kernel
theorem dX12_isPassed_63 : decode cX12_isPassed 63 = .ok (.ireturn, 1) := by decide +kernel
theorem dX12_fits_0 : decode cX12_fits 0 = .ok (.iconst 1, 1) := by decide +kernel
theorem dX12_fits_1 : decode cX12_fits 1 = .ok (.istore_n 2, 1) := by decide +kernel
theorem dX12_fits_2 : decode cX12_fits 2 = .ok (.iconst 0, 1) := by decide +kernel
theorem dX12_fits_3 : decode cX12_fits 3 = .ok (.istore_n 3, 1) := by decide +kernel
theorem dX12_fits_4 : decode cX12_fits 4 = .ok (.iload_n 3, 1) := by decide +kernel
theorem dX12_fits_5 : decode cX12_fits 5 = .ok (.bipush 6, 2) := by decide +kernel
theorem dX12_fits_7 : decode cX12_fits 7 = .ok (.if_icmp .ge 65, 3) := by decide +kernel
theorem dX12_fits_10 : decode cX12_fits 10 = .ok (.iload_n 2, 1) := by decide +kernel
theorem dX12_fits_11 : decode cX12_fits 11 = .ok (.ifCond .eq 16, 3) := by decide +kernel
theorem dX12_fits_14 : decode cX12_fits 14 = .ok (.aload_n 0, 1) := by decide +kernel
theorem dX12_fits_15 : decode cX12_fits 15 = .ok (.iload_n 3, 1) := by decide +kernel
theorem dX12_fits_16 : decode cX12_fits 16 = .ok (.iload_n 1, 1) := by decide +kernel
theorem dX12_fits_17 : decode cX12_fits 17 = .ok (.invokevirtual 128, 3) := by decide +kernel
theorem dX12_fits_20 : decode cX12_fits 20 = .ok (.ifCond .ne 7, 3) := by decide +kernel
theorem dX12_fits_23 : decode cX12_fits 23 = .ok (.iconst 1, 1) := by decide +kernel
theorem dX12_fits_24 : decode cX12_fits 24 = .ok (.goto 4, 3) := by decide +kernel
theorem dX12_fits_27 : decode cX12_fits 27 = .ok (.iconst 0, 1) := by decide +kernel
theorem dX12_fits_28 : decode cX12_fits 28 = .ok (.istore_n 2, 1) := by decide +kernel
theorem dX12_fits_29 : decode cX12_fits 29 = .ok (.iconst 0, 1) := by decide +kernel
theorem dX12_fits_30 : decode cX12_fits 30 = .ok (.istore 4, 2) := by decide +kernel
theorem dX12_fits_32 : decode cX12_fits 32 = .ok (.iload 4, 2) := by decide +kernel
theorem dX12_fits_34 : decode cX12_fits 34 = .ok (.bipush 6, 2) := by decide +kernel
theorem dX12_fits_36 : decode cX12_fits 36 = .ok (.if_icmp .ge 30, 3) := by decide +kernel
theorem dX12_fits_39 : decode cX12_fits 39 = .ok (.iload_n 2, 1) := by decide +kernel
theorem dX12_fits_40 : decode cX12_fits 40 = .ok (.ifCond .eq 18, 3) := by decide +kernel
theorem dX12_fits_43 : decode cX12_fits 43 = .ok (.aload_n 0, 1) := by decide +kernel
theorem dX12_fits_44 : decode cX12_fits 44 = .ok (.iload_n 3, 1) := by decide +kernel
theorem dX12_fits_45 : decode cX12_fits 45 = .ok (.iload 4, 2) := by decide +kernel
theorem dX12_fits_47 : decode cX12_fits 47 = .ok (.iload_n 1, 1) := by decide +kernel
theorem dX12_fits_48 : decode cX12_fits 48 = .ok (.invokevirtual 132, 3) := by decide +kernel
theorem dX12_fits_51 : decode cX12_fits 51 = .ok (.ifCond .ne 7, 3) := by decide +kernel
theorem dX12_fits_54 : decode cX12_fits 54 = .ok (.iconst 1, 1) := by decide +kernel
theorem dX12_fits_55 : decode cX12_fits 55 = .ok (.goto 4, 3) := by decide +kernel
theorem dX12_fits_58 : decode cX12_fits 58 = .ok (.iconst 0, 1) := by decide +kernel
theorem dX12_fits_59 : decode cX12_fits 59 = .ok (.istore_n 2, 1) := by decide +kernel
theorem dX12_fits_60 : decode cX12_fits 60 = .ok (.iinc 4 1, 3) := by decide +kernel
theorem dX12_fits_63 : decode cX12_fits 63 = .ok (.goto (-31), 3) := by decide +kernel
theorem dX12_fits_66 : decode cX12_fits 66 = .ok (.iinc 3 1, 3) := by decide +kernel
theorem dX12_fits_69 : decode cX12_fits 69 = .ok (.goto (-65), 3) := by decide +kernel
theorem dX12_fits_72 : decode cX12_fits 72 = .ok (.iload_n 2, 1) := by decide +kernel
theorem dX12_fits_73 : decode cX12_fits 73 = .ok (.ireturn, 1) := by decide +kernel
theorem dX12_areAtWork_0 : decode cX12_areAtWork 0 = .ok (.iconst 1, 1) := by decide +kernel
theorem dX12_areAtWork_1 : decode cX12_areAtWork 1 = .ok (.istore_n 1, 1) := by decide +kernel
theorem dX12_areAtWork_2 : decode cX12_areAtWork 2 = .ok (.iconst 0, 1) := by decide +kernel
theorem dX12_areAtWork_3 : decode cX12_areAtWork 3 = .ok (.istore_n 2, 1) := by decide +kernel
theorem dX12_areAtWork_4 : decode cX12_areAtWork 4 = .ok (.iload_n 2, 1) := by decide +kernel
theorem dX12_areAtWork_5 : decode cX12_areAtWork 5 = .ok (.aload_n 0, 1) := by decide +kernel
theorem dX12_areAtWork_6 : decode cX12_areAtWork 6 = .ok (.getfield 114, 3) := by decide +kernel
theorem dX12_areAtWork_9 : decode cX12_areAtWork 9 = .ok (.if_icmp .ge 73, 3) := by decide +kernel
theorem dX12_areAtWork_12 : decode cX12_areAtWork 12 = .ok (.iload_n 1, 1) := by decide +kernel
theorem dX12_areAtWork_13 : decode cX12_areAtWork 13 = .ok (.ifCond .eq 61, 3) := by decide +kernel
theorem dX12_areAtWork_16 : decode cX12_areAtWork 16 = .ok (.aload_n 0, 1) := by decide +kernel
theorem dX12_areAtWork_17 : decode cX12_areAtWork 17 = .ok (.getfield 97, 3) := by decide +kernel
theorem dX12_areAtWork_20 : decode cX12_areAtWork 20 = .ok (.iload_n 2, 1) := by decide +kernel
theorem dX12_areAtWork_21 : decode cX12_areAtWork 21 = .ok (.baload, 1) := by decide +kernel
theorem dX12_areAtWork_22 : decode cX12_areAtWork 22 = .ok (.ifCond .eq 48, 3) := by decide +kernel
theorem dX12_areAtWork_25 : decode cX12_areAtWork 25 = .ok (.aload_n 0, 1) := by decide +kernel
theorem dX12_areAtWork_26 : decode cX12_areAtWork 26 = .ok (.aload_n 0, 1) := by decide +kernel
theorem dX12_areAtWork_27 : decode cX12_areAtWork 27 = .ok (.getfield 39, 3) := by decide +kernel
theorem dX12_areAtWork_30 : decode cX12_areAtWork 30 = .ok (.iload_n 2, 1) := by decide +kernel
theorem dX12_areAtWork_31 : decode cX12_areAtWork 31 = .ok (.iaload, 1) := by decide +kernel
theorem dX12_areAtWork_32 : decode cX12_areAtWork 32 = .ok (.aload_n 0, 1) := by decide +kernel
theorem dX12_areAtWork_33 : decode cX12_areAtWork 33 = .ok (.getfield 135, 3) := by decide +kernel
theorem dX12_areAtWork_36 : decode cX12_areAtWork 36 = .ok (.invokevirtual 138, 3) := by decide +kernel
theorem dX12_areAtWork_39 : decode cX12_areAtWork 39 = .ok (.ifCond .eq 35, 3) := by decide +kernel
theorem dX12_areAtWork_42 : decode cX12_areAtWork 42 = .ok (.aload_n 0, 1) := by decide +kernel
theorem dX12_areAtWork_43 : decode cX12_areAtWork 43 = .ok (.getfield 23, 3) := by decide +kernel
theorem dX12_areAtWork_46 : decode cX12_areAtWork 46 = .ok (.aload_n 0, 1) := by decide +kernel
theorem dX12_areAtWork_47 : decode cX12_areAtWork 47 = .ok (.getfield 33, 3) := by decide +kernel
theorem dX12_areAtWork_50 : decode cX12_areAtWork 50 = .ok (.iload_n 2, 1) := by decide +kernel
theorem dX12_areAtWork_51 : decode cX12_areAtWork 51 = .ok (.iaload, 1) := by decide +kernel
theorem dX12_areAtWork_52 : decode cX12_areAtWork 52 = .ok (.baload, 1) := by decide +kernel
theorem dX12_areAtWork_53 : decode cX12_areAtWork 53 = .ok (.ifCond .ne 21, 3) := by decide +kernel
theorem dX12_areAtWork_56 : decode cX12_areAtWork 56 = .ok (.aload_n 0, 1) := by decide +kernel
theorem dX12_areAtWork_57 : decode cX12_areAtWork 57 = .ok (.getfield 23, 3) := by decide +kernel
theorem dX12_areAtWork_60 : decode cX12_areAtWork 60 = .ok (.aload_n 0, 1) := by decide +kernel
theorem dX12_areAtWork_61 : decode cX12_areAtWork 61 = .ok (.getfield 36, 3) := by decide +kernel
theorem dX12_areAtWork_64 : decode cX12_areAtWork 64 = .ok (.iload_n 2, 1) := by decide +kernel
theorem dX12_areAtWork_65 : decode cX12_areAtWork 65 = .ok (.iaload, 1) := by decide +kernel
theorem dX12_areAtWork_66 : decode cX12_areAtWork 66 = .ok (.baload, 1) := by decide +kernel
theorem dX12_areAtWork_67 : decode cX12_areAtWork 67 = .ok (.ifCond .ne 7, 3) := by decide +kernel
theorem dX12_areAtWork_70 : decode cX12_areAtWork 70 = .ok (.iconst 1, 1) := by decide +kernel
theorem dX12_areAtWork_71 : decode cX12_areAtWork 71 = .ok (.goto 4, 3) := by decide +kernel
theorem dX12_areAtWork_74 : decode cX12_areAtWork 74 = .ok (.iconst 0, 1) := by decide +kernel
theorem dX12_areAtWork_75 : decode cX12_areAtWork 75 = .ok (.istore_n 1, 1) := by decide +kernel
theorem dX12_areAtWork_76 : decode cX12_areAtWork 76 = .ok (.iinc 2 1, 3) := by decide +kernel
theorem dX12_areAtWork_79 : decode cX12_areAtWork 79 = .ok (.goto (-75), 3) := by decide +kernel
theorem dX12_areAtWork_82 : decode cX12_areAtWork 82 = .ok (.iload_n 1, 1) := by decide +kernel
theorem dX12_areAtWork_83 : decode cX12_areAtWork 83 = .ok (.ireturn, 1) := by decide +kernel
theorem dX12_settles_0 : decode cX12_settles 0 = .ok (.iconst 0, 1) := by decide +kernel
theorem dX12_settles_1 : decode cX12_settles 1 = .ok (.istore_n 1, 1) := by decide +kernel
theorem dX12_settles_2 : decode cX12_settles 2 = .ok (.iconst 0, 1) := by decide +kernel
theorem dX12_settles_3 : decode cX12_settles 3 = .ok (.istore_n 2, 1) := by decide +kernel
theorem dX12_settles_4 : decode cX12_settles 4 = .ok (.iload_n 2, 1) := by decide +kernel
theorem dX12_settles_5 : decode cX12_settles 5 = .ok (.aload_n 0, 1) := by decide +kernel
theorem dX12_settles_6 : decode cX12_settles 6 = .ok (.getfield 114, 3) := by decide +kernel
theorem dX12_settles_9 : decode cX12_settles 9 = .ok (.if_icmp .ge 160, 3) := by decide +kernel
theorem dX12_settles_12 : decode cX12_settles 12 = .ok (.aload_n 0, 1) := by decide +kernel
theorem dX12_settles_13 : decode cX12_settles 13 = .ok (.getfield 97, 3) := by decide +kernel
theorem dX12_settles_16 : decode cX12_settles 16 = .ok (.iload_n 2, 1) := by decide +kernel
theorem dX12_settles_17 : decode cX12_settles 17 = .ok (.baload, 1) := by decide +kernel
theorem dX12_settles_18 : decode cX12_settles 18 = .ok (.ifCond .eq 145, 3) := by decide +kernel
theorem dX12_settles_21 : decode cX12_settles 21 = .ok (.aload_n 0, 1) := by decide +kernel
theorem dX12_settles_22 : decode cX12_settles 22 = .ok (.getfield 60, 3) := by decide +kernel
theorem dX12_settles_25 : decode cX12_settles 25 = .ok (.iload_n 2, 1) := by decide +kernel
theorem dX12_settles_26 : decode cX12_settles 26 = .ok (.iconst 4, 1) := by decide +kernel
theorem dX12_settles_27 : decode cX12_settles 27 = .ok (.iastore, 1) := by decide +kernel
theorem dX12_settles_28 : decode cX12_settles 28 = .ok (.aload_n 0, 1) := by decide +kernel
theorem dX12_settles_29 : decode cX12_settles 29 = .ok (.getfield 72, 3) := by decide +kernel
theorem dX12_settles_32 : decode cX12_settles 32 = .ok (.iload_n 2, 1) := by decide +kernel
theorem dX12_settles_33 : decode cX12_settles 33 = .ok (.aload_n 0, 1) := by decide +kernel
theorem dX12_settles_34 : decode cX12_settles 34 = .ok (.getfield 135, 3) := by decide +kernel
theorem dX12_settles_37 : decode cX12_settles 37 = .ok (.iastore, 1) := by decide +kernel
theorem dX12_settles_38 : decode cX12_settles 38 = .ok (.aload_n 0, 1) := by decide +kernel
theorem dX12_settles_39 : decode cX12_settles 39 = .ok (.aload_n 0, 1) := by decide +kernel
theorem dX12_settles_40 : decode cX12_settles 40 = .ok (.getfield 33, 3) := by decide +kernel
theorem dX12_settles_43 : decode cX12_settles 43 = .ok (.iload_n 2, 1) := by decide +kernel
theorem dX12_settles_44 : decode cX12_settles 44 = .ok (.iaload, 1) := by decide +kernel
theorem dX12_settles_45 : decode cX12_settles 45 = .ok (.aload_n 0, 1) := by decide +kernel
theorem dX12_settles_46 : decode cX12_settles 46 = .ok (.getfield 36, 3) := by decide +kernel
theorem dX12_settles_49 : decode cX12_settles 49 = .ok (.iload_n 2, 1) := by decide +kernel
theorem dX12_settles_50 : decode cX12_settles 50 = .ok (.iaload, 1) := by decide +kernel
theorem dX12_settles_51 : decode cX12_settles 51 = .ok (.aload_n 0, 1) := by decide +kernel
theorem dX12_settles_52 : decode cX12_settles 52 = .ok (.getfield 39, 3) := by decide +kernel
theorem dX12_settles_55 : decode cX12_settles 55 = .ok (.iload_n 2, 1) := by decide +kernel
theorem dX12_settles_56 : decode cX12_settles 56 = .ok (.iaload, 1) := by decide +kernel
theorem dX12_settles_57 : decode cX12_settles 57 = .ok (.aload_n 0, 1) := by decide +kernel
theorem dX12_settles_58 : decode cX12_settles 58 = .ok (.getfield 42, 3) := by decide +kernel
theorem dX12_settles_61 : decode cX12_settles 61 = .ok (.iload_n 2, 1) := by decide +kernel
theorem dX12_settles_62 : decode cX12_settles 62 = .ok (.iaload, 1) := by decide +kernel
theorem dX12_settles_63 : decode cX12_settles 63 = .ok (.i2l, 1) := by decide +kernel
theorem dX12_settles_64 : decode cX12_settles 64 = .ok (.iload_n 2, 1) := by decide +kernel
theorem dX12_settles_65 : decode cX12_settles 65 = .ok (.invokevirtual 141, 3) := by decide +kernel
theorem dX12_settles_68 : decode cX12_settles 68 = .ok (.aload_n 0, 1) := by decide +kernel
theorem dX12_settles_69 : decode cX12_settles 69 = .ok (.getfield 20, 3) := by decide +kernel
theorem dX12_settles_72 : decode cX12_settles 72 = .ok (.aload_n 0, 1) := by decide +kernel
theorem dX12_settles_73 : decode cX12_settles 73 = .ok (.getfield 33, 3) := by decide +kernel
theorem dX12_settles_76 : decode cX12_settles 76 = .ok (.iload_n 2, 1) := by decide +kernel
theorem dX12_settles_77 : decode cX12_settles 77 = .ok (.iaload, 1) := by decide +kernel
theorem dX12_settles_78 : decode cX12_settles 78 = .ok (.aload_n 0, 1) := by decide +kernel
theorem dX12_settles_79 : decode cX12_settles 79 = .ok (.getfield 36, 3) := by decide +kernel
theorem dX12_settles_82 : decode cX12_settles 82 = .ok (.iload_n 2, 1) := by decide +kernel
theorem dX12_settles_83 : decode cX12_settles 83 = .ok (.iaload, 1) := by decide +kernel
theorem dX12_settles_84 : decode cX12_settles 84 = .ok (.aload_n 0, 1) := by decide +kernel
theorem dX12_settles_85 : decode cX12_settles 85 = .ok (.getfield 39, 3) := by decide +kernel
theorem dX12_settles_88 : decode cX12_settles 88 = .ok (.iload_n 2, 1) := by decide +kernel
theorem dX12_settles_89 : decode cX12_settles 89 = .ok (.iaload, 1) := by decide +kernel
theorem dX12_settles_90 : decode cX12_settles 90 = .ok (.invokestatic 124, 3) := by decide +kernel
theorem dX12_settles_93 : decode cX12_settles 93 = .ok (.dup2, 1) := by decide +kernel
theorem dX12_settles_94 : decode cX12_settles 94 = .ok (.laload, 1) := by decide +kernel
theorem dX12_settles_95 : decode cX12_settles 95 = .ok (.aload_n 0, 1) := by decide +kernel
theorem dX12_settles_96 : decode cX12_settles 96 = .ok (.getfield 42, 3) := by decide +kernel
theorem dX12_settles_99 : decode cX12_settles 99 = .ok (.iload_n 2, 1) := by decide +kernel
theorem dX12_settles_100 : decode cX12_settles 100 = .ok (.iaload, 1) := by decide +kernel
theorem dX12_settles_101 : decode cX12_settles 101 = .ok (.i2l, 1) := by decide +kernel
theorem dX12_settles_102 : decode cX12_settles 102 = .ok (.ladd, 1) := by decide +kernel
theorem dX12_settles_103 : decode cX12_settles 103 = .ok (.lastore, 1) := by decide +kernel
theorem dX12_settles_104 : decode cX12_settles 104 = .ok (.aload_n 0, 1) := by decide +kernel
theorem dX12_settles_105 : decode cX12_settles 105 = .ok (.getfield 20, 3) := by decide +kernel
theorem dX12_settles_108 : decode cX12_settles 108 = .ok (.aload_n 0, 1) := by decide +kernel
theorem dX12_settles_109 : decode cX12_settles 109 = .ok (.getfield 36, 3) := by decide +kernel
theorem dX12_settles_112 : decode cX12_settles 112 = .ok (.iload_n 2, 1) := by decide +kernel
theorem dX12_settles_113 : decode cX12_settles 113 = .ok (.iaload, 1) := by decide +kernel
theorem dX12_settles_114 : decode cX12_settles 114 = .ok (.aload_n 0, 1) := by decide +kernel
theorem dX12_settles_115 : decode cX12_settles 115 = .ok (.getfield 33, 3) := by decide +kernel
theorem dX12_settles_118 : decode cX12_settles 118 = .ok (.iload_n 2, 1) := by decide +kernel
theorem dX12_settles_119 : decode cX12_settles 119 = .ok (.iaload, 1) := by decide +kernel
theorem dX12_settles_120 : decode cX12_settles 120 = .ok (.aload_n 0, 1) := by decide +kernel
theorem dX12_settles_121 : decode cX12_settles 121 = .ok (.getfield 39, 3) := by decide +kernel
theorem dX12_settles_124 : decode cX12_settles 124 = .ok (.iload_n 2, 1) := by decide +kernel
theorem dX12_settles_125 : decode cX12_settles 125 = .ok (.iaload, 1) := by decide +kernel
theorem dX12_settles_126 : decode cX12_settles 126 = .ok (.invokestatic 124, 3) := by decide +kernel
theorem dX12_settles_129 : decode cX12_settles 129 = .ok (.dup2, 1) := by decide +kernel
theorem dX12_settles_130 : decode cX12_settles 130 = .ok (.laload, 1) := by decide +kernel
theorem dX12_settles_131 : decode cX12_settles 131 = .ok (.aload_n 0, 1) := by decide +kernel
theorem dX12_settles_132 : decode cX12_settles 132 = .ok (.getfield 42, 3) := by decide +kernel
theorem dX12_settles_135 : decode cX12_settles 135 = .ok (.iload_n 2, 1) := by decide +kernel
theorem dX12_settles_136 : decode cX12_settles 136 = .ok (.iaload, 1) := by decide +kernel
theorem dX12_settles_137 : decode cX12_settles 137 = .ok (.i2l, 1) := by decide +kernel
theorem dX12_settles_138 : decode cX12_settles 138 = .ok (.lsub, 1) := by decide +kernel
theorem dX12_settles_139 : decode cX12_settles 139 = .ok (.lastore, 1) := by decide +kernel
theorem dX12_settles_140 : decode cX12_settles 140 = .ok (.aload_n 0, 1) := by decide +kernel
theorem dX12_settles_141 : decode cX12_settles 141 = .ok (.getfield 84, 3) := by decide +kernel
theorem dX12_settles_144 : decode cX12_settles 144 = .ok (.aload_n 0, 1) := by decide +kernel
theorem dX12_settles_145 : decode cX12_settles 145 = .ok (.getfield 145, 3) := by decide +kernel
theorem dX12_settles_148 : decode cX12_settles 148 = .ok (.iload_n 2, 1) := by decide +kernel
theorem dX12_settles_149 : decode cX12_settles 149 = .ok (.iastore, 1) := by decide +kernel
theorem dX12_settles_150 : decode cX12_settles 150 = .ok (.aload_n 0, 1) := by decide +kernel
theorem dX12_settles_151 : decode cX12_settles 151 = .ok (.dup, 1) := by decide +kernel
theorem dX12_settles_152 : decode cX12_settles 152 = .ok (.getfield 145, 3) := by decide +kernel
theorem dX12_settles_155 : decode cX12_settles 155 = .ok (.iconst 1, 1) := by decide +kernel
theorem dX12_settles_156 : decode cX12_settles 156 = .ok (.iadd, 1) := by decide +kernel
theorem dX12_settles_157 : decode cX12_settles 157 = .ok (.putfield 145, 3) := by decide +kernel
theorem dX12_settles_160 : decode cX12_settles 160 = .ok (.iinc 1 1, 3) := by decide +kernel
theorem dX12_settles_163 : decode cX12_settles 163 = .ok (.iinc 2 1, 3) := by decide +kernel
theorem dX12_settles_166 : decode cX12_settles 166 = .ok (.goto (-162), 3) := by decide +kernel
theorem dX12_settles_169 : decode cX12_settles 169 = .ok (.iload_n 1, 1) := by decide +kernel
theorem dX12_settles_170 : decode cX12_settles 170 = .ok (.ireturn, 1) := by decide +kernel
theorem dX12_queued_0 : decode cX12_queued 0 = .ok (.iload_n 3, 1) := by decide +kernel
theorem dX12_queued_1 : decode cX12_queued 1 = .ok (.istore 4, 2) := by decide +kernel
theorem dX12_queued_3 : decode cX12_queued 3 = .ok (.iconst 2, 1) := by decide +kernel
theorem dX12_queued_4 : decode cX12_queued 4 = .ok (.istore 5, 2) := by decide +kernel
theorem dX12_queued_6 : decode cX12_queued 6 = .ok (.iload 5, 2) := by decide +kernel
theorem dX12_queued_8 : decode cX12_queued 8 = .ok (.ifCond .lt 83, 3) := by decide +kernel
theorem dX12_queued_11 : decode cX12_queued 11 = .ok (.iconst 0, 1) := by decide +kernel
theorem dX12_queued_12 : decode cX12_queued 12 = .ok (.istore 6, 2) := by decide +kernel
theorem dX12_queued_14 : decode cX12_queued 14 = .ok (.iload 6, 2) := by decide +kernel
theorem dX12_queued_16 : decode cX12_queued 16 = .ok (.aload_n 0, 1) := by decide +kernel
theorem dX12_queued_17 : decode cX12_queued 17 = .ok (.getfield 114, 3) := by decide +kernel
theorem dX12_queued_20 : decode cX12_queued 20 = .ok (.if_icmp .ge 65, 3) := by decide +kernel
theorem dX12_queued_23 : decode cX12_queued 23 = .ok (.aload_n 0, 1) := by decide +kernel
theorem dX12_queued_24 : decode cX12_queued 24 = .ok (.getfield 60, 3) := by decide +kernel
theorem dX12_queued_27 : decode cX12_queued 27 = .ok (.iload 6, 2) := by decide +kernel
theorem dX12_queued_29 : decode cX12_queued 29 = .ok (.iaload, 1) := by decide +kernel
theorem dX12_queued_30 : decode cX12_queued 30 = .ok (.iconst 2, 1) := by decide +kernel
theorem dX12_queued_31 : decode cX12_queued 31 = .ok (.if_icmp .ne 48, 3) := by decide +kernel
theorem dX12_queued_34 : decode cX12_queued 34 = .ok (.aload_n 0, 1) := by decide +kernel
theorem dX12_queued_35 : decode cX12_queued 35 = .ok (.getfield 33, 3) := by decide +kernel
theorem dX12_queued_38 : decode cX12_queued 38 = .ok (.iload 6, 2) := by decide +kernel
theorem dX12_queued_40 : decode cX12_queued 40 = .ok (.iaload, 1) := by decide +kernel
theorem dX12_queued_41 : decode cX12_queued 41 = .ok (.iload_n 1, 1) := by decide +kernel
theorem dX12_queued_42 : decode cX12_queued 42 = .ok (.if_icmp .ne 37, 3) := by decide +kernel
theorem dX12_queued_45 : decode cX12_queued 45 = .ok (.aload_n 0, 1) := by decide +kernel
theorem dX12_queued_46 : decode cX12_queued 46 = .ok (.getfield 39, 3) := by decide +kernel
theorem dX12_queued_49 : decode cX12_queued 49 = .ok (.iload 6, 2) := by decide +kernel
theorem dX12_queued_51 : decode cX12_queued 51 = .ok (.iaload, 1) := by decide +kernel
theorem dX12_queued_52 : decode cX12_queued 52 = .ok (.iload_n 2, 1) := by decide +kernel
theorem dX12_queued_53 : decode cX12_queued 53 = .ok (.if_icmp .ne 26, 3) := by decide +kernel
theorem dX12_queued_56 : decode cX12_queued 56 = .ok (.aload_n 0, 1) := by decide +kernel
theorem dX12_queued_57 : decode cX12_queued 57 = .ok (.getfield 48, 3) := by decide +kernel
theorem dX12_queued_60 : decode cX12_queued 60 = .ok (.iload 6, 2) := by decide +kernel
theorem dX12_queued_62 : decode cX12_queued 62 = .ok (.iaload, 1) := by decide +kernel
theorem dX12_queued_63 : decode cX12_queued 63 = .ok (.iload 5, 2) := by decide +kernel
theorem dX12_queued_65 : decode cX12_queued 65 = .ok (.if_icmp .ne 14, 3) := by decide +kernel
theorem dX12_queued_68 : decode cX12_queued 68 = .ok (.iload 4, 2) := by decide +kernel
theorem dX12_queued_70 : decode cX12_queued 70 = .ok (.ifCond .ne 6, 3) := by decide +kernel
theorem dX12_queued_73 : decode cX12_queued 73 = .ok (.iload 6, 2) := by decide +kernel
theorem dX12_queued_75 : decode cX12_queued 75 = .ok (.ireturn, 1) := by decide +kernel
theorem dX12_queued_76 : decode cX12_queued 76 = .ok (.iinc 4 (-1), 3) := by decide +kernel
theorem dX12_queued_79 : decode cX12_queued 79 = .ok (.iinc 6 1, 3) := by decide +kernel
theorem dX12_queued_82 : decode cX12_queued 82 = .ok (.goto (-68), 3) := by decide +kernel
theorem dX12_queued_85 : decode cX12_queued 85 = .ok (.iinc 5 (-1), 3) := by decide +kernel
theorem dX12_queued_88 : decode cX12_queued 88 = .ok (.goto (-82), 3) := by decide +kernel
theorem dX12_queued_91 : decode cX12_queued 91 = .ok (.iconst (-1), 1) := by decide +kernel
theorem dX12_queued_92 : decode cX12_queued 92 = .ok (.ireturn, 1) := by decide +kernel
theorem dX12_settlesFirst_0 : decode cX12_settlesFirst 0 = .ok (.aload_n 0, 1) := by decide +kernel
theorem dX12_settlesFirst_1 : decode cX12_settlesFirst 1 = .ok (.iload_n 1, 1) := by decide +kernel
theorem dX12_settlesFirst_2 : decode cX12_settlesFirst 2 = .ok (.iload_n 2, 1) := by decide +kernel
theorem dX12_settlesFirst_3 : decode cX12_settlesFirst 3 = .ok (.iconst 0, 1) := by decide +kernel
theorem dX12_settlesFirst_4 : decode cX12_settlesFirst 4 = .ok (.invokevirtual 148, 3) := by decide +kernel
theorem dX12_settlesFirst_7 : decode cX12_settlesFirst 7 = .ok (.istore_n 3, 1) := by decide +kernel
theorem dX12_settlesFirst_8 : decode cX12_settlesFirst 8 = .ok (.iload_n 3, 1) := by decide +kernel
theorem dX12_settlesFirst_9 : decode cX12_settlesFirst 9 = .ok (.iconst (-1), 1) := by decide +kernel
theorem dX12_settlesFirst_10 : decode cX12_settlesFirst 10 = .ok (.if_icmp .eq 28, 3) := by decide +kernel
theorem dX12_settlesFirst_13 : decode cX12_settlesFirst 13 = .ok (.aload_n 0, 1) := by decide +kernel
theorem dX12_settlesFirst_14 : decode cX12_settlesFirst 14 = .ok (.getfield 69, 3) := by decide +kernel
theorem dX12_settlesFirst_17 : decode cX12_settlesFirst 17 = .ok (.iload_n 3, 1) := by decide +kernel
theorem dX12_settlesFirst_18 : decode cX12_settlesFirst 18 = .ok (.iaload, 1) := by decide +kernel
theorem dX12_settlesFirst_19 : decode cX12_settlesFirst 19 = .ok (.iconst (-1), 1) := by decide +kernel
theorem dX12_settlesFirst_20 : decode cX12_settlesFirst 20 = .ok (.if_icmp .eq 20, 3) := by decide +kernel
theorem dX12_settlesFirst_23 : decode cX12_settlesFirst 23 = .ok (.aload_n 0, 1) := by decide +kernel
theorem dX12_settlesFirst_24 : decode cX12_settlesFirst 24 = .ok (.getfield 60, 3) := by decide +kernel
theorem dX12_settlesFirst_27 : decode cX12_settlesFirst 27 = .ok (.aload_n 0, 1) := by decide +kernel
theorem dX12_settlesFirst_28 : decode cX12_settlesFirst 28 = .ok (.getfield 69, 3) := by decide +kernel
theorem dX12_settlesFirst_31 : decode cX12_settlesFirst 31 = .ok (.iload_n 3, 1) := by decide +kernel
theorem dX12_settlesFirst_32 : decode cX12_settlesFirst 32 = .ok (.iaload, 1) := by decide +kernel
theorem dX12_settlesFirst_33 : decode cX12_settlesFirst 33 = .ok (.iaload, 1) := by decide +kernel
theorem dX12_settlesFirst_34 : decode cX12_settlesFirst 34 = .ok (.iconst 2, 1) := by decide +kernel
theorem dX12_settlesFirst_35 : decode cX12_settlesFirst 35 = .ok (.if_icmp .eq 5, 3) := by decide +kernel
theorem dX12_settlesFirst_38 : decode cX12_settlesFirst 38 = .ok (.iconst 0, 1) := by decide +kernel
theorem dX12_settlesFirst_39 : decode cX12_settlesFirst 39 = .ok (.ireturn, 1) := by decide +kernel
theorem dX12_settlesFirst_40 : decode cX12_settlesFirst 40 = .ok (.aload_n 0, 1) := by decide +kernel
theorem dX12_settlesFirst_41 : decode cX12_settlesFirst 41 = .ok (.invokevirtual 151, 3) := by decide +kernel
theorem dX12_settlesFirst_44 : decode cX12_settlesFirst 44 = .ok (.aload_n 0, 1) := by decide +kernel
theorem dX12_settlesFirst_45 : decode cX12_settlesFirst 45 = .ok (.getfield 97, 3) := by decide +kernel
theorem dX12_settlesFirst_48 : decode cX12_settlesFirst 48 = .ok (.iload_n 3, 1) := by decide +kernel
theorem dX12_settlesFirst_49 : decode cX12_settlesFirst 49 = .ok (.iconst 1, 1) := by decide +kernel
theorem dX12_settlesFirst_50 : decode cX12_settlesFirst 50 = .ok (.bastore, 1) := by decide +kernel
theorem dX12_settlesFirst_51 : decode cX12_settlesFirst 51 = .ok (.aload_n 0, 1) := by decide +kernel
theorem dX12_settlesFirst_52 : decode cX12_settlesFirst 52 = .ok (.getfield 69, 3) := by decide +kernel
theorem dX12_settlesFirst_55 : decode cX12_settlesFirst 55 = .ok (.iload_n 3, 1) := by decide +kernel
theorem dX12_settlesFirst_56 : decode cX12_settlesFirst 56 = .ok (.iaload, 1) := by decide +kernel
theorem dX12_settlesFirst_57 : decode cX12_settlesFirst 57 = .ok (.iconst (-1), 1) := by decide +kernel
theorem dX12_settlesFirst_58 : decode cX12_settlesFirst 58 = .ok (.if_icmp .eq 15, 3) := by decide +kernel
theorem dX12_settlesFirst_61 : decode cX12_settlesFirst 61 = .ok (.aload_n 0, 1) := by decide +kernel
theorem dX12_settlesFirst_62 : decode cX12_settlesFirst 62 = .ok (.getfield 97, 3) := by decide +kernel
theorem dX12_settlesFirst_65 : decode cX12_settlesFirst 65 = .ok (.aload_n 0, 1) := by decide +kernel
theorem dX12_settlesFirst_66 : decode cX12_settlesFirst 66 = .ok (.getfield 69, 3) := by decide +kernel
theorem dX12_settlesFirst_69 : decode cX12_settlesFirst 69 = .ok (.iload_n 3, 1) := by decide +kernel
theorem dX12_settlesFirst_70 : decode cX12_settlesFirst 70 = .ok (.iaload, 1) := by decide +kernel
theorem dX12_settlesFirst_71 : decode cX12_settlesFirst 71 = .ok (.iconst 1, 1) := by decide +kernel
theorem dX12_settlesFirst_72 : decode cX12_settlesFirst 72 = .ok (.bastore, 1) := by decide +kernel
theorem dX12_settlesFirst_73 : decode cX12_settlesFirst 73 = .ok (.aload_n 0, 1) := by decide +kernel
theorem dX12_settlesFirst_74 : decode cX12_settlesFirst 74 = .ok (.invokevirtual 154, 3) := by decide +kernel
theorem dX12_settlesFirst_77 : decode cX12_settlesFirst 77 = .ok (.aload_n 0, 1) := by decide +kernel
theorem dX12_settlesFirst_78 : decode cX12_settlesFirst 78 = .ok (.invokevirtual 157, 3) := by decide +kernel
theorem dX12_settlesFirst_81 : decode cX12_settlesFirst 81 = .ok (.ifCond .eq 34, 3) := by decide +kernel
theorem dX12_settlesFirst_84 : decode cX12_settlesFirst 84 = .ok (.aload_n 0, 1) := by decide +kernel
theorem dX12_settlesFirst_85 : decode cX12_settlesFirst 85 = .ok (.iconst 0, 1) := by decide +kernel
theorem dX12_settlesFirst_86 : decode cX12_settlesFirst 86 = .ok (.invokevirtual 161, 3) := by decide +kernel
theorem dX12_settlesFirst_89 : decode cX12_settlesFirst 89 = .ok (.ifCond .eq 26, 3) := by decide +kernel
theorem dX12_settlesFirst_92 : decode cX12_settlesFirst 92 = .ok (.aload_n 0, 1) := by decide +kernel
theorem dX12_settlesFirst_93 : decode cX12_settlesFirst 93 = .ok (.iconst 1, 1) := by decide +kernel
theorem dX12_settlesFirst_94 : decode cX12_settlesFirst 94 = .ok (.invokevirtual 161, 3) := by decide +kernel
theorem dX12_settlesFirst_97 : decode cX12_settlesFirst 97 = .ok (.ifCond .eq 18, 3) := by decide +kernel
theorem dX12_settlesFirst_100 : decode cX12_settlesFirst 100 = .ok (.aload_n 0, 1) := by decide +kernel
theorem dX12_settlesFirst_101 : decode cX12_settlesFirst 101 = .ok (.iconst 2, 1) := by decide +kernel
theorem dX12_settlesFirst_102 : decode cX12_settlesFirst 102 = .ok (.invokevirtual 161, 3) := by decide +kernel
theorem dX12_settlesFirst_105 : decode cX12_settlesFirst 105 = .ok (.ifCond .eq 10, 3) := by decide +kernel
theorem dX12_settlesFirst_108 : decode cX12_settlesFirst 108 = .ok (.aload_n 0, 1) := by decide +kernel
theorem dX12_settlesFirst_109 : decode cX12_settlesFirst 109 = .ok (.invokevirtual 165, 3) := by decide +kernel
theorem dX12_settlesFirst_112 : decode cX12_settlesFirst 112 = .ok (.goto 4, 3) := by decide +kernel
theorem dX12_settlesFirst_115 : decode cX12_settlesFirst 115 = .ok (.iconst 0, 1) := by decide +kernel
theorem dX12_settlesFirst_116 : decode cX12_settlesFirst 116 = .ok (.ireturn, 1) := by decide +kernel
theorem dX12_runs_0 : decode cX12_runs 0 = .ok (.iconst 0, 1) := by decide +kernel
theorem dX12_runs_1 : decode cX12_runs 1 = .ok (.istore_n 1, 1) := by decide +kernel
theorem dX12_runs_2 : decode cX12_runs 2 = .ok (.iconst 1, 1) := by decide +kernel
theorem dX12_runs_3 : decode cX12_runs 3 = .ok (.istore_n 2, 1) := by decide +kernel
theorem dX12_runs_4 : decode cX12_runs 4 = .ok (.iload_n 2, 1) := by decide +kernel
theorem dX12_runs_5 : decode cX12_runs 5 = .ok (.ifCond .le 51, 3) := by decide +kernel
theorem dX12_runs_8 : decode cX12_runs 8 = .ok (.iconst 0, 1) := by decide +kernel
theorem dX12_runs_9 : decode cX12_runs 9 = .ok (.istore_n 2, 1) := by decide +kernel
theorem dX12_runs_10 : decode cX12_runs 10 = .ok (.iconst 0, 1) := by decide +kernel
theorem dX12_runs_11 : decode cX12_runs 11 = .ok (.istore_n 3, 1) := by decide +kernel
theorem dX12_runs_12 : decode cX12_runs 12 = .ok (.iload_n 3, 1) := by decide +kernel
theorem dX12_runs_13 : decode cX12_runs 13 = .ok (.iconst 3, 1) := by decide +kernel
theorem dX12_runs_14 : decode cX12_runs 14 = .ok (.if_icmp .ge 35, 3) := by decide +kernel
theorem dX12_runs_17 : decode cX12_runs 17 = .ok (.iconst 0, 1) := by decide +kernel
theorem dX12_runs_18 : decode cX12_runs 18 = .ok (.istore 4, 2) := by decide +kernel
theorem dX12_runs_20 : decode cX12_runs 20 = .ok (.iload 4, 2) := by decide +kernel
theorem dX12_runs_22 : decode cX12_runs 22 = .ok (.bipush 6, 2) := by decide +kernel
theorem dX12_runs_24 : decode cX12_runs 24 = .ok (.if_icmp .ge 19, 3) := by decide +kernel
theorem dX12_runs_27 : decode cX12_runs 27 = .ok (.iload_n 2, 1) := by decide +kernel
theorem dX12_runs_28 : decode cX12_runs 28 = .ok (.aload_n 0, 1) := by decide +kernel
theorem dX12_runs_29 : decode cX12_runs 29 = .ok (.iload 4, 2) := by decide +kernel
theorem dX12_runs_31 : decode cX12_runs 31 = .ok (.iload_n 3, 1) := by decide +kernel
theorem dX12_runs_32 : decode cX12_runs 32 = .ok (.invokevirtual 169, 3) := by decide +kernel
theorem dX12_runs_35 : decode cX12_runs 35 = .ok (.iadd, 1) := by decide +kernel
theorem dX12_runs_36 : decode cX12_runs 36 = .ok (.istore_n 2, 1) := by decide +kernel
theorem dX12_runs_37 : decode cX12_runs 37 = .ok (.iinc 4 1, 3) := by decide +kernel
theorem dX12_runs_40 : decode cX12_runs 40 = .ok (.goto (-20), 3) := by decide +kernel
theorem dX12_runs_43 : decode cX12_runs 43 = .ok (.iinc 3 1, 3) := by decide +kernel
theorem dX12_runs_46 : decode cX12_runs 46 = .ok (.goto (-34), 3) := by decide +kernel
theorem dX12_runs_49 : decode cX12_runs 49 = .ok (.iload_n 1, 1) := by decide +kernel
theorem dX12_runs_50 : decode cX12_runs 50 = .ok (.iload_n 2, 1) := by decide +kernel
theorem dX12_runs_51 : decode cX12_runs 51 = .ok (.iadd, 1) := by decide +kernel
theorem dX12_runs_52 : decode cX12_runs 52 = .ok (.istore_n 1, 1) := by decide +kernel
theorem dX12_runs_53 : decode cX12_runs 53 = .ok (.goto (-49), 3) := by decide +kernel
theorem dX12_runs_56 : decode cX12_runs 56 = .ok (.iload_n 1, 1) := by decide +kernel
theorem dX12_runs_57 : decode cX12_runs 57 = .ok (.ireturn, 1) := by decide +kernel
theorem dX12_last_0 : decode cX12_last 0 = .ok (.iconst (-1), 1) := by decide +kernel
theorem dX12_last_1 : decode cX12_last 1 = .ok (.istore 4, 2) := by decide +kernel
theorem dX12_last_3 : decode cX12_last 3 = .ok (.iconst 0, 1) := by decide +kernel
theorem dX12_last_4 : decode cX12_last 4 = .ok (.istore 5, 2) := by decide +kernel
theorem dX12_last_6 : decode cX12_last 6 = .ok (.iload 5, 2) := by decide +kernel
theorem dX12_last_8 : decode cX12_last 8 = .ok (.aload_n 0, 1) := by decide +kernel
theorem dX12_last_9 : decode cX12_last 9 = .ok (.getfield 114, 3) := by decide +kernel
theorem dX12_last_12 : decode cX12_last 12 = .ok (.if_icmp .ge 94, 3) := by decide +kernel
theorem dX12_last_15 : decode cX12_last 15 = .ok (.aload_n 0, 1) := by decide +kernel
theorem dX12_last_16 : decode cX12_last 16 = .ok (.getfield 97, 3) := by decide +kernel
theorem dX12_last_19 : decode cX12_last 19 = .ok (.iload 5, 2) := by decide +kernel
theorem dX12_last_21 : decode cX12_last 21 = .ok (.baload, 1) := by decide +kernel
theorem dX12_last_22 : decode cX12_last 22 = .ok (.ifCond .eq 34, 3) := by decide +kernel
theorem dX12_last_25 : decode cX12_last 25 = .ok (.aload_n 0, 1) := by decide +kernel
theorem dX12_last_26 : decode cX12_last 26 = .ok (.getfield 33, 3) := by decide +kernel
theorem dX12_last_29 : decode cX12_last 29 = .ok (.iload 5, 2) := by decide +kernel
theorem dX12_last_31 : decode cX12_last 31 = .ok (.iaload, 1) := by decide +kernel
theorem dX12_last_32 : decode cX12_last 32 = .ok (.iload_n 1, 1) := by decide +kernel
theorem dX12_last_33 : decode cX12_last 33 = .ok (.if_icmp .ne 23, 3) := by decide +kernel
theorem dX12_last_36 : decode cX12_last 36 = .ok (.iload_n 2, 1) := by decide +kernel
theorem dX12_last_37 : decode cX12_last 37 = .ok (.iconst (-1), 1) := by decide +kernel
theorem dX12_last_38 : decode cX12_last 38 = .ok (.if_icmp .eq 14, 3) := by decide +kernel
theorem dX12_last_41 : decode cX12_last 41 = .ok (.aload_n 0, 1) := by decide +kernel
theorem dX12_last_42 : decode cX12_last 42 = .ok (.getfield 36, 3) := by decide +kernel
theorem dX12_last_45 : decode cX12_last 45 = .ok (.iload 5, 2) := by decide +kernel
theorem dX12_last_47 : decode cX12_last 47 = .ok (.iaload, 1) := by decide +kernel
theorem dX12_last_48 : decode cX12_last 48 = .ok (.iload_n 2, 1) := by decide +kernel
theorem dX12_last_49 : decode cX12_last 49 = .ok (.if_icmp .ne 7, 3) := by decide +kernel
theorem dX12_last_52 : decode cX12_last 52 = .ok (.iconst 1, 1) := by decide +kernel
theorem dX12_last_53 : decode cX12_last 53 = .ok (.goto 4, 3) := by decide +kernel
theorem dX12_last_56 : decode cX12_last 56 = .ok (.iconst 0, 1) := by decide +kernel
theorem dX12_last_57 : decode cX12_last 57 = .ok (.istore 6, 2) := by decide +kernel
theorem dX12_last_59 : decode cX12_last 59 = .ok (.iload 6, 2) := by decide +kernel
theorem dX12_last_61 : decode cX12_last 61 = .ok (.ifCond .eq 35, 3) := by decide +kernel
theorem dX12_last_64 : decode cX12_last 64 = .ok (.iload 4, 2) := by decide +kernel
theorem dX12_last_66 : decode cX12_last 66 = .ok (.iconst (-1), 1) := by decide +kernel
theorem dX12_last_67 : decode cX12_last 67 = .ok (.if_icmp .eq 24, 3) := by decide +kernel
theorem dX12_last_70 : decode cX12_last 70 = .ok (.iload_n 3, 1) := by decide +kernel
theorem dX12_last_71 : decode cX12_last 71 = .ok (.ifCond .eq 20, 3) := by decide +kernel
theorem dX12_last_74 : decode cX12_last 74 = .ok (.aload_n 0, 1) := by decide +kernel
theorem dX12_last_75 : decode cX12_last 75 = .ok (.getfield 48, 3) := by decide +kernel
theorem dX12_last_78 : decode cX12_last 78 = .ok (.iload 5, 2) := by decide +kernel
theorem dX12_last_80 : decode cX12_last 80 = .ok (.iaload, 1) := by decide +kernel
theorem dX12_last_81 : decode cX12_last 81 = .ok (.aload_n 0, 1) := by decide +kernel
theorem dX12_last_82 : decode cX12_last 82 = .ok (.getfield 48, 3) := by decide +kernel
theorem dX12_last_85 : decode cX12_last 85 = .ok (.iload 4, 2) := by decide +kernel
theorem dX12_last_87 : decode cX12_last 87 = .ok (.iaload, 1) := by decide +kernel
theorem dX12_last_88 : decode cX12_last 88 = .ok (.if_icmp .gt 8, 3) := by decide +kernel
theorem dX12_last_91 : decode cX12_last 91 = .ok (.iload 5, 2) := by decide +kernel
theorem dX12_last_93 : decode cX12_last 93 = .ok (.goto 5, 3) := by decide +kernel
end
section
theorem dX12_last_96 : decode cX12_last 96 = .ok (.iload 4, 2) := by decide +kernel
theorem dX12_last_98 : decode cX12_last 98 = .ok (.istore 4, 2) := by decide +kernel
theorem dX12_last_100 : decode cX12_last 100 = .ok (.iinc 5 1, 3) := by decide +kernel
theorem dX12_last_103 : decode cX12_last 103 = .ok (.goto (-97), 3) := by decide +kernel
theorem dX12_last_106 : decode cX12_last 106 = .ok (.iload 4, 2) := by decide +kernel
theorem dX12_last_108 : decode cX12_last 108 = .ok (.ireturn, 1) := by decide +kernel
theorem dX12_reduces_0 : decode cX12_reduces 0 = .ok (.aload_n 0, 1) := by decide +kernel
theorem dX12_reduces_1 : decode cX12_reduces 1 = .ok (.invokevirtual 154, 3) := by decide +kernel
theorem dX12_reduces_4 : decode cX12_reduces 4 = .ok (.aload_n 0, 1) := by decide +kernel
theorem dX12_reduces_5 : decode cX12_reduces 5 = .ok (.iload_n 1, 1) := by decide +kernel
theorem dX12_reduces_6 : decode cX12_reduces 6 = .ok (.invokevirtual 161, 3) := by decide +kernel
theorem dX12_reduces_9 : decode cX12_reduces 9 = .ok (.ifCond .ne 122, 3) := by decide +kernel
theorem dX12_reduces_12 : decode cX12_reduces 12 = .ok (.iconst (-1), 1) := by decide +kernel
theorem dX12_reduces_13 : decode cX12_reduces 13 = .ok (.istore_n 3, 1) := by decide +kernel
theorem dX12_reduces_14 : decode cX12_reduces 14 = .ok (.iconst 5, 1) := by decide +kernel
theorem dX12_reduces_15 : decode cX12_reduces 15 = .ok (.istore 4, 2) := by decide +kernel
theorem dX12_reduces_17 : decode cX12_reduces 17 = .ok (.iload 4, 2) := by decide +kernel
theorem dX12_reduces_19 : decode cX12_reduces 19 = .ok (.ifCond .lt 32, 3) := by decide +kernel
theorem dX12_reduces_22 : decode cX12_reduces 22 = .ok (.aload_n 0, 1) := by decide +kernel
theorem dX12_reduces_23 : decode cX12_reduces 23 = .ok (.iload 4, 2) := by decide +kernel
theorem dX12_reduces_25 : decode cX12_reduces 25 = .ok (.iload_n 1, 1) := by decide +kernel
theorem dX12_reduces_26 : decode cX12_reduces 26 = .ok (.invokevirtual 128, 3) := by decide +kernel
theorem dX12_reduces_29 : decode cX12_reduces 29 = .ok (.ifCond .eq 14, 3) := by decide +kernel
theorem dX12_reduces_32 : decode cX12_reduces 32 = .ok (.aload_n 0, 1) := by decide +kernel
theorem dX12_reduces_33 : decode cX12_reduces 33 = .ok (.iload 4, 2) := by decide +kernel
theorem dX12_reduces_35 : decode cX12_reduces 35 = .ok (.iconst (-1), 1) := by decide +kernel
theorem dX12_reduces_36 : decode cX12_reduces 36 = .ok (.iload_n 2, 1) := by decide +kernel
theorem dX12_reduces_37 : decode cX12_reduces 37 = .ok (.invokevirtual 172, 3) := by decide +kernel
theorem dX12_reduces_40 : decode cX12_reduces 40 = .ok (.goto 4, 3) := by decide +kernel
theorem dX12_reduces_43 : decode cX12_reduces 43 = .ok (.iload_n 3, 1) := by decide +kernel
theorem dX12_reduces_44 : decode cX12_reduces 44 = .ok (.istore_n 3, 1) := by decide +kernel
theorem dX12_reduces_45 : decode cX12_reduces 45 = .ok (.iinc 4 (-1), 3) := by decide +kernel
theorem dX12_reduces_48 : decode cX12_reduces 48 = .ok (.goto (-31), 3) := by decide +kernel
theorem dX12_reduces_51 : decode cX12_reduces 51 = .ok (.bipush 35, 2) := by decide +kernel
theorem dX12_reduces_53 : decode cX12_reduces 53 = .ok (.istore 4, 2) := by decide +kernel
theorem dX12_reduces_55 : decode cX12_reduces 55 = .ok (.iload 4, 2) := by decide +kernel
theorem dX12_reduces_57 : decode cX12_reduces 57 = .ok (.ifCond .lt 60, 3) := by decide +kernel
theorem dX12_reduces_60 : decode cX12_reduces 60 = .ok (.iload_n 3, 1) := by decide +kernel
theorem dX12_reduces_61 : decode cX12_reduces 61 = .ok (.iconst (-1), 1) := by decide +kernel
theorem dX12_reduces_62 : decode cX12_reduces 62 = .ok (.if_icmp .eq 11, 3) := by decide +kernel
theorem dX12_reduces_65 : decode cX12_reduces 65 = .ok (.aload_n 0, 1) := by decide +kernel
theorem dX12_reduces_66 : decode cX12_reduces 66 = .ok (.iload_n 1, 1) := by decide +kernel
theorem dX12_reduces_67 : decode cX12_reduces 67 = .ok (.invokevirtual 176, 3) := by decide +kernel
theorem dX12_reduces_70 : decode cX12_reduces 70 = .ok (.ifCond .ne 47, 3) := by decide +kernel
theorem dX12_reduces_73 : decode cX12_reduces 73 = .ok (.aload_n 0, 1) := by decide +kernel
theorem dX12_reduces_74 : decode cX12_reduces 74 = .ok (.iload 4, 2) := by decide +kernel
theorem dX12_reduces_76 : decode cX12_reduces 76 = .ok (.bipush 6, 2) := by decide +kernel
theorem dX12_reduces_78 : decode cX12_reduces 78 = .ok (.idiv, 1) := by decide +kernel
theorem dX12_reduces_79 : decode cX12_reduces 79 = .ok (.iload 4, 2) := by decide +kernel
theorem dX12_reduces_81 : decode cX12_reduces 81 = .ok (.bipush 6, 2) := by decide +kernel
theorem dX12_reduces_83 : decode cX12_reduces 83 = .ok (.irem, 1) := by decide +kernel
theorem dX12_reduces_84 : decode cX12_reduces 84 = .ok (.iload_n 1, 1) := by decide +kernel
theorem dX12_reduces_85 : decode cX12_reduces 85 = .ok (.invokevirtual 132, 3) := by decide +kernel
theorem dX12_reduces_88 : decode cX12_reduces 88 = .ok (.ifCond .eq 21, 3) := by decide +kernel
theorem dX12_reduces_91 : decode cX12_reduces 91 = .ok (.aload_n 0, 1) := by decide +kernel
theorem dX12_reduces_92 : decode cX12_reduces 92 = .ok (.iload 4, 2) := by decide +kernel
theorem dX12_reduces_94 : decode cX12_reduces 94 = .ok (.bipush 6, 2) := by decide +kernel
theorem dX12_reduces_96 : decode cX12_reduces 96 = .ok (.idiv, 1) := by decide +kernel
theorem dX12_reduces_97 : decode cX12_reduces 97 = .ok (.iload 4, 2) := by decide +kernel
theorem dX12_reduces_99 : decode cX12_reduces 99 = .ok (.bipush 6, 2) := by decide +kernel
theorem dX12_reduces_101 : decode cX12_reduces 101 = .ok (.irem, 1) := by decide +kernel
theorem dX12_reduces_102 : decode cX12_reduces 102 = .ok (.iload_n 2, 1) := by decide +kernel
theorem dX12_reduces_103 : decode cX12_reduces 103 = .ok (.invokevirtual 172, 3) := by decide +kernel
theorem dX12_reduces_106 : decode cX12_reduces 106 = .ok (.goto 4, 3) := by decide +kernel
theorem dX12_reduces_109 : decode cX12_reduces 109 = .ok (.iload_n 3, 1) := by decide +kernel
theorem dX12_reduces_110 : decode cX12_reduces 110 = .ok (.istore_n 3, 1) := by decide +kernel
theorem dX12_reduces_111 : decode cX12_reduces 111 = .ok (.iinc 4 (-1), 3) := by decide +kernel
theorem dX12_reduces_114 : decode cX12_reduces 114 = .ok (.goto (-59), 3) := by decide +kernel
theorem dX12_reduces_117 : decode cX12_reduces 117 = .ok (.aload_n 0, 1) := by decide +kernel
theorem dX12_reduces_118 : decode cX12_reduces 118 = .ok (.getfield 97, 3) := by decide +kernel
theorem dX12_reduces_121 : decode cX12_reduces 121 = .ok (.iload_n 3, 1) := by decide +kernel
theorem dX12_reduces_122 : decode cX12_reduces 122 = .ok (.iconst 0, 1) := by decide +kernel
theorem dX12_reduces_123 : decode cX12_reduces 123 = .ok (.bastore, 1) := by decide +kernel
theorem dX12_reduces_124 : decode cX12_reduces 124 = .ok (.aload_n 0, 1) := by decide +kernel
theorem dX12_reduces_125 : decode cX12_reduces 125 = .ok (.invokevirtual 154, 3) := by decide +kernel
theorem dX12_reduces_128 : decode cX12_reduces 128 = .ok (.goto (-124), 3) := by decide +kernel
theorem dX12_reduces_131 : decode cX12_reduces 131 = .ok (.aload_n 0, 1) := by decide +kernel
theorem dX12_reduces_132 : decode cX12_reduces 132 = .ok (.invokevirtual 165, 3) := by decide +kernel
theorem dX12_reduces_135 : decode cX12_reduces 135 = .ok (.ireturn, 1) := by decide +kernel
theorem dX12_isShortAny_0 : decode cX12_isShortAny 0 = .ok (.iconst 0, 1) := by decide +kernel
theorem dX12_isShortAny_1 : decode cX12_isShortAny 1 = .ok (.istore_n 2, 1) := by decide +kernel
theorem dX12_isShortAny_2 : decode cX12_isShortAny 2 = .ok (.iconst 0, 1) := by decide +kernel
theorem dX12_isShortAny_3 : decode cX12_isShortAny 3 = .ok (.istore_n 3, 1) := by decide +kernel
theorem dX12_isShortAny_4 : decode cX12_isShortAny 4 = .ok (.iload_n 3, 1) := by decide +kernel
theorem dX12_isShortAny_5 : decode cX12_isShortAny 5 = .ok (.bipush 6, 2) := by decide +kernel
theorem dX12_isShortAny_7 : decode cX12_isShortAny 7 = .ok (.if_icmp .ge 28, 3) := by decide +kernel
theorem dX12_isShortAny_10 : decode cX12_isShortAny 10 = .ok (.iload_n 2, 1) := by decide +kernel
theorem dX12_isShortAny_11 : decode cX12_isShortAny 11 = .ok (.ifCond .ne 12, 3) := by decide +kernel
theorem dX12_isShortAny_14 : decode cX12_isShortAny 14 = .ok (.aload_n 0, 1) := by decide +kernel
theorem dX12_isShortAny_15 : decode cX12_isShortAny 15 = .ok (.iload_n 3, 1) := by decide +kernel
theorem dX12_isShortAny_16 : decode cX12_isShortAny 16 = .ok (.iload_n 1, 1) := by decide +kernel
theorem dX12_isShortAny_17 : decode cX12_isShortAny 17 = .ok (.invokevirtual 128, 3) := by decide +kernel
theorem dX12_isShortAny_20 : decode cX12_isShortAny 20 = .ok (.ifCond .eq 7, 3) := by decide +kernel
theorem dX12_isShortAny_23 : decode cX12_isShortAny 23 = .ok (.iconst 1, 1) := by decide +kernel
theorem dX12_isShortAny_24 : decode cX12_isShortAny 24 = .ok (.goto 4, 3) := by decide +kernel
theorem dX12_isShortAny_27 : decode cX12_isShortAny 27 = .ok (.iconst 0, 1) := by decide +kernel
theorem dX12_isShortAny_28 : decode cX12_isShortAny 28 = .ok (.istore_n 2, 1) := by decide +kernel
theorem dX12_isShortAny_29 : decode cX12_isShortAny 29 = .ok (.iinc 3 1, 3) := by decide +kernel
theorem dX12_isShortAny_32 : decode cX12_isShortAny 32 = .ok (.goto (-28), 3) := by decide +kernel
theorem dX12_isShortAny_35 : decode cX12_isShortAny 35 = .ok (.iload_n 2, 1) := by decide +kernel
theorem dX12_isShortAny_36 : decode cX12_isShortAny 36 = .ok (.ireturn, 1) := by decide +kernel
theorem dX12_enters_0 : decode cX12_enters 0 = .ok (.aload_n 0, 1) := by decide +kernel
theorem dX12_enters_1 : decode cX12_enters 1 = .ok (.getfield 60, 3) := by decide +kernel
theorem dX12_enters_4 : decode cX12_enters 4 = .ok (.iload_n 1, 1) := by decide +kernel
theorem dX12_enters_5 : decode cX12_enters 5 = .ok (.aload_n 0, 1) := by decide +kernel
theorem dX12_enters_6 : decode cX12_enters 6 = .ok (.getfield 30, 3) := by decide +kernel
theorem dX12_enters_9 : decode cX12_enters 9 = .ok (.aload_n 0, 1) := by decide +kernel
theorem dX12_enters_10 : decode cX12_enters 10 = .ok (.getfield 45, 3) := by decide +kernel
theorem dX12_enters_13 : decode cX12_enters 13 = .ok (.iload_n 1, 1) := by decide +kernel
theorem dX12_enters_14 : decode cX12_enters 14 = .ok (.iaload, 1) := by decide +kernel
theorem dX12_enters_15 : decode cX12_enters 15 = .ok (.baload, 1) := by decide +kernel
theorem dX12_enters_16 : decode cX12_enters 16 = .ok (.ifCond .eq 16, 3) := by decide +kernel
theorem dX12_enters_19 : decode cX12_enters 19 = .ok (.aload_n 0, 1) := by decide +kernel
theorem dX12_enters_20 : decode cX12_enters 20 = .ok (.getfield 63, 3) := by decide +kernel
theorem dX12_enters_23 : decode cX12_enters 23 = .ok (.iload_n 1, 1) := by decide +kernel
theorem dX12_enters_24 : decode cX12_enters 24 = .ok (.baload, 1) := by decide +kernel
theorem dX12_enters_25 : decode cX12_enters 25 = .ok (.ifCond .ne 7, 3) := by decide +kernel
theorem dX12_enters_28 : decode cX12_enters 28 = .ok (.iconst 1, 1) := by decide +kernel
theorem dX12_enters_29 : decode cX12_enters 29 = .ok (.goto 17, 3) := by decide +kernel
theorem dX12_enters_32 : decode cX12_enters 32 = .ok (.aload_n 0, 1) := by decide +kernel
theorem dX12_enters_33 : decode cX12_enters 33 = .ok (.getfield 51, 3) := by decide +kernel
theorem dX12_enters_36 : decode cX12_enters 36 = .ok (.iload_n 1, 1) := by decide +kernel
theorem dX12_enters_37 : decode cX12_enters 37 = .ok (.baload, 1) := by decide +kernel
theorem dX12_enters_38 : decode cX12_enters 38 = .ok (.ifCond .eq 7, 3) := by decide +kernel
theorem dX12_enters_41 : decode cX12_enters 41 = .ok (.iconst 2, 1) := by decide +kernel
theorem dX12_enters_42 : decode cX12_enters 42 = .ok (.goto 4, 3) := by decide +kernel
theorem dX12_enters_45 : decode cX12_enters 45 = .ok (.iconst 3, 1) := by decide +kernel
theorem dX12_enters_46 : decode cX12_enters 46 = .ok (.iastore, 1) := by decide +kernel
theorem dX12_enters_47 : decode cX12_enters 47 = .ok (.return_, 1) := by decide +kernel
theorem dX12_comes_0 : decode cX12_comes 0 = .ok (.aload_n 0, 1) := by decide +kernel
theorem dX12_comes_1 : decode cX12_comes 1 = .ok (.getfield 114, 3) := by decide +kernel
theorem dX12_comes_4 : decode cX12_comes 4 = .ok (.istore 10, 2) := by decide +kernel
theorem dX12_comes_6 : decode cX12_comes 6 = .ok (.aload_n 0, 1) := by decide +kernel
theorem dX12_comes_7 : decode cX12_comes 7 = .ok (.dup, 1) := by decide +kernel
theorem dX12_comes_8 : decode cX12_comes 8 = .ok (.getfield 114, 3) := by decide +kernel
theorem dX12_comes_11 : decode cX12_comes 11 = .ok (.iconst 1, 1) := by decide +kernel
theorem dX12_comes_12 : decode cX12_comes 12 = .ok (.iadd, 1) := by decide +kernel
theorem dX12_comes_13 : decode cX12_comes 13 = .ok (.putfield 114, 3) := by decide +kernel
theorem dX12_comes_16 : decode cX12_comes 16 = .ok (.aload_n 0, 1) := by decide +kernel
theorem dX12_comes_17 : decode cX12_comes 17 = .ok (.getfield 33, 3) := by decide +kernel
theorem dX12_comes_20 : decode cX12_comes 20 = .ok (.iload 10, 2) := by decide +kernel
theorem dX12_comes_22 : decode cX12_comes 22 = .ok (.iload_n 1, 1) := by decide +kernel
theorem dX12_comes_23 : decode cX12_comes 23 = .ok (.iastore, 1) := by decide +kernel
theorem dX12_comes_24 : decode cX12_comes 24 = .ok (.aload_n 0, 1) := by decide +kernel
theorem dX12_comes_25 : decode cX12_comes 25 = .ok (.getfield 36, 3) := by decide +kernel
theorem dX12_comes_28 : decode cX12_comes 28 = .ok (.iload 10, 2) := by decide +kernel
theorem dX12_comes_30 : decode cX12_comes 30 = .ok (.iload_n 2, 1) := by decide +kernel
theorem dX12_comes_31 : decode cX12_comes 31 = .ok (.iastore, 1) := by decide +kernel
theorem dX12_comes_32 : decode cX12_comes 32 = .ok (.aload_n 0, 1) := by decide +kernel
theorem dX12_comes_33 : decode cX12_comes 33 = .ok (.getfield 39, 3) := by decide +kernel
theorem dX12_comes_36 : decode cX12_comes 36 = .ok (.iload 10, 2) := by decide +kernel
theorem dX12_comes_38 : decode cX12_comes 38 = .ok (.iload_n 3, 1) := by decide +kernel
theorem dX12_comes_39 : decode cX12_comes 39 = .ok (.iastore, 1) := by decide +kernel
theorem dX12_comes_40 : decode cX12_comes 40 = .ok (.aload_n 0, 1) := by decide +kernel
theorem dX12_comes_41 : decode cX12_comes 41 = .ok (.getfield 42, 3) := by decide +kernel
theorem dX12_comes_44 : decode cX12_comes 44 = .ok (.iload 10, 2) := by decide +kernel
theorem dX12_comes_46 : decode cX12_comes 46 = .ok (.iload 4, 2) := by decide +kernel
theorem dX12_comes_48 : decode cX12_comes 48 = .ok (.iastore, 1) := by decide +kernel
theorem dX12_comes_49 : decode cX12_comes 49 = .ok (.aload_n 0, 1) := by decide +kernel
theorem dX12_comes_50 : decode cX12_comes 50 = .ok (.getfield 45, 3) := by decide +kernel
theorem dX12_comes_53 : decode cX12_comes 53 = .ok (.iload 10, 2) := by decide +kernel
theorem dX12_comes_55 : decode cX12_comes 55 = .ok (.iload 5, 2) := by decide +kernel
theorem dX12_comes_57 : decode cX12_comes 57 = .ok (.iastore, 1) := by decide +kernel
theorem dX12_comes_58 : decode cX12_comes 58 = .ok (.aload_n 0, 1) := by decide +kernel
theorem dX12_comes_59 : decode cX12_comes 59 = .ok (.getfield 48, 3) := by decide +kernel
theorem dX12_comes_62 : decode cX12_comes 62 = .ok (.iload 10, 2) := by decide +kernel
theorem dX12_comes_64 : decode cX12_comes 64 = .ok (.iload 6, 2) := by decide +kernel
theorem dX12_comes_66 : decode cX12_comes 66 = .ok (.iastore, 1) := by decide +kernel
theorem dX12_comes_67 : decode cX12_comes 67 = .ok (.aload_n 0, 1) := by decide +kernel
theorem dX12_comes_68 : decode cX12_comes 68 = .ok (.getfield 51, 3) := by decide +kernel
theorem dX12_comes_71 : decode cX12_comes 71 = .ok (.iload 10, 2) := by decide +kernel
theorem dX12_comes_73 : decode cX12_comes 73 = .ok (.iload 7, 2) := by decide +kernel
theorem dX12_comes_75 : decode cX12_comes 75 = .ok (.bastore, 1) := by decide +kernel
theorem dX12_comes_76 : decode cX12_comes 76 = .ok (.aload_n 0, 1) := by decide +kernel
theorem dX12_comes_77 : decode cX12_comes 77 = .ok (.getfield 54, 3) := by decide +kernel
theorem dX12_comes_80 : decode cX12_comes 80 = .ok (.iload 10, 2) := by decide +kernel
theorem dX12_comes_82 : decode cX12_comes 82 = .ok (.iload 8, 2) := by decide +kernel
theorem dX12_comes_84 : decode cX12_comes 84 = .ok (.iastore, 1) := by decide +kernel
theorem dX12_comes_85 : decode cX12_comes 85 = .ok (.aload_n 0, 1) := by decide +kernel
theorem dX12_comes_86 : decode cX12_comes 86 = .ok (.getfield 57, 3) := by decide +kernel
theorem dX12_comes_89 : decode cX12_comes 89 = .ok (.iload 10, 2) := by decide +kernel
theorem dX12_comes_91 : decode cX12_comes 91 = .ok (.iload 9, 2) := by decide +kernel
theorem dX12_comes_93 : decode cX12_comes 93 = .ok (.bastore, 1) := by decide +kernel
theorem dX12_comes_94 : decode cX12_comes 94 = .ok (.aload_n 0, 1) := by decide +kernel
theorem dX12_comes_95 : decode cX12_comes 95 = .ok (.getfield 66, 3) := by decide +kernel
theorem dX12_comes_98 : decode cX12_comes 98 = .ok (.iload 10, 2) := by decide +kernel
theorem dX12_comes_100 : decode cX12_comes 100 = .ok (.iconst (-1), 1) := by decide +kernel
theorem dX12_comes_101 : decode cX12_comes 101 = .ok (.iastore, 1) := by decide +kernel
theorem dX12_comes_102 : decode cX12_comes 102 = .ok (.aload_n 0, 1) := by decide +kernel
theorem dX12_comes_103 : decode cX12_comes 103 = .ok (.getfield 69, 3) := by decide +kernel
theorem dX12_comes_106 : decode cX12_comes 106 = .ok (.iload 10, 2) := by decide +kernel
theorem dX12_comes_108 : decode cX12_comes 108 = .ok (.iconst (-1), 1) := by decide +kernel
theorem dX12_comes_109 : decode cX12_comes 109 = .ok (.iastore, 1) := by decide +kernel
theorem dX12_comes_110 : decode cX12_comes 110 = .ok (.aload_n 0, 1) := by decide +kernel
theorem dX12_comes_111 : decode cX12_comes 111 = .ok (.getfield 75, 3) := by decide +kernel
theorem dX12_comes_114 : decode cX12_comes 114 = .ok (.iload 10, 2) := by decide +kernel
theorem dX12_comes_116 : decode cX12_comes 116 = .ok (.iconst (-1), 1) := by decide +kernel
theorem dX12_comes_117 : decode cX12_comes 117 = .ok (.iastore, 1) := by decide +kernel
theorem dX12_comes_118 : decode cX12_comes 118 = .ok (.aload_n 0, 1) := by decide +kernel
theorem dX12_comes_119 : decode cX12_comes 119 = .ok (.getfield 60, 3) := by decide +kernel
theorem dX12_comes_122 : decode cX12_comes 122 = .ok (.iload 10, 2) := by decide +kernel
theorem dX12_comes_124 : decode cX12_comes 124 = .ok (.iconst 0, 1) := by decide +kernel
theorem dX12_comes_125 : decode cX12_comes 125 = .ok (.iastore, 1) := by decide +kernel
theorem dX12_comes_126 : decode cX12_comes 126 = .ok (.iload 8, 2) := by decide +kernel
theorem dX12_comes_128 : decode cX12_comes 128 = .ok (.aload_n 0, 1) := by decide +kernel
theorem dX12_comes_129 : decode cX12_comes 129 = .ok (.getfield 135, 3) := by decide +kernel
theorem dX12_comes_132 : decode cX12_comes 132 = .ok (.if_icmp .gt 21, 3) := by decide +kernel
theorem dX12_comes_135 : decode cX12_comes 135 = .ok (.aload_n 0, 1) := by decide +kernel
theorem dX12_comes_136 : decode cX12_comes 136 = .ok (.iload_n 3, 1) := by decide +kernel
theorem dX12_comes_137 : decode cX12_comes 137 = .ok (.aload_n 0, 1) := by decide +kernel
theorem dX12_comes_138 : decode cX12_comes 138 = .ok (.getfield 135, 3) := by decide +kernel
theorem dX12_comes_141 : decode cX12_comes 141 = .ok (.invokevirtual 138, 3) := by decide +kernel
theorem dX12_comes_144 : decode cX12_comes 144 = .ok (.ifCond .eq 9, 3) := by decide +kernel
theorem dX12_comes_147 : decode cX12_comes 147 = .ok (.aload_n 0, 1) := by decide +kernel
theorem dX12_comes_148 : decode cX12_comes 148 = .ok (.iload 10, 2) := by decide +kernel
theorem dX12_comes_150 : decode cX12_comes 150 = .ok (.invokevirtual 179, 3) := by decide +kernel
theorem dX12_comes_153 : decode cX12_comes 153 = .ok (.iload 10, 2) := by decide +kernel
theorem dX12_comes_155 : decode cX12_comes 155 = .ok (.ireturn, 1) := by decide +kernel
theorem dX12_isAlike_0 : decode cX12_isAlike 0 = .ok (.aload_n 0, 1) := by decide +kernel
theorem dX12_isAlike_1 : decode cX12_isAlike 1 = .ok (.getfield 36, 3) := by decide +kernel
theorem dX12_isAlike_4 : decode cX12_isAlike 4 = .ok (.iload_n 1, 1) := by decide +kernel
theorem dX12_isAlike_5 : decode cX12_isAlike 5 = .ok (.iaload, 1) := by decide +kernel
theorem dX12_isAlike_6 : decode cX12_isAlike 6 = .ok (.iload_n 2, 1) := by decide +kernel
theorem dX12_isAlike_7 : decode cX12_isAlike 7 = .ok (.if_icmp .ne 83, 3) := by decide +kernel
theorem dX12_isAlike_10 : decode cX12_isAlike 10 = .ok (.aload_n 0, 1) := by decide +kernel
theorem dX12_isAlike_11 : decode cX12_isAlike 11 = .ok (.getfield 39, 3) := by decide +kernel
theorem dX12_isAlike_14 : decode cX12_isAlike 14 = .ok (.iload_n 1, 1) := by decide +kernel
theorem dX12_isAlike_15 : decode cX12_isAlike 15 = .ok (.iaload, 1) := by decide +kernel
theorem dX12_isAlike_16 : decode cX12_isAlike 16 = .ok (.iload_n 3, 1) := by decide +kernel
theorem dX12_isAlike_17 : decode cX12_isAlike 17 = .ok (.if_icmp .ne 73, 3) := by decide +kernel
theorem dX12_isAlike_20 : decode cX12_isAlike 20 = .ok (.aload_n 0, 1) := by decide +kernel
theorem dX12_isAlike_21 : decode cX12_isAlike 21 = .ok (.getfield 42, 3) := by decide +kernel
theorem dX12_isAlike_24 : decode cX12_isAlike 24 = .ok (.iload_n 1, 1) := by decide +kernel
theorem dX12_isAlike_25 : decode cX12_isAlike 25 = .ok (.iaload, 1) := by decide +kernel
theorem dX12_isAlike_26 : decode cX12_isAlike 26 = .ok (.iload 4, 2) := by decide +kernel
theorem dX12_isAlike_28 : decode cX12_isAlike 28 = .ok (.if_icmp .ne 62, 3) := by decide +kernel
theorem dX12_isAlike_31 : decode cX12_isAlike 31 = .ok (.aload_n 0, 1) := by decide +kernel
theorem dX12_isAlike_32 : decode cX12_isAlike 32 = .ok (.getfield 45, 3) := by decide +kernel
theorem dX12_isAlike_35 : decode cX12_isAlike 35 = .ok (.iload_n 1, 1) := by decide +kernel
theorem dX12_isAlike_36 : decode cX12_isAlike 36 = .ok (.iaload, 1) := by decide +kernel
theorem dX12_isAlike_37 : decode cX12_isAlike 37 = .ok (.iload 5, 2) := by decide +kernel
theorem dX12_isAlike_39 : decode cX12_isAlike 39 = .ok (.if_icmp .ne 51, 3) := by decide +kernel
theorem dX12_isAlike_42 : decode cX12_isAlike 42 = .ok (.aload_n 0, 1) := by decide +kernel
theorem dX12_isAlike_43 : decode cX12_isAlike 43 = .ok (.getfield 48, 3) := by decide +kernel
theorem dX12_isAlike_46 : decode cX12_isAlike 46 = .ok (.iload_n 1, 1) := by decide +kernel
theorem dX12_isAlike_47 : decode cX12_isAlike 47 = .ok (.iaload, 1) := by decide +kernel
theorem dX12_isAlike_48 : decode cX12_isAlike 48 = .ok (.iload 6, 2) := by decide +kernel
theorem dX12_isAlike_50 : decode cX12_isAlike 50 = .ok (.if_icmp .ne 40, 3) := by decide +kernel
theorem dX12_isAlike_53 : decode cX12_isAlike 53 = .ok (.aload_n 0, 1) := by decide +kernel
theorem dX12_isAlike_54 : decode cX12_isAlike 54 = .ok (.getfield 51, 3) := by decide +kernel
theorem dX12_isAlike_57 : decode cX12_isAlike 57 = .ok (.iload_n 1, 1) := by decide +kernel
theorem dX12_isAlike_58 : decode cX12_isAlike 58 = .ok (.baload, 1) := by decide +kernel
theorem dX12_isAlike_59 : decode cX12_isAlike 59 = .ok (.iload 7, 2) := by decide +kernel
theorem dX12_isAlike_61 : decode cX12_isAlike 61 = .ok (.if_icmp .ne 29, 3) := by decide +kernel
theorem dX12_isAlike_64 : decode cX12_isAlike 64 = .ok (.aload_n 0, 1) := by decide +kernel
theorem dX12_isAlike_65 : decode cX12_isAlike 65 = .ok (.getfield 54, 3) := by decide +kernel
theorem dX12_isAlike_68 : decode cX12_isAlike 68 = .ok (.iload_n 1, 1) := by decide +kernel
theorem dX12_isAlike_69 : decode cX12_isAlike 69 = .ok (.iaload, 1) := by decide +kernel
theorem dX12_isAlike_70 : decode cX12_isAlike 70 = .ok (.iload 8, 2) := by decide +kernel
theorem dX12_isAlike_72 : decode cX12_isAlike 72 = .ok (.if_icmp .ne 18, 3) := by decide +kernel
theorem dX12_isAlike_75 : decode cX12_isAlike 75 = .ok (.aload_n 0, 1) := by decide +kernel
theorem dX12_isAlike_76 : decode cX12_isAlike 76 = .ok (.getfield 57, 3) := by decide +kernel
theorem dX12_isAlike_79 : decode cX12_isAlike 79 = .ok (.iload_n 1, 1) := by decide +kernel
theorem dX12_isAlike_80 : decode cX12_isAlike 80 = .ok (.baload, 1) := by decide +kernel
theorem dX12_isAlike_81 : decode cX12_isAlike 81 = .ok (.iload 9, 2) := by decide +kernel
theorem dX12_isAlike_83 : decode cX12_isAlike 83 = .ok (.if_icmp .ne 7, 3) := by decide +kernel
theorem dX12_isAlike_86 : decode cX12_isAlike 86 = .ok (.iconst 1, 1) := by decide +kernel
theorem dX12_isAlike_87 : decode cX12_isAlike 87 = .ok (.goto 4, 3) := by decide +kernel
theorem dX12_isAlike_90 : decode cX12_isAlike 90 = .ok (.iconst 0, 1) := by decide +kernel
theorem dX12_isAlike_91 : decode cX12_isAlike 91 = .ok (.ireturn, 1) := by decide +kernel
theorem dX12_send_0 : decode cX12_send 0 = .ok (.iload_n 1, 1) := by decide +kernel
theorem dX12_send_1 : decode cX12_send 1 = .ok (.invokestatic 183, 3) := by decide +kernel
theorem dX12_send_4 : decode cX12_send 4 = .ok (.ifCond .eq 40, 3) := by decide +kernel
theorem dX12_send_7 : decode cX12_send 7 = .ok (.iload_n 3, 1) := by decide +kernel
theorem dX12_send_8 : decode cX12_send 8 = .ok (.invokestatic 183, 3) := by decide +kernel
theorem dX12_send_11 : decode cX12_send 11 = .ok (.ifCond .eq 33, 3) := by decide +kernel
theorem dX12_send_14 : decode cX12_send 14 = .ok (.iload_n 2, 1) := by decide +kernel
theorem dX12_send_15 : decode cX12_send 15 = .ok (.iconst 0, 1) := by decide +kernel
theorem dX12_send_16 : decode cX12_send 16 = .ok (.bipush 99, 2) := by decide +kernel
theorem dX12_send_18 : decode cX12_send 18 = .ok (.invokestatic 110, 3) := by decide +kernel
theorem dX12_send_21 : decode cX12_send 21 = .ok (.ifCond .eq 23, 3) := by decide +kernel
theorem dX12_send_24 : decode cX12_send 24 = .ok (.iload 4, 2) := by decide +kernel
theorem dX12_send_26 : decode cX12_send 26 = .ok (.invokestatic 186, 3) := by decide +kernel
theorem dX12_send_29 : decode cX12_send 29 = .ok (.ifCond .eq 15, 3) := by decide +kernel
theorem dX12_send_32 : decode cX12_send 32 = .ok (.iload 6, 2) := by decide +kernel
theorem dX12_send_34 : decode cX12_send 34 = .ok (.invokestatic 189, 3) := by decide +kernel
theorem dX12_send_37 : decode cX12_send 37 = .ok (.ifCond .eq 7, 3) := by decide +kernel
theorem dX12_send_40 : decode cX12_send 40 = .ok (.iconst 1, 1) := by decide +kernel
theorem dX12_send_41 : decode cX12_send 41 = .ok (.goto 4, 3) := by decide +kernel
theorem dX12_send_44 : decode cX12_send 44 = .ok (.iconst 0, 1) := by decide +kernel
theorem dX12_send_45 : decode cX12_send 45 = .ok (.istore 11, 2) := by decide +kernel
theorem dX12_send_47 : decode cX12_send 47 = .ok (.iload_n 1, 1) := by decide +kernel
theorem dX12_send_48 : decode cX12_send 48 = .ok (.iload_n 3, 1) := by decide +kernel
theorem dX12_send_49 : decode cX12_send 49 = .ok (.if_icmp .eq 40, 3) := by decide +kernel
theorem dX12_send_52 : decode cX12_send 52 = .ok (.iload 5, 2) := by decide +kernel
theorem dX12_send_54 : decode cX12_send 54 = .ok (.iconst 1, 1) := by decide +kernel
theorem dX12_send_55 : decode cX12_send 55 = .ok (.ldc 192, 2) := by decide +kernel
theorem dX12_send_57 : decode cX12_send 57 = .ok (.invokestatic 110, 3) := by decide +kernel
theorem dX12_send_60 : decode cX12_send 60 = .ok (.ifCond .eq 29, 3) := by decide +kernel
theorem dX12_send_63 : decode cX12_send 63 = .ok (.iload 7, 2) := by decide +kernel
theorem dX12_send_65 : decode cX12_send 65 = .ok (.iconst 0, 1) := by decide +kernel
theorem dX12_send_66 : decode cX12_send 66 = .ok (.iconst 2, 1) := by decide +kernel
theorem dX12_send_67 : decode cX12_send 67 = .ok (.invokestatic 110, 3) := by decide +kernel
theorem dX12_send_70 : decode cX12_send 70 = .ok (.ifCond .eq 19, 3) := by decide +kernel
theorem dX12_send_73 : decode cX12_send 73 = .ok (.iload 9, 2) := by decide +kernel
theorem dX12_send_75 : decode cX12_send 75 = .ok (.iconst 0, 1) := by decide +kernel
theorem dX12_send_76 : decode cX12_send 76 = .ok (.sipush 999, 3) := by decide +kernel
theorem dX12_send_79 : decode cX12_send 79 = .ok (.invokestatic 110, 3) := by decide +kernel
theorem dX12_send_82 : decode cX12_send 82 = .ok (.ifCond .eq 7, 3) := by decide +kernel
theorem dX12_send_85 : decode cX12_send 85 = .ok (.iconst 1, 1) := by decide +kernel
theorem dX12_send_86 : decode cX12_send 86 = .ok (.goto 4, 3) := by decide +kernel
theorem dX12_send_89 : decode cX12_send 89 = .ok (.iconst 0, 1) := by decide +kernel
theorem dX12_send_90 : decode cX12_send 90 = .ok (.istore 12, 2) := by decide +kernel
theorem dX12_send_92 : decode cX12_send 92 = .ok (.iload 11, 2) := by decide +kernel
theorem dX12_send_94 : decode cX12_send 94 = .ok (.ifCond .eq 17, 3) := by decide +kernel
theorem dX12_send_97 : decode cX12_send 97 = .ok (.aload_n 0, 1) := by decide +kernel
theorem dX12_send_98 : decode cX12_send 98 = .ok (.getfield 81, 3) := by decide +kernel
theorem dX12_send_101 : decode cX12_send 101 = .ok (.bipush 100, 2) := by decide +kernel
theorem dX12_send_103 : decode cX12_send 103 = .ok (.iload_n 1, 1) := by decide +kernel
theorem dX12_send_104 : decode cX12_send 104 = .ok (.imul, 1) := by decide +kernel
theorem dX12_send_105 : decode cX12_send 105 = .ok (.iload_n 2, 1) := by decide +kernel
theorem dX12_send_106 : decode cX12_send 106 = .ok (.iadd, 1) := by decide +kernel
theorem dX12_send_107 : decode cX12_send 107 = .ok (.iaload, 1) := by decide +kernel
theorem dX12_send_108 : decode cX12_send 108 = .ok (.goto 4, 3) := by decide +kernel
theorem dX12_send_111 : decode cX12_send 111 = .ok (.iconst (-1), 1) := by decide +kernel
theorem dX12_send_112 : decode cX12_send 112 = .ok (.istore 13, 2) := by decide +kernel
theorem dX12_send_114 : decode cX12_send 114 = .ok (.iload 13, 2) := by decide +kernel
theorem dX12_send_116 : decode cX12_send 116 = .ok (.iconst (-1), 1) := by decide +kernel
theorem dX12_send_117 : decode cX12_send 117 = .ok (.if_icmp .eq 31, 3) := by decide +kernel
theorem dX12_send_120 : decode cX12_send 120 = .ok (.aload_n 0, 1) := by decide +kernel
theorem dX12_send_121 : decode cX12_send 121 = .ok (.iload 13, 2) := by decide +kernel
theorem dX12_send_123 : decode cX12_send 123 = .ok (.iload_n 3, 1) := by decide +kernel
theorem dX12_send_124 : decode cX12_send 124 = .ok (.iload 4, 2) := by decide +kernel
theorem dX12_send_126 : decode cX12_send 126 = .ok (.iload 5, 2) := by decide +kernel
theorem dX12_send_128 : decode cX12_send 128 = .ok (.iload 6, 2) := by decide +kernel
theorem dX12_send_130 : decode cX12_send 130 = .ok (.iload 7, 2) := by decide +kernel
theorem dX12_send_132 : decode cX12_send 132 = .ok (.iload 8, 2) := by decide +kernel
theorem dX12_send_134 : decode cX12_send 134 = .ok (.iload 9, 2) := by decide +kernel
theorem dX12_send_136 : decode cX12_send 136 = .ok (.iload 10, 2) := by decide +kernel
theorem dX12_send_138 : decode cX12_send 138 = .ok (.invokevirtual 193, 3) := by decide +kernel
theorem dX12_send_141 : decode cX12_send 141 = .ok (.ifCond .eq 7, 3) := by decide +kernel
theorem dX12_send_144 : decode cX12_send 144 = .ok (.iconst 1, 1) := by decide +kernel
theorem dX12_send_145 : decode cX12_send 145 = .ok (.goto 4, 3) := by decide +kernel
theorem dX12_send_148 : decode cX12_send 148 = .ok (.iconst 0, 1) := by decide +kernel
theorem dX12_send_149 : decode cX12_send 149 = .ok (.istore 14, 2) := by decide +kernel
theorem dX12_send_151 : decode cX12_send 151 = .ok (.aload_n 0, 1) := by decide +kernel
theorem dX12_send_152 : decode cX12_send 152 = .ok (.iload 11, 2) := by decide +kernel
theorem dX12_send_154 : decode cX12_send 154 = .ok (.iload 12, 2) := by decide +kernel
theorem dX12_send_156 : decode cX12_send 156 = .ok (.iload 11, 2) := by decide +kernel
theorem dX12_send_158 : decode cX12_send 158 = .ok (.ifCond .eq 39, 3) := by decide +kernel
theorem dX12_send_161 : decode cX12_send 161 = .ok (.aload_n 0, 1) := by decide +kernel
theorem dX12_send_162 : decode cX12_send 162 = .ok (.getfield 23, 3) := by decide +kernel
theorem dX12_send_165 : decode cX12_send 165 = .ok (.iload_n 1, 1) := by decide +kernel
theorem dX12_send_166 : decode cX12_send 166 = .ok (.baload, 1) := by decide +kernel
theorem dX12_send_167 : decode cX12_send 167 = .ok (.ifCond .ne 30, 3) := by decide +kernel
theorem dX12_send_170 : decode cX12_send 170 = .ok (.iload 13, 2) := by decide +kernel
theorem dX12_send_172 : decode cX12_send 172 = .ok (.iconst (-1), 1) := by decide +kernel
theorem dX12_send_173 : decode cX12_send 173 = .ok (.if_icmp .ne 15, 3) := by decide +kernel
theorem dX12_send_176 : decode cX12_send 176 = .ok (.aload_n 0, 1) := by decide +kernel
theorem dX12_send_177 : decode cX12_send 177 = .ok (.getfield 114, 3) := by decide +kernel
theorem dX12_send_180 : decode cX12_send 180 = .ok (.bipush 60, 2) := by decide +kernel
theorem dX12_send_182 : decode cX12_send 182 = .ok (.if_icmp .ge 15, 3) := by decide +kernel
theorem dX12_send_185 : decode cX12_send 185 = .ok (.goto 8, 3) := by decide +kernel
theorem dX12_send_188 : decode cX12_send 188 = .ok (.iload 14, 2) := by decide +kernel
theorem dX12_send_190 : decode cX12_send 190 = .ok (.ifCond .eq 7, 3) := by decide +kernel
theorem dX12_send_193 : decode cX12_send 193 = .ok (.iconst 1, 1) := by decide +kernel
theorem dX12_send_194 : decode cX12_send 194 = .ok (.goto 4, 3) := by decide +kernel
theorem dX12_send_197 : decode cX12_send 197 = .ok (.iconst 0, 1) := by decide +kernel
theorem dX12_send_198 : decode cX12_send 198 = .ok (.invokevirtual 197, 3) := by decide +kernel
theorem dX12_send_201 : decode cX12_send 201 = .ok (.ifCond .ne 5, 3) := by decide +kernel
theorem dX12_send_204 : decode cX12_send 204 = .ok (.iconst 0, 1) := by decide +kernel
theorem dX12_send_205 : decode cX12_send 205 = .ok (.ireturn, 1) := by decide +kernel
theorem dX12_send_206 : decode cX12_send 206 = .ok (.iload 14, 2) := by decide +kernel
theorem dX12_send_208 : decode cX12_send 208 = .ok (.ifCond .eq 16, 3) := by decide +kernel
theorem dX12_send_211 : decode cX12_send 211 = .ok (.aload_n 0, 1) := by decide +kernel
theorem dX12_send_212 : decode cX12_send 212 = .ok (.dup, 1) := by decide +kernel
theorem dX12_send_213 : decode cX12_send 213 = .ok (.getfield 201, 3) := by decide +kernel
theorem dX12_send_216 : decode cX12_send 216 = .ok (.iconst 1, 1) := by decide +kernel
theorem dX12_send_217 : decode cX12_send 217 = .ok (.iadd, 1) := by decide +kernel
theorem dX12_send_218 : decode cX12_send 218 = .ok (.putfield 201, 3) := by decide +kernel
theorem dX12_send_221 : decode cX12_send 221 = .ok (.iload 13, 2) := by decide +kernel
theorem dX12_send_223 : decode cX12_send 223 = .ok (.ireturn, 1) := by decide +kernel
theorem dX12_send_224 : decode cX12_send 224 = .ok (.aload_n 0, 1) := by decide +kernel
theorem dX12_send_225 : decode cX12_send 225 = .ok (.iload_n 1, 1) := by decide +kernel
theorem dX12_send_226 : decode cX12_send 226 = .ok (.iload_n 3, 1) := by decide +kernel
theorem dX12_send_227 : decode cX12_send 227 = .ok (.iload 4, 2) := by decide +kernel
theorem dX12_send_229 : decode cX12_send 229 = .ok (.iload 5, 2) := by decide +kernel
theorem dX12_send_231 : decode cX12_send 231 = .ok (.iload 6, 2) := by decide +kernel
theorem dX12_send_233 : decode cX12_send 233 = .ok (.iload 7, 2) := by decide +kernel
theorem dX12_send_235 : decode cX12_send 235 = .ok (.iload 8, 2) := by decide +kernel
theorem dX12_send_237 : decode cX12_send 237 = .ok (.iload 9, 2) := by decide +kernel
theorem dX12_send_239 : decode cX12_send 239 = .ok (.iload 10, 2) := by decide +kernel
theorem dX12_send_241 : decode cX12_send 241 = .ok (.invokevirtual 204, 3) := by decide +kernel
theorem dX12_send_244 : decode cX12_send 244 = .ok (.istore 13, 2) := by decide +kernel
theorem dX12_send_246 : decode cX12_send 246 = .ok (.aload_n 0, 1) := by decide +kernel
theorem dX12_send_247 : decode cX12_send 247 = .ok (.getfield 81, 3) := by decide +kernel
theorem dX12_send_250 : decode cX12_send 250 = .ok (.bipush 100, 2) := by decide +kernel
theorem dX12_send_252 : decode cX12_send 252 = .ok (.iload_n 1, 1) := by decide +kernel
theorem dX12_send_253 : decode cX12_send 253 = .ok (.imul, 1) := by decide +kernel
theorem dX12_send_254 : decode cX12_send 254 = .ok (.iload_n 2, 1) := by decide +kernel
theorem dX12_send_255 : decode cX12_send 255 = .ok (.iadd, 1) := by decide +kernel
theorem dX12_send_256 : decode cX12_send 256 = .ok (.iload 13, 2) := by decide +kernel
theorem dX12_send_258 : decode cX12_send 258 = .ok (.iastore, 1) := by decide +kernel
theorem dX12_send_259 : decode cX12_send 259 = .ok (.aload_n 0, 1) := by decide +kernel
theorem dX12_send_260 : decode cX12_send 260 = .ok (.invokevirtual 208, 3) := by decide +kernel
theorem dX12_send_263 : decode cX12_send 263 = .ok (.istore 15, 2) := by decide +kernel
theorem dX12_send_265 : decode cX12_send 265 = .ok (.iload 13, 2) := by decide +kernel
theorem dX12_send_267 : decode cX12_send 267 = .ok (.ireturn, 1) := by decide +kernel
theorem dX12_doubles_0 : decode cX12_doubles 0 = .ok (.aload_n 0, 1) := by decide +kernel
theorem dX12_doubles_1 : decode cX12_doubles 1 = .ok (.iconst 0, 1) := by decide +kernel
theorem dX12_doubles_2 : decode cX12_doubles 2 = .ok (.putfield 106, 3) := by decide +kernel
theorem dX12_doubles_5 : decode cX12_doubles 5 = .ok (.aload_n 0, 1) := by decide +kernel
theorem dX12_doubles_6 : decode cX12_doubles 6 = .ok (.getfield 201, 3) := by decide +kernel
theorem dX12_doubles_9 : decode cX12_doubles 9 = .ok (.ireturn, 1) := by decide +kernel
theorem dX12_canJoin_0 : decode cX12_canJoin 0 = .ok (.iload_n 1, 1) := by decide +kernel
theorem dX12_canJoin_1 : decode cX12_canJoin 1 = .ok (.iload_n 2, 1) := by decide +kernel
theorem dX12_canJoin_2 : decode cX12_canJoin 2 = .ok (.if_icmp .eq 56, 3) := by decide +kernel
theorem dX12_canJoin_5 : decode cX12_canJoin 5 = .ok (.aload_n 0, 1) := by decide +kernel
theorem dX12_canJoin_6 : decode cX12_canJoin 6 = .ok (.iload_n 1, 1) := by decide +kernel
theorem dX12_canJoin_7 : decode cX12_canJoin 7 = .ok (.invokevirtual 211, 3) := by decide +kernel
theorem dX12_canJoin_10 : decode cX12_canJoin 10 = .ok (.ifCond .ne 48, 3) := by decide +kernel
theorem dX12_canJoin_13 : decode cX12_canJoin 13 = .ok (.aload_n 0, 1) := by decide +kernel
theorem dX12_canJoin_14 : decode cX12_canJoin 14 = .ok (.iload_n 2, 1) := by decide +kernel
theorem dX12_canJoin_15 : decode cX12_canJoin 15 = .ok (.invokevirtual 211, 3) := by decide +kernel
theorem dX12_canJoin_18 : decode cX12_canJoin 18 = .ok (.ifCond .ne 40, 3) := by decide +kernel
theorem dX12_canJoin_21 : decode cX12_canJoin 21 = .ok (.aload_n 0, 1) := by decide +kernel
theorem dX12_canJoin_22 : decode cX12_canJoin 22 = .ok (.getfield 51, 3) := by decide +kernel
theorem dX12_canJoin_25 : decode cX12_canJoin 25 = .ok (.iload_n 1, 1) := by decide +kernel
theorem dX12_canJoin_26 : decode cX12_canJoin 26 = .ok (.baload, 1) := by decide +kernel
theorem dX12_canJoin_27 : decode cX12_canJoin 27 = .ok (.ifCond .eq 31, 3) := by decide +kernel
theorem dX12_canJoin_30 : decode cX12_canJoin 30 = .ok (.aload_n 0, 1) := by decide +kernel
theorem dX12_canJoin_31 : decode cX12_canJoin 31 = .ok (.getfield 51, 3) := by decide +kernel
theorem dX12_canJoin_34 : decode cX12_canJoin 34 = .ok (.iload_n 2, 1) := by decide +kernel
theorem dX12_canJoin_35 : decode cX12_canJoin 35 = .ok (.baload, 1) := by decide +kernel
theorem dX12_canJoin_36 : decode cX12_canJoin 36 = .ok (.ifCond .eq 22, 3) := by decide +kernel
theorem dX12_canJoin_39 : decode cX12_canJoin 39 = .ok (.aload_n 0, 1) := by decide +kernel
theorem dX12_canJoin_40 : decode cX12_canJoin 40 = .ok (.getfield 39, 3) := by decide +kernel
theorem dX12_canJoin_43 : decode cX12_canJoin 43 = .ok (.iload_n 1, 1) := by decide +kernel
theorem dX12_canJoin_44 : decode cX12_canJoin 44 = .ok (.iaload, 1) := by decide +kernel
theorem dX12_canJoin_45 : decode cX12_canJoin 45 = .ok (.aload_n 0, 1) := by decide +kernel
theorem dX12_canJoin_46 : decode cX12_canJoin 46 = .ok (.getfield 39, 3) := by decide +kernel
theorem dX12_canJoin_49 : decode cX12_canJoin 49 = .ok (.iload_n 2, 1) := by decide +kernel
theorem dX12_canJoin_50 : decode cX12_canJoin 50 = .ok (.iaload, 1) := by decide +kernel
theorem dX12_canJoin_51 : decode cX12_canJoin 51 = .ok (.if_icmp .eq 7, 3) := by decide +kernel
theorem dX12_canJoin_54 : decode cX12_canJoin 54 = .ok (.iconst 1, 1) := by decide +kernel
theorem dX12_canJoin_55 : decode cX12_canJoin 55 = .ok (.goto 4, 3) := by decide +kernel
theorem dX12_canJoin_58 : decode cX12_canJoin 58 = .ok (.iconst 0, 1) := by decide +kernel
theorem dX12_canJoin_59 : decode cX12_canJoin 59 = .ok (.istore_n 3, 1) := by decide +kernel
theorem dX12_canJoin_60 : decode cX12_canJoin 60 = .ok (.iload_n 3, 1) := by decide +kernel
theorem dX12_canJoin_61 : decode cX12_canJoin 61 = .ok (.ifCond .eq 57, 3) := by decide +kernel
theorem dX12_canJoin_64 : decode cX12_canJoin 64 = .ok (.aload_n 0, 1) := by decide +kernel
theorem dX12_canJoin_65 : decode cX12_canJoin 65 = .ok (.getfield 33, 3) := by decide +kernel
theorem dX12_canJoin_68 : decode cX12_canJoin 68 = .ok (.iload_n 1, 1) := by decide +kernel
theorem dX12_canJoin_69 : decode cX12_canJoin 69 = .ok (.iaload, 1) := by decide +kernel
theorem dX12_canJoin_70 : decode cX12_canJoin 70 = .ok (.aload_n 0, 1) := by decide +kernel
theorem dX12_canJoin_71 : decode cX12_canJoin 71 = .ok (.getfield 36, 3) := by decide +kernel
theorem dX12_canJoin_74 : decode cX12_canJoin 74 = .ok (.iload_n 2, 1) := by decide +kernel
theorem dX12_canJoin_75 : decode cX12_canJoin 75 = .ok (.iaload, 1) := by decide +kernel
theorem dX12_canJoin_76 : decode cX12_canJoin 76 = .ok (.if_icmp .ne 42, 3) := by decide +kernel
theorem dX12_canJoin_79 : decode cX12_canJoin 79 = .ok (.aload_n 0, 1) := by decide +kernel
theorem dX12_canJoin_80 : decode cX12_canJoin 80 = .ok (.getfield 36, 3) := by decide +kernel
theorem dX12_canJoin_83 : decode cX12_canJoin 83 = .ok (.iload_n 1, 1) := by decide +kernel
theorem dX12_canJoin_84 : decode cX12_canJoin 84 = .ok (.iaload, 1) := by decide +kernel
theorem dX12_canJoin_85 : decode cX12_canJoin 85 = .ok (.aload_n 0, 1) := by decide +kernel
theorem dX12_canJoin_86 : decode cX12_canJoin 86 = .ok (.getfield 33, 3) := by decide +kernel
theorem dX12_canJoin_89 : decode cX12_canJoin 89 = .ok (.iload_n 2, 1) := by decide +kernel
theorem dX12_canJoin_90 : decode cX12_canJoin 90 = .ok (.iaload, 1) := by decide +kernel
theorem dX12_canJoin_91 : decode cX12_canJoin 91 = .ok (.if_icmp .ne 27, 3) := by decide +kernel
theorem dX12_canJoin_94 : decode cX12_canJoin 94 = .ok (.aload_n 0, 1) := by decide +kernel
theorem dX12_canJoin_95 : decode cX12_canJoin 95 = .ok (.getfield 69, 3) := by decide +kernel
theorem dX12_canJoin_98 : decode cX12_canJoin 98 = .ok (.iload_n 1, 1) := by decide +kernel
theorem dX12_canJoin_99 : decode cX12_canJoin 99 = .ok (.iaload, 1) := by decide +kernel
theorem dX12_canJoin_100 : decode cX12_canJoin 100 = .ok (.iconst (-1), 1) := by decide +kernel
theorem dX12_canJoin_101 : decode cX12_canJoin 101 = .ok (.if_icmp .ne 17, 3) := by decide +kernel
theorem dX12_canJoin_104 : decode cX12_canJoin 104 = .ok (.aload_n 0, 1) := by decide +kernel
theorem dX12_canJoin_105 : decode cX12_canJoin 105 = .ok (.getfield 69, 3) := by decide +kernel
theorem dX12_canJoin_108 : decode cX12_canJoin 108 = .ok (.iload_n 2, 1) := by decide +kernel
theorem dX12_canJoin_109 : decode cX12_canJoin 109 = .ok (.iaload, 1) := by decide +kernel
theorem dX12_canJoin_110 : decode cX12_canJoin 110 = .ok (.iconst (-1), 1) := by decide +kernel
theorem dX12_canJoin_111 : decode cX12_canJoin 111 = .ok (.if_icmp .ne 7, 3) := by decide +kernel
theorem dX12_canJoin_114 : decode cX12_canJoin 114 = .ok (.iconst 1, 1) := by decide +kernel
theorem dX12_canJoin_115 : decode cX12_canJoin 115 = .ok (.goto 4, 3) := by decide +kernel
theorem dX12_canJoin_118 : decode cX12_canJoin 118 = .ok (.iconst 0, 1) := by decide +kernel
theorem dX12_canJoin_119 : decode cX12_canJoin 119 = .ok (.ireturn, 1) := by decide +kernel
theorem dX12_join_0 : decode cX12_join 0 = .ok (.aload_n 0, 1) := by decide +kernel
theorem dX12_join_1 : decode cX12_join 1 = .ok (.iload_n 1, 1) := by decide +kernel
theorem dX12_join_2 : decode cX12_join 2 = .ok (.invokevirtual 214, 3) := by decide +kernel
theorem dX12_join_5 : decode cX12_join 5 = .ok (.ifCond .eq 15, 3) := by decide +kernel
theorem dX12_join_8 : decode cX12_join 8 = .ok (.aload_n 0, 1) := by decide +kernel
theorem dX12_join_9 : decode cX12_join 9 = .ok (.iload_n 2, 1) := by decide +kernel
theorem dX12_join_10 : decode cX12_join 10 = .ok (.invokevirtual 214, 3) := by decide +kernel
theorem dX12_join_13 : decode cX12_join 13 = .ok (.ifCond .eq 7, 3) := by decide +kernel
theorem dX12_join_16 : decode cX12_join 16 = .ok (.iconst 1, 1) := by decide +kernel
theorem dX12_join_17 : decode cX12_join 17 = .ok (.goto 4, 3) := by decide +kernel
theorem dX12_join_20 : decode cX12_join 20 = .ok (.iconst 0, 1) := by decide +kernel
theorem dX12_join_21 : decode cX12_join 21 = .ok (.istore_n 3, 1) := by decide +kernel
theorem dX12_join_22 : decode cX12_join 22 = .ok (.aload_n 0, 1) := by decide +kernel
theorem dX12_join_23 : decode cX12_join 23 = .ok (.iload_n 3, 1) := by decide +kernel
theorem dX12_join_24 : decode cX12_join 24 = .ok (.iload_n 3, 1) := by decide +kernel
theorem dX12_join_25 : decode cX12_join 25 = .ok (.ifCond .eq 16, 3) := by decide +kernel
theorem dX12_join_28 : decode cX12_join 28 = .ok (.aload_n 0, 1) := by decide +kernel
theorem dX12_join_29 : decode cX12_join 29 = .ok (.iload_n 1, 1) := by decide +kernel
theorem dX12_join_30 : decode cX12_join 30 = .ok (.iload_n 2, 1) := by decide +kernel
theorem dX12_join_31 : decode cX12_join 31 = .ok (.invokevirtual 217, 3) := by decide +kernel
theorem dX12_join_34 : decode cX12_join 34 = .ok (.ifCond .eq 7, 3) := by decide +kernel
theorem dX12_join_37 : decode cX12_join 37 = .ok (.iconst 1, 1) := by decide +kernel
theorem dX12_join_38 : decode cX12_join 38 = .ok (.goto 4, 3) := by decide +kernel
theorem dX12_join_41 : decode cX12_join 41 = .ok (.iconst 0, 1) := by decide +kernel
theorem dX12_join_42 : decode cX12_join 42 = .ok (.iconst 1, 1) := by decide +kernel
theorem dX12_join_43 : decode cX12_join 43 = .ok (.invokevirtual 197, 3) := by decide +kernel
theorem dX12_join_46 : decode cX12_join 46 = .ok (.ifCond .eq 23, 3) := by decide +kernel
theorem dX12_join_49 : decode cX12_join 49 = .ok (.aload_n 0, 1) := by decide +kernel
theorem dX12_join_50 : decode cX12_join 50 = .ok (.getfield 69, 3) := by decide +kernel
theorem dX12_join_53 : decode cX12_join 53 = .ok (.iload_n 1, 1) := by decide +kernel
theorem dX12_join_54 : decode cX12_join 54 = .ok (.iload_n 2, 1) := by decide +kernel
theorem dX12_join_55 : decode cX12_join 55 = .ok (.iastore, 1) := by decide +kernel
theorem dX12_join_56 : decode cX12_join 56 = .ok (.aload_n 0, 1) := by decide +kernel
theorem dX12_join_57 : decode cX12_join 57 = .ok (.getfield 69, 3) := by decide +kernel
theorem dX12_join_60 : decode cX12_join 60 = .ok (.iload_n 2, 1) := by decide +kernel
theorem dX12_join_61 : decode cX12_join 61 = .ok (.iload_n 1, 1) := by decide +kernel
theorem dX12_join_62 : decode cX12_join 62 = .ok (.iastore, 1) := by decide +kernel
theorem dX12_join_63 : decode cX12_join 63 = .ok (.aload_n 0, 1) := by decide +kernel
theorem dX12_join_64 : decode cX12_join 64 = .ok (.invokevirtual 208, 3) := by decide +kernel
theorem dX12_join_67 : decode cX12_join 67 = .ok (.istore 4, 2) := by decide +kernel
theorem dX12_join_69 : decode cX12_join 69 = .ok (.return_, 1) := by decide +kernel
theorem dX12_returns_0 : decode cX12_returns 0 = .ok (.iconst 1, 1) := by decide +kernel
theorem dX12_returns_1 : decode cX12_returns 1 = .ok (.istore_n 2, 1) := by decide +kernel
theorem dX12_returns_2 : decode cX12_returns 2 = .ok (.aload_n 0, 1) := by decide +kernel
theorem dX12_returns_3 : decode cX12_returns 3 = .ok (.getfield 60, 3) := by decide +kernel
theorem dX12_returns_6 : decode cX12_returns 6 = .ok (.iload_n 1, 1) := by decide +kernel
theorem dX12_returns_7 : decode cX12_returns 7 = .ok (.iconst 5, 1) := by decide +kernel
theorem dX12_returns_8 : decode cX12_returns 8 = .ok (.iastore, 1) := by decide +kernel
theorem dX12_returns_9 : decode cX12_returns 9 = .ok (.aload_n 0, 1) := by decide +kernel
theorem dX12_returns_10 : decode cX12_returns 10 = .ok (.getfield 69, 3) := by decide +kernel
theorem dX12_returns_13 : decode cX12_returns 13 = .ok (.iload_n 1, 1) := by decide +kernel
theorem dX12_returns_14 : decode cX12_returns 14 = .ok (.iaload, 1) := by decide +kernel
theorem dX12_returns_15 : decode cX12_returns 15 = .ok (.iconst (-1), 1) := by decide +kernel
theorem dX12_returns_16 : decode cX12_returns 16 = .ok (.if_icmp .eq 33, 3) := by decide +kernel
theorem dX12_returns_19 : decode cX12_returns 19 = .ok (.aload_n 0, 1) := by decide +kernel
theorem dX12_returns_20 : decode cX12_returns 20 = .ok (.getfield 60, 3) := by decide +kernel
theorem dX12_returns_23 : decode cX12_returns 23 = .ok (.aload_n 0, 1) := by decide +kernel
theorem dX12_returns_24 : decode cX12_returns 24 = .ok (.getfield 69, 3) := by decide +kernel
theorem dX12_returns_27 : decode cX12_returns 27 = .ok (.iload_n 1, 1) := by decide +kernel
theorem dX12_returns_28 : decode cX12_returns 28 = .ok (.iaload, 1) := by decide +kernel
theorem dX12_returns_29 : decode cX12_returns 29 = .ok (.iaload, 1) := by decide +kernel
theorem dX12_returns_30 : decode cX12_returns 30 = .ok (.iconst 5, 1) := by decide +kernel
theorem dX12_returns_31 : decode cX12_returns 31 = .ok (.if_icmp .eq 18, 3) := by decide +kernel
theorem dX12_returns_34 : decode cX12_returns 34 = .ok (.aload_n 0, 1) := by decide +kernel
theorem dX12_returns_35 : decode cX12_returns 35 = .ok (.getfield 60, 3) := by decide +kernel
theorem dX12_returns_38 : decode cX12_returns 38 = .ok (.aload_n 0, 1) := by decide +kernel
theorem dX12_returns_39 : decode cX12_returns 39 = .ok (.getfield 69, 3) := by decide +kernel
theorem dX12_returns_42 : decode cX12_returns 42 = .ok (.iload_n 1, 1) := by decide +kernel
theorem dX12_returns_43 : decode cX12_returns 43 = .ok (.iaload, 1) := by decide +kernel
theorem dX12_returns_44 : decode cX12_returns 44 = .ok (.iconst 5, 1) := by decide +kernel
theorem dX12_returns_45 : decode cX12_returns 45 = .ok (.iastore, 1) := by decide +kernel
theorem dX12_returns_46 : decode cX12_returns 46 = .ok (.iinc 2 1, 3) := by decide +kernel
theorem dX12_returns_49 : decode cX12_returns 49 = .ok (.iload_n 2, 1) := by decide +kernel
theorem dX12_returns_50 : decode cX12_returns 50 = .ok (.ireturn, 1) := by decide +kernel
theorem dX12_withdraw_0 : decode cX12_withdraw 0 = .ok (.aload_n 0, 1) := by decide +kernel
theorem dX12_withdraw_1 : decode cX12_withdraw 1 = .ok (.iload_n 1, 1) := by decide +kernel
theorem dX12_withdraw_2 : decode cX12_withdraw 2 = .ok (.invokevirtual 214, 3) := by decide +kernel
theorem dX12_withdraw_5 : decode cX12_withdraw 5 = .ok (.istore_n 2, 1) := by decide +kernel
theorem dX12_withdraw_6 : decode cX12_withdraw 6 = .ok (.aload_n 0, 1) := by decide +kernel
theorem dX12_withdraw_7 : decode cX12_withdraw 7 = .ok (.iload_n 2, 1) := by decide +kernel
theorem dX12_withdraw_8 : decode cX12_withdraw 8 = .ok (.iload_n 2, 1) := by decide +kernel
theorem dX12_withdraw_9 : decode cX12_withdraw 9 = .ok (.ifCond .eq 15, 3) := by decide +kernel
theorem dX12_withdraw_12 : decode cX12_withdraw 12 = .ok (.aload_n 0, 1) := by decide +kernel
theorem dX12_withdraw_13 : decode cX12_withdraw 13 = .ok (.iload_n 1, 1) := by decide +kernel
theorem dX12_withdraw_14 : decode cX12_withdraw 14 = .ok (.invokevirtual 211, 3) := by decide +kernel
theorem dX12_withdraw_17 : decode cX12_withdraw 17 = .ok (.ifCond .ne 7, 3) := by decide +kernel
theorem dX12_withdraw_20 : decode cX12_withdraw 20 = .ok (.iconst 1, 1) := by decide +kernel
theorem dX12_withdraw_21 : decode cX12_withdraw 21 = .ok (.goto 4, 3) := by decide +kernel
theorem dX12_withdraw_24 : decode cX12_withdraw 24 = .ok (.iconst 0, 1) := by decide +kernel
theorem dX12_withdraw_25 : decode cX12_withdraw 25 = .ok (.iconst 1, 1) := by decide +kernel
theorem dX12_withdraw_26 : decode cX12_withdraw 26 = .ok (.invokevirtual 197, 3) := by decide +kernel
theorem dX12_withdraw_29 : decode cX12_withdraw 29 = .ok (.ifCond .ne 5, 3) := by decide +kernel
theorem dX12_withdraw_32 : decode cX12_withdraw 32 = .ok (.iconst 0, 1) := by decide +kernel
theorem dX12_withdraw_33 : decode cX12_withdraw 33 = .ok (.ireturn, 1) := by decide +kernel
theorem dX12_withdraw_34 : decode cX12_withdraw 34 = .ok (.aload_n 0, 1) := by decide +kernel
theorem dX12_withdraw_35 : decode cX12_withdraw 35 = .ok (.iload_n 1, 1) := by decide +kernel
theorem dX12_withdraw_36 : decode cX12_withdraw 36 = .ok (.invokevirtual 220, 3) := by decide +kernel
theorem dX12_withdraw_39 : decode cX12_withdraw 39 = .ok (.istore_n 3, 1) := by decide +kernel
theorem dX12_withdraw_40 : decode cX12_withdraw 40 = .ok (.aload_n 0, 1) := by decide +kernel
theorem dX12_withdraw_41 : decode cX12_withdraw 41 = .ok (.invokevirtual 208, 3) := by decide +kernel
theorem dX12_withdraw_44 : decode cX12_withdraw 44 = .ok (.istore 4, 2) := by decide +kernel
theorem dX12_withdraw_46 : decode cX12_withdraw 46 = .ok (.iload_n 3, 1) := by decide +kernel
theorem dX12_withdraw_47 : decode cX12_withdraw 47 = .ok (.ireturn, 1) := by decide +kernel
theorem dX12_release_0 : decode cX12_release 0 = .ok (.aload_n 0, 1) := by decide +kernel
theorem dX12_release_1 : decode cX12_release 1 = .ok (.iload_n 1, 1) := by decide +kernel
theorem dX12_release_2 : decode cX12_release 2 = .ok (.invokevirtual 214, 3) := by decide +kernel
theorem dX12_release_5 : decode cX12_release 5 = .ok (.ifCond .eq 16, 3) := by decide +kernel
theorem dX12_release_8 : decode cX12_release 8 = .ok (.iload_n 2, 1) := by decide +kernel
theorem dX12_release_9 : decode cX12_release 9 = .ok (.iconst 0, 1) := by decide +kernel
theorem dX12_release_10 : decode cX12_release 10 = .ok (.iconst 3, 1) := by decide +kernel
theorem dX12_release_11 : decode cX12_release 11 = .ok (.invokestatic 110, 3) := by decide +kernel
theorem dX12_release_14 : decode cX12_release 14 = .ok (.ifCond .eq 7, 3) := by decide +kernel
theorem dX12_release_17 : decode cX12_release 17 = .ok (.iconst 1, 1) := by decide +kernel
theorem dX12_release_18 : decode cX12_release 18 = .ok (.goto 4, 3) := by decide +kernel
theorem dX12_release_21 : decode cX12_release 21 = .ok (.iconst 0, 1) := by decide +kernel
theorem dX12_release_22 : decode cX12_release 22 = .ok (.istore_n 3, 1) := by decide +kernel
theorem dX12_release_23 : decode cX12_release 23 = .ok (.aload_n 0, 1) := by decide +kernel
theorem dX12_release_24 : decode cX12_release 24 = .ok (.iload_n 3, 1) := by decide +kernel
theorem dX12_release_25 : decode cX12_release 25 = .ok (.iload_n 3, 1) := by decide +kernel
theorem dX12_release_26 : decode cX12_release 26 = .ok (.ifCond .eq 27, 3) := by decide +kernel
theorem dX12_release_29 : decode cX12_release 29 = .ok (.aload_n 0, 1) := by decide +kernel
theorem dX12_release_30 : decode cX12_release 30 = .ok (.getfield 60, 3) := by decide +kernel
theorem dX12_release_33 : decode cX12_release 33 = .ok (.iload_n 1, 1) := by decide +kernel
theorem dX12_release_34 : decode cX12_release 34 = .ok (.iaload, 1) := by decide +kernel
theorem dX12_release_35 : decode cX12_release 35 = .ok (.iconst 1, 1) := by decide +kernel
theorem dX12_release_36 : decode cX12_release 36 = .ok (.if_icmp .ne 17, 3) := by decide +kernel
theorem dX12_release_39 : decode cX12_release 39 = .ok (.aload_n 0, 1) := by decide +kernel
theorem dX12_release_40 : decode cX12_release 40 = .ok (.getfield 66, 3) := by decide +kernel
theorem dX12_release_43 : decode cX12_release 43 = .ok (.iload_n 1, 1) := by decide +kernel
theorem dX12_release_44 : decode cX12_release 44 = .ok (.iaload, 1) := by decide +kernel
theorem dX12_release_45 : decode cX12_release 45 = .ok (.iload_n 2, 1) := by decide +kernel
theorem dX12_release_46 : decode cX12_release 46 = .ok (.if_icmp .eq 7, 3) := by decide +kernel
theorem dX12_release_49 : decode cX12_release 49 = .ok (.iconst 1, 1) := by decide +kernel
theorem dX12_release_50 : decode cX12_release 50 = .ok (.goto 4, 3) := by decide +kernel
theorem dX12_release_53 : decode cX12_release 53 = .ok (.iconst 0, 1) := by decide +kernel
theorem dX12_release_54 : decode cX12_release 54 = .ok (.iconst 1, 1) := by decide +kernel
theorem dX12_release_55 : decode cX12_release 55 = .ok (.invokevirtual 197, 3) := by decide +kernel
theorem dX12_release_58 : decode cX12_release 58 = .ok (.ifCond .ne 5, 3) := by decide +kernel
theorem dX12_release_61 : decode cX12_release 61 = .ok (.iconst 0, 1) := by decide +kernel
theorem dX12_release_62 : decode cX12_release 62 = .ok (.ireturn, 1) := by decide +kernel
theorem dX12_release_63 : decode cX12_release 63 = .ok (.aload_n 0, 1) := by decide +kernel
theorem dX12_release_64 : decode cX12_release 64 = .ok (.getfield 66, 3) := by decide +kernel
theorem dX12_release_67 : decode cX12_release 67 = .ok (.iload_n 1, 1) := by decide +kernel
theorem dX12_release_68 : decode cX12_release 68 = .ok (.iaload, 1) := by decide +kernel
theorem dX12_release_69 : decode cX12_release 69 = .ok (.iconst (-1), 1) := by decide +kernel
theorem dX12_release_70 : decode cX12_release 70 = .ok (.if_icmp .eq 7, 3) := by decide +kernel
theorem dX12_release_73 : decode cX12_release 73 = .ok (.iconst 1, 1) := by decide +kernel
theorem dX12_release_74 : decode cX12_release 74 = .ok (.goto 4, 3) := by decide +kernel
theorem dX12_release_77 : decode cX12_release 77 = .ok (.iconst 0, 1) := by decide +kernel
theorem dX12_release_78 : decode cX12_release 78 = .ok (.istore 4, 2) := by decide +kernel
theorem dX12_release_80 : decode cX12_release 80 = .ok (.iload 4, 2) := by decide +kernel
theorem dX12_release_82 : decode cX12_release 82 = .ok (.ifCond .eq 24, 3) := by decide +kernel
theorem dX12_release_85 : decode cX12_release 85 = .ok (.aload_n 0, 1) := by decide +kernel
theorem dX12_release_86 : decode cX12_release 86 = .ok (.getfield 63, 3) := by decide +kernel
theorem dX12_release_89 : decode cX12_release 89 = .ok (.iload_n 1, 1) := by decide +kernel
theorem dX12_release_90 : decode cX12_release 90 = .ok (.iconst 1, 1) := by decide +kernel
theorem dX12_release_91 : decode cX12_release 91 = .ok (.bastore, 1) := by decide +kernel
theorem dX12_release_92 : decode cX12_release 92 = .ok (.aload_n 0, 1) := by decide +kernel
theorem dX12_release_93 : decode cX12_release 93 = .ok (.iload_n 1, 1) := by decide +kernel
theorem dX12_release_94 : decode cX12_release 94 = .ok (.invokevirtual 179, 3) := by decide +kernel
theorem dX12_release_97 : decode cX12_release 97 = .ok (.aload_n 0, 1) := by decide +kernel
theorem dX12_release_98 : decode cX12_release 98 = .ok (.invokevirtual 208, 3) := by decide +kernel
theorem dX12_release_101 : decode cX12_release 101 = .ok (.istore 5, 2) := by decide +kernel
theorem dX12_release_103 : decode cX12_release 103 = .ok (.goto 10, 3) := by decide +kernel
theorem dX12_release_106 : decode cX12_release 106 = .ok (.aload_n 0, 1) := by decide +kernel
theorem dX12_release_107 : decode cX12_release 107 = .ok (.getfield 66, 3) := by decide +kernel
theorem dX12_release_110 : decode cX12_release 110 = .ok (.iload_n 1, 1) := by decide +kernel
theorem dX12_release_111 : decode cX12_release 111 = .ok (.iload_n 2, 1) := by decide +kernel
theorem dX12_release_112 : decode cX12_release 112 = .ok (.iastore, 1) := by decide +kernel
theorem dX12_release_113 : decode cX12_release 113 = .ok (.iload 4, 2) := by decide +kernel
theorem dX12_release_115 : decode cX12_release 115 = .ok (.ireturn, 1) := by decide +kernel
theorem dX12_refuse_0 : decode cX12_refuse 0 = .ok (.aload_n 0, 1) := by decide +kernel
theorem dX12_refuse_1 : decode cX12_refuse 1 = .ok (.iload_n 1, 1) := by decide +kernel
theorem dX12_refuse_2 : decode cX12_refuse 2 = .ok (.invokevirtual 214, 3) := by decide +kernel
theorem dX12_refuse_5 : decode cX12_refuse 5 = .ok (.istore_n 2, 1) := by decide +kernel
theorem dX12_refuse_6 : decode cX12_refuse 6 = .ok (.aload_n 0, 1) := by decide +kernel
theorem dX12_refuse_7 : decode cX12_refuse 7 = .ok (.iload_n 2, 1) := by decide +kernel
theorem dX12_refuse_8 : decode cX12_refuse 8 = .ok (.iload_n 2, 1) := by decide +kernel
theorem dX12_refuse_9 : decode cX12_refuse 9 = .ok (.ifCond .eq 17, 3) := by decide +kernel
theorem dX12_refuse_12 : decode cX12_refuse 12 = .ok (.aload_n 0, 1) := by decide +kernel
theorem dX12_refuse_13 : decode cX12_refuse 13 = .ok (.getfield 60, 3) := by decide +kernel
theorem dX12_refuse_16 : decode cX12_refuse 16 = .ok (.iload_n 1, 1) := by decide +kernel
theorem dX12_refuse_17 : decode cX12_refuse 17 = .ok (.iaload, 1) := by decide +kernel
theorem dX12_refuse_18 : decode cX12_refuse 18 = .ok (.iconst 1, 1) := by decide +kernel
theorem dX12_refuse_19 : decode cX12_refuse 19 = .ok (.if_icmp .ne 7, 3) := by decide +kernel
theorem dX12_refuse_22 : decode cX12_refuse 22 = .ok (.iconst 1, 1) := by decide +kernel
theorem dX12_refuse_23 : decode cX12_refuse 23 = .ok (.goto 4, 3) := by decide +kernel
theorem dX12_refuse_26 : decode cX12_refuse 26 = .ok (.iconst 0, 1) := by decide +kernel
theorem dX12_refuse_27 : decode cX12_refuse 27 = .ok (.iconst 1, 1) := by decide +kernel
theorem dX12_refuse_28 : decode cX12_refuse 28 = .ok (.invokevirtual 197, 3) := by decide +kernel
theorem dX12_refuse_31 : decode cX12_refuse 31 = .ok (.ifCond .ne 5, 3) := by decide +kernel
theorem dX12_refuse_34 : decode cX12_refuse 34 = .ok (.iconst 0, 1) := by decide +kernel
theorem dX12_refuse_35 : decode cX12_refuse 35 = .ok (.ireturn, 1) := by decide +kernel
theorem dX12_refuse_36 : decode cX12_refuse 36 = .ok (.aload_n 0, 1) := by decide +kernel
theorem dX12_refuse_37 : decode cX12_refuse 37 = .ok (.iload_n 1, 1) := by decide +kernel
theorem dX12_refuse_38 : decode cX12_refuse 38 = .ok (.invokevirtual 220, 3) := by decide +kernel
theorem dX12_refuse_41 : decode cX12_refuse 41 = .ok (.istore_n 3, 1) := by decide +kernel
theorem dX12_refuse_42 : decode cX12_refuse 42 = .ok (.aload_n 0, 1) := by decide +kernel
theorem dX12_refuse_43 : decode cX12_refuse 43 = .ok (.invokevirtual 208, 3) := by decide +kernel
theorem dX12_refuse_46 : decode cX12_refuse 46 = .ok (.istore 4, 2) := by decide +kernel
theorem dX12_refuse_48 : decode cX12_refuse 48 = .ok (.iload_n 3, 1) := by decide +kernel
theorem dX12_refuse_49 : decode cX12_refuse 49 = .ok (.ireturn, 1) := by decide +kernel
theorem dX12_offset_0 : decode cX12_offset 0 = .ok (.aload_n 0, 1) := by decide +kernel
theorem dX12_offset_1 : decode cX12_offset 1 = .ok (.iload_n 1, 1) := by decide +kernel
theorem dX12_offset_2 : decode cX12_offset 2 = .ok (.invokestatic 186, 3) := by decide +kernel
theorem dX12_offset_5 : decode cX12_offset 5 = .ok (.iconst 1, 1) := by decide +kernel
theorem dX12_offset_6 : decode cX12_offset 6 = .ok (.iconst 1, 1) := by decide +kernel
theorem dX12_offset_7 : decode cX12_offset 7 = .ok (.invokevirtual 197, 3) := by decide +kernel
theorem dX12_offset_10 : decode cX12_offset 10 = .ok (.ifCond .ne 5, 3) := by decide +kernel
theorem dX12_offset_13 : decode cX12_offset 13 = .ok (.iconst 0, 1) := by decide +kernel
theorem dX12_offset_14 : decode cX12_offset 14 = .ok (.ireturn, 1) := by decide +kernel
theorem dX12_offset_15 : decode cX12_offset 15 = .ok (.iconst 0, 1) := by decide +kernel
theorem dX12_offset_16 : decode cX12_offset 16 = .ok (.istore_n 2, 1) := by decide +kernel
theorem dX12_offset_17 : decode cX12_offset 17 = .ok (.aload_n 0, 1) := by decide +kernel
theorem dX12_offset_18 : decode cX12_offset 18 = .ok (.iload_n 1, 1) := by decide +kernel
theorem dX12_offset_19 : decode cX12_offset 19 = .ok (.aload_n 0, 1) := by decide +kernel
theorem dX12_offset_20 : decode cX12_offset 20 = .ok (.getfield 135, 3) := by decide +kernel
theorem dX12_offset_23 : decode cX12_offset 23 = .ok (.invokevirtual 138, 3) := by decide +kernel
theorem dX12_offset_26 : decode cX12_offset 26 = .ok (.ifCond .eq 101, 3) := by decide +kernel
theorem dX12_offset_29 : decode cX12_offset 29 = .ok (.iconst 0, 1) := by decide +kernel
theorem dX12_offset_30 : decode cX12_offset 30 = .ok (.istore_n 3, 1) := by decide +kernel
theorem dX12_offset_31 : decode cX12_offset 31 = .ok (.iload_n 3, 1) := by decide +kernel
theorem dX12_offset_32 : decode cX12_offset 32 = .ok (.bipush 60, 2) := by decide +kernel
theorem dX12_offset_34 : decode cX12_offset 34 = .ok (.if_icmp .ge 86, 3) := by decide +kernel
theorem dX12_offset_37 : decode cX12_offset 37 = .ok (.aload_n 0, 1) := by decide +kernel
theorem dX12_offset_38 : decode cX12_offset 38 = .ok (.getfield 97, 3) := by decide +kernel
theorem dX12_offset_41 : decode cX12_offset 41 = .ok (.iload_n 3, 1) := by decide +kernel
theorem dX12_offset_42 : decode cX12_offset 42 = .ok (.iload_n 3, 1) := by decide +kernel
theorem dX12_offset_43 : decode cX12_offset 43 = .ok (.aload_n 0, 1) := by decide +kernel
theorem dX12_offset_44 : decode cX12_offset 44 = .ok (.getfield 114, 3) := by decide +kernel
theorem dX12_offset_47 : decode cX12_offset 47 = .ok (.if_icmp .ge 65, 3) := by decide +kernel
theorem dX12_offset_50 : decode cX12_offset 50 = .ok (.aload_n 0, 1) := by decide +kernel
theorem dX12_offset_51 : decode cX12_offset 51 = .ok (.getfield 60, 3) := by decide +kernel
theorem dX12_offset_54 : decode cX12_offset 54 = .ok (.iload_n 3, 1) := by decide +kernel
theorem dX12_offset_55 : decode cX12_offset 55 = .ok (.iaload, 1) := by decide +kernel
theorem dX12_offset_56 : decode cX12_offset 56 = .ok (.iconst 2, 1) := by decide +kernel
theorem dX12_offset_57 : decode cX12_offset 57 = .ok (.if_icmp .ne 55, 3) := by decide +kernel
theorem dX12_offset_60 : decode cX12_offset 60 = .ok (.aload_n 0, 1) := by decide +kernel
theorem dX12_offset_61 : decode cX12_offset 61 = .ok (.getfield 39, 3) := by decide +kernel
theorem dX12_offset_64 : decode cX12_offset 64 = .ok (.iload_n 3, 1) := by decide +kernel
theorem dX12_offset_65 : decode cX12_offset 65 = .ok (.iaload, 1) := by decide +kernel
theorem dX12_offset_66 : decode cX12_offset 66 = .ok (.iload_n 1, 1) := by decide +kernel
theorem dX12_offset_67 : decode cX12_offset 67 = .ok (.if_icmp .ne 45, 3) := by decide +kernel
theorem dX12_offset_70 : decode cX12_offset 70 = .ok (.aload_n 0, 1) := by decide +kernel
theorem dX12_offset_71 : decode cX12_offset 71 = .ok (.getfield 69, 3) := by decide +kernel
theorem dX12_offset_74 : decode cX12_offset 74 = .ok (.iload_n 3, 1) := by decide +kernel
theorem dX12_offset_75 : decode cX12_offset 75 = .ok (.iaload, 1) := by decide +kernel
theorem dX12_offset_76 : decode cX12_offset 76 = .ok (.iconst (-1), 1) := by decide +kernel
theorem dX12_offset_77 : decode cX12_offset 77 = .ok (.if_icmp .ne 35, 3) := by decide +kernel
theorem dX12_offset_80 : decode cX12_offset 80 = .ok (.aload_n 0, 1) := by decide +kernel
theorem dX12_offset_81 : decode cX12_offset 81 = .ok (.getfield 23, 3) := by decide +kernel
theorem dX12_offset_84 : decode cX12_offset 84 = .ok (.aload_n 0, 1) := by decide +kernel
theorem dX12_offset_85 : decode cX12_offset 85 = .ok (.getfield 33, 3) := by decide +kernel
theorem dX12_offset_88 : decode cX12_offset 88 = .ok (.iload_n 3, 1) := by decide +kernel
theorem dX12_offset_89 : decode cX12_offset 89 = .ok (.iaload, 1) := by decide +kernel
theorem dX12_offset_90 : decode cX12_offset 90 = .ok (.baload, 1) := by decide +kernel
theorem dX12_offset_91 : decode cX12_offset 91 = .ok (.ifCond .ne 21, 3) := by decide +kernel
theorem dX12_offset_94 : decode cX12_offset 94 = .ok (.aload_n 0, 1) := by decide +kernel
theorem dX12_offset_95 : decode cX12_offset 95 = .ok (.getfield 23, 3) := by decide +kernel
theorem dX12_offset_98 : decode cX12_offset 98 = .ok (.aload_n 0, 1) := by decide +kernel
theorem dX12_offset_99 : decode cX12_offset 99 = .ok (.getfield 36, 3) := by decide +kernel
theorem dX12_offset_102 : decode cX12_offset 102 = .ok (.iload_n 3, 1) := by decide +kernel
theorem dX12_offset_103 : decode cX12_offset 103 = .ok (.iaload, 1) := by decide +kernel
theorem dX12_offset_104 : decode cX12_offset 104 = .ok (.baload, 1) := by decide +kernel
theorem dX12_offset_105 : decode cX12_offset 105 = .ok (.ifCond .ne 7, 3) := by decide +kernel
theorem dX12_offset_108 : decode cX12_offset 108 = .ok (.iconst 1, 1) := by decide +kernel
theorem dX12_offset_109 : decode cX12_offset 109 = .ok (.goto 4, 3) := by decide +kernel
theorem dX12_offset_112 : decode cX12_offset 112 = .ok (.iconst 0, 1) := by decide +kernel
theorem dX12_offset_113 : decode cX12_offset 113 = .ok (.bastore, 1) := by decide +kernel
theorem dX12_offset_114 : decode cX12_offset 114 = .ok (.iinc 3 1, 3) := by decide +kernel
theorem dX12_offset_117 : decode cX12_offset 117 = .ok (.goto (-86), 3) := by decide +kernel
theorem dX12_offset_120 : decode cX12_offset 120 = .ok (.aload_n 0, 1) := by decide +kernel
theorem dX12_offset_121 : decode cX12_offset 121 = .ok (.iload_n 1, 1) := by decide +kernel
theorem dX12_offset_122 : decode cX12_offset 122 = .ok (.iconst 1, 1) := by decide +kernel
theorem dX12_offset_123 : decode cX12_offset 123 = .ok (.invokevirtual 224, 3) := by decide +kernel
theorem dX12_offset_126 : decode cX12_offset 126 = .ok (.istore_n 2, 1) := by decide +kernel
theorem dX12_offset_127 : decode cX12_offset 127 = .ok (.aload_n 0, 1) := by decide +kernel
theorem dX12_offset_128 : decode cX12_offset 128 = .ok (.invokevirtual 208, 3) := by decide +kernel
theorem dX12_offset_131 : decode cX12_offset 131 = .ok (.istore_n 3, 1) := by decide +kernel
theorem dX12_offset_132 : decode cX12_offset 132 = .ok (.iload_n 2, 1) := by decide +kernel
theorem dX12_offset_133 : decode cX12_offset 133 = .ok (.ireturn, 1) := by decide +kernel
theorem dX12_recall_0 : decode cX12_recall 0 = .ok (.aload_n 0, 1) := by decide +kernel
theorem dX12_recall_1 : decode cX12_recall 1 = .ok (.iload_n 1, 1) := by decide +kernel
theorem dX12_recall_2 : decode cX12_recall 2 = .ok (.invokevirtual 214, 3) := by decide +kernel
theorem dX12_recall_5 : decode cX12_recall 5 = .ok (.istore_n 2, 1) := by decide +kernel
theorem dX12_recall_6 : decode cX12_recall 6 = .ok (.aload_n 0, 1) := by decide +kernel
theorem dX12_recall_7 : decode cX12_recall 7 = .ok (.iload_n 2, 1) := by decide +kernel
theorem dX12_recall_8 : decode cX12_recall 8 = .ok (.iload_n 2, 1) := by decide +kernel
theorem dX12_recall_9 : decode cX12_recall 9 = .ok (.ifCond .eq 42, 3) := by decide +kernel
theorem dX12_recall_12 : decode cX12_recall 12 = .ok (.aload_n 0, 1) := by decide +kernel
theorem dX12_recall_13 : decode cX12_recall 13 = .ok (.getfield 60, 3) := by decide +kernel
theorem dX12_recall_16 : decode cX12_recall 16 = .ok (.iload_n 1, 1) := by decide +kernel
theorem dX12_recall_17 : decode cX12_recall 17 = .ok (.iaload, 1) := by decide +kernel
theorem dX12_recall_18 : decode cX12_recall 18 = .ok (.iconst 4, 1) := by decide +kernel
theorem dX12_recall_19 : decode cX12_recall 19 = .ok (.if_icmp .ne 32, 3) := by decide +kernel
theorem dX12_recall_22 : decode cX12_recall 22 = .ok (.aload_n 0, 1) := by decide +kernel
theorem dX12_recall_23 : decode cX12_recall 23 = .ok (.getfield 135, 3) := by decide +kernel
theorem dX12_recall_26 : decode cX12_recall 26 = .ok (.aload_n 0, 1) := by decide +kernel
theorem dX12_recall_27 : decode cX12_recall 27 = .ok (.getfield 72, 3) := by decide +kernel
theorem dX12_recall_30 : decode cX12_recall 30 = .ok (.iload_n 1, 1) := by decide +kernel
theorem dX12_recall_31 : decode cX12_recall 31 = .ok (.iaload, 1) := by decide +kernel
theorem dX12_recall_32 : decode cX12_recall 32 = .ok (.iconst 3, 1) := by decide +kernel
theorem dX12_recall_33 : decode cX12_recall 33 = .ok (.iadd, 1) := by decide +kernel
theorem dX12_recall_34 : decode cX12_recall 34 = .ok (.if_icmp .gt 17, 3) := by decide +kernel
theorem dX12_recall_37 : decode cX12_recall 37 = .ok (.aload_n 0, 1) := by decide +kernel
theorem dX12_recall_38 : decode cX12_recall 38 = .ok (.getfield 75, 3) := by decide +kernel
theorem dX12_recall_41 : decode cX12_recall 41 = .ok (.iload_n 1, 1) := by decide +kernel
theorem dX12_recall_42 : decode cX12_recall 42 = .ok (.iaload, 1) := by decide +kernel
theorem dX12_recall_43 : decode cX12_recall 43 = .ok (.iconst (-1), 1) := by decide +kernel
theorem dX12_recall_44 : decode cX12_recall 44 = .ok (.if_icmp .ne 7, 3) := by decide +kernel
theorem dX12_recall_47 : decode cX12_recall 47 = .ok (.iconst 1, 1) := by decide +kernel
theorem dX12_recall_48 : decode cX12_recall 48 = .ok (.goto 4, 3) := by decide +kernel
theorem dX12_recall_51 : decode cX12_recall 51 = .ok (.iconst 0, 1) := by decide +kernel
theorem dX12_recall_52 : decode cX12_recall 52 = .ok (.iconst 1, 1) := by decide +kernel
theorem dX12_recall_53 : decode cX12_recall 53 = .ok (.invokevirtual 197, 3) := by decide +kernel
theorem dX12_recall_56 : decode cX12_recall 56 = .ok (.ifCond .ne 5, 3) := by decide +kernel
theorem dX12_recall_59 : decode cX12_recall 59 = .ok (.iconst 0, 1) := by decide +kernel
theorem dX12_recall_60 : decode cX12_recall 60 = .ok (.ireturn, 1) := by decide +kernel
theorem dX12_recall_61 : decode cX12_recall 61 = .ok (.aload_n 0, 1) := by decide +kernel
theorem dX12_recall_62 : decode cX12_recall 62 = .ok (.getfield 75, 3) := by decide +kernel
theorem dX12_recall_65 : decode cX12_recall 65 = .ok (.iload_n 1, 1) := by decide +kernel
theorem dX12_recall_66 : decode cX12_recall 66 = .ok (.aload_n 0, 1) := by decide +kernel
theorem dX12_recall_67 : decode cX12_recall 67 = .ok (.getfield 135, 3) := by decide +kernel
theorem dX12_recall_70 : decode cX12_recall 70 = .ok (.iastore, 1) := by decide +kernel
theorem dX12_recall_71 : decode cX12_recall 71 = .ok (.aload_n 0, 1) := by decide +kernel
theorem dX12_recall_72 : decode cX12_recall 72 = .ok (.getfield 135, 3) := by decide +kernel
theorem dX12_recall_75 : decode cX12_recall 75 = .ok (.iconst 2, 1) := by decide +kernel
theorem dX12_recall_76 : decode cX12_recall 76 = .ok (.iadd, 1) := by decide +kernel
theorem dX12_recall_77 : decode cX12_recall 77 = .ok (.ireturn, 1) := by decide +kernel
theorem dX12_answer_0 : decode cX12_answer 0 = .ok (.aload_n 0, 1) := by decide +kernel
theorem dX12_answer_1 : decode cX12_answer 1 = .ok (.iload_n 1, 1) := by decide +kernel
theorem dX12_answer_2 : decode cX12_answer 2 = .ok (.invokevirtual 214, 3) := by decide +kernel
theorem dX12_answer_5 : decode cX12_answer 5 = .ok (.istore_n 3, 1) := by decide +kernel
theorem dX12_answer_6 : decode cX12_answer 6 = .ok (.iload_n 3, 1) := by decide +kernel
theorem dX12_answer_7 : decode cX12_answer 7 = .ok (.ifCond .eq 54, 3) := by decide +kernel
theorem dX12_answer_10 : decode cX12_answer 10 = .ok (.aload_n 0, 1) := by decide +kernel
theorem dX12_answer_11 : decode cX12_answer 11 = .ok (.getfield 75, 3) := by decide +kernel
theorem dX12_answer_14 : decode cX12_answer 14 = .ok (.iload_n 1, 1) := by decide +kernel
theorem dX12_answer_15 : decode cX12_answer 15 = .ok (.iaload, 1) := by decide +kernel
theorem dX12_answer_16 : decode cX12_answer 16 = .ok (.iconst (-1), 1) := by decide +kernel
theorem dX12_answer_17 : decode cX12_answer 17 = .ok (.if_icmp .eq 44, 3) := by decide +kernel
theorem dX12_answer_20 : decode cX12_answer 20 = .ok (.aload_n 0, 1) := by decide +kernel
theorem dX12_answer_21 : decode cX12_answer 21 = .ok (.getfield 78, 3) := by decide +kernel
theorem dX12_answer_24 : decode cX12_answer 24 = .ok (.iload_n 1, 1) := by decide +kernel
theorem dX12_answer_25 : decode cX12_answer 25 = .ok (.baload, 1) := by decide +kernel
theorem dX12_answer_26 : decode cX12_answer 26 = .ok (.ifCond .ne 35, 3) := by decide +kernel
theorem dX12_answer_29 : decode cX12_answer 29 = .ok (.aload_n 0, 1) := by decide +kernel
theorem dX12_answer_30 : decode cX12_answer 30 = .ok (.getfield 135, 3) := by decide +kernel
theorem dX12_answer_33 : decode cX12_answer 33 = .ok (.aload_n 0, 1) := by decide +kernel
theorem dX12_answer_34 : decode cX12_answer 34 = .ok (.getfield 75, 3) := by decide +kernel
theorem dX12_answer_37 : decode cX12_answer 37 = .ok (.iload_n 1, 1) := by decide +kernel
theorem dX12_answer_38 : decode cX12_answer 38 = .ok (.iaload, 1) := by decide +kernel
theorem dX12_answer_39 : decode cX12_answer 39 = .ok (.iconst 2, 1) := by decide +kernel
theorem dX12_answer_40 : decode cX12_answer 40 = .ok (.iadd, 1) := by decide +kernel
theorem dX12_answer_41 : decode cX12_answer 41 = .ok (.if_icmp .gt 20, 3) := by decide +kernel
theorem dX12_answer_44 : decode cX12_answer 44 = .ok (.iload_n 2, 1) := by decide +kernel
theorem dX12_answer_45 : decode cX12_answer 45 = .ok (.ifCond .eq 12, 3) := by decide +kernel
theorem dX12_answer_48 : decode cX12_answer 48 = .ok (.aload_n 0, 1) := by decide +kernel
theorem dX12_answer_49 : decode cX12_answer 49 = .ok (.getfield 114, 3) := by decide +kernel
theorem dX12_answer_52 : decode cX12_answer 52 = .ok (.bipush 60, 2) := by decide +kernel
theorem dX12_answer_54 : decode cX12_answer 54 = .ok (.if_icmp .ge 7, 3) := by decide +kernel
theorem dX12_answer_57 : decode cX12_answer 57 = .ok (.iconst 1, 1) := by decide +kernel
theorem dX12_answer_58 : decode cX12_answer 58 = .ok (.goto 4, 3) := by decide +kernel
theorem dX12_answer_61 : decode cX12_answer 61 = .ok (.iconst 0, 1) := by decide +kernel
theorem dX12_answer_62 : decode cX12_answer 62 = .ok (.istore 4, 2) := by decide +kernel
theorem dX12_answer_64 : decode cX12_answer 64 = .ok (.aload_n 0, 1) := by decide +kernel
theorem dX12_answer_65 : decode cX12_answer 65 = .ok (.iload_n 3, 1) := by decide +kernel
theorem dX12_answer_66 : decode cX12_answer 66 = .ok (.iload 4, 2) := by decide +kernel
theorem dX12_answer_68 : decode cX12_answer 68 = .ok (.iconst 1, 1) := by decide +kernel
theorem dX12_answer_69 : decode cX12_answer 69 = .ok (.invokevirtual 197, 3) := by decide +kernel
theorem dX12_answer_72 : decode cX12_answer 72 = .ok (.ifCond .ne 5, 3) := by decide +kernel
theorem dX12_answer_75 : decode cX12_answer 75 = .ok (.iconst 0, 1) := by decide +kernel
theorem dX12_answer_76 : decode cX12_answer 76 = .ok (.ireturn, 1) := by decide +kernel
theorem dX12_answer_77 : decode cX12_answer 77 = .ok (.aload_n 0, 1) := by decide +kernel
theorem dX12_answer_78 : decode cX12_answer 78 = .ok (.getfield 78, 3) := by decide +kernel
theorem dX12_answer_81 : decode cX12_answer 81 = .ok (.iload_n 1, 1) := by decide +kernel
theorem dX12_answer_82 : decode cX12_answer 82 = .ok (.iconst 1, 1) := by decide +kernel
theorem dX12_answer_83 : decode cX12_answer 83 = .ok (.bastore, 1) := by decide +kernel
theorem dX12_answer_84 : decode cX12_answer 84 = .ok (.iload_n 2, 1) := by decide +kernel
theorem dX12_answer_85 : decode cX12_answer 85 = .ok (.ifCond .ne 5, 3) := by decide +kernel
theorem dX12_answer_88 : decode cX12_answer 88 = .ok (.iconst (-1), 1) := by decide +kernel
theorem dX12_answer_89 : decode cX12_answer 89 = .ok (.ireturn, 1) := by decide +kernel
theorem dX12_answer_90 : decode cX12_answer 90 = .ok (.aload_n 0, 1) := by decide +kernel
theorem dX12_answer_91 : decode cX12_answer 91 = .ok (.aload_n 0, 1) := by decide +kernel
theorem dX12_answer_92 : decode cX12_answer 92 = .ok (.getfield 36, 3) := by decide +kernel
theorem dX12_answer_95 : decode cX12_answer 95 = .ok (.iload_n 1, 1) := by decide +kernel
theorem dX12_answer_96 : decode cX12_answer 96 = .ok (.iaload, 1) := by decide +kernel
theorem dX12_answer_97 : decode cX12_answer 97 = .ok (.aload_n 0, 1) := by decide +kernel
theorem dX12_answer_98 : decode cX12_answer 98 = .ok (.getfield 33, 3) := by decide +kernel
theorem dX12_answer_101 : decode cX12_answer 101 = .ok (.iload_n 1, 1) := by decide +kernel
theorem dX12_answer_102 : decode cX12_answer 102 = .ok (.iaload, 1) := by decide +kernel
theorem dX12_answer_103 : decode cX12_answer 103 = .ok (.aload_n 0, 1) := by decide +kernel
theorem dX12_answer_104 : decode cX12_answer 104 = .ok (.getfield 39, 3) := by decide +kernel
theorem dX12_answer_107 : decode cX12_answer 107 = .ok (.iload_n 1, 1) := by decide +kernel
theorem dX12_answer_108 : decode cX12_answer 108 = .ok (.iaload, 1) := by decide +kernel
theorem dX12_answer_109 : decode cX12_answer 109 = .ok (.aload_n 0, 1) := by decide +kernel
theorem dX12_answer_110 : decode cX12_answer 110 = .ok (.getfield 42, 3) := by decide +kernel
theorem dX12_answer_113 : decode cX12_answer 113 = .ok (.iload_n 1, 1) := by decide +kernel
theorem dX12_answer_114 : decode cX12_answer 114 = .ok (.iaload, 1) := by decide +kernel
theorem dX12_answer_115 : decode cX12_answer 115 = .ok (.iconst 0, 1) := by decide +kernel
theorem dX12_answer_116 : decode cX12_answer 116 = .ok (.iconst 2, 1) := by decide +kernel
theorem dX12_answer_117 : decode cX12_answer 117 = .ok (.iconst 1, 1) := by decide +kernel
theorem dX12_answer_118 : decode cX12_answer 118 = .ok (.aload_n 0, 1) := by decide +kernel
theorem dX12_answer_119 : decode cX12_answer 119 = .ok (.getfield 135, 3) := by decide +kernel
theorem dX12_answer_122 : decode cX12_answer 122 = .ok (.iconst 1, 1) := by decide +kernel
theorem dX12_answer_123 : decode cX12_answer 123 = .ok (.invokevirtual 204, 3) := by decide +kernel
theorem dX12_answer_126 : decode cX12_answer 126 = .ok (.istore 5, 2) := by decide +kernel
theorem dX12_answer_128 : decode cX12_answer 128 = .ok (.aload_n 0, 1) := by decide +kernel
theorem dX12_answer_129 : decode cX12_answer 129 = .ok (.invokevirtual 208, 3) := by decide +kernel
theorem dX12_answer_132 : decode cX12_answer 132 = .ok (.istore 6, 2) := by decide +kernel
theorem dX12_answer_134 : decode cX12_answer 134 = .ok (.iload 5, 2) := by decide +kernel
theorem dX12_answer_136 : decode cX12_answer 136 = .ok (.ireturn, 1) := by decide +kernel
theorem dX12_fund_0 : decode cX12_fund 0 = .ok (.aload_n 0, 1) := by decide +kernel
theorem dX12_fund_1 : decode cX12_fund 1 = .ok (.iload_n 1, 1) := by decide +kernel
theorem dX12_fund_2 : decode cX12_fund 2 = .ok (.invokestatic 183, 3) := by decide +kernel
theorem dX12_fund_5 : decode cX12_fund 5 = .ok (.ifCond .eq 14, 3) := by decide +kernel
theorem dX12_fund_8 : decode cX12_fund 8 = .ok (.iload_n 2, 1) := by decide +kernel
theorem dX12_fund_9 : decode cX12_fund 9 = .ok (.invokestatic 186, 3) := by decide +kernel
theorem dX12_fund_12 : decode cX12_fund 12 = .ok (.ifCond .eq 7, 3) := by decide +kernel
theorem dX12_fund_15 : decode cX12_fund 15 = .ok (.iconst 1, 1) := by decide +kernel
theorem dX12_fund_16 : decode cX12_fund 16 = .ok (.goto 4, 3) := by decide +kernel
theorem dX12_fund_19 : decode cX12_fund 19 = .ok (.iconst 0, 1) := by decide +kernel
theorem dX12_fund_20 : decode cX12_fund 20 = .ok (.iload_n 3, 1) := by decide +kernel
theorem dX12_fund_21 : decode cX12_fund 21 = .ok (.iconst 1, 1) := by decide +kernel
theorem dX12_fund_22 : decode cX12_fund 22 = .ok (.ldc 192, 2) := by decide +kernel
theorem dX12_fund_24 : decode cX12_fund 24 = .ok (.invokestatic 110, 3) := by decide +kernel
theorem dX12_fund_27 : decode cX12_fund 27 = .ok (.iconst 1, 1) := by decide +kernel
theorem dX12_fund_28 : decode cX12_fund 28 = .ok (.invokevirtual 197, 3) := by decide +kernel
theorem dX12_fund_31 : decode cX12_fund 31 = .ok (.ifCond .ne 5, 3) := by decide +kernel
theorem dX12_fund_34 : decode cX12_fund 34 = .ok (.lconst 0, 1) := by decide +kernel
theorem dX12_fund_35 : decode cX12_fund 35 = .ok (.lreturn, 1) := by decide +kernel
theorem dX12_fund_36 : decode cX12_fund 36 = .ok (.aload_n 0, 1) := by decide +kernel
theorem dX12_fund_37 : decode cX12_fund 37 = .ok (.iconst (-1), 1) := by decide +kernel
theorem dX12_fund_38 : decode cX12_fund 38 = .ok (.iload_n 1, 1) := by decide +kernel
theorem dX12_fund_39 : decode cX12_fund 39 = .ok (.iload_n 2, 1) := by decide +kernel
theorem dX12_fund_40 : decode cX12_fund 40 = .ok (.iload_n 3, 1) := by decide +kernel
theorem dX12_fund_41 : decode cX12_fund 41 = .ok (.i2l, 1) := by decide +kernel
theorem dX12_fund_42 : decode cX12_fund 42 = .ok (.iconst (-1), 1) := by decide +kernel
theorem dX12_fund_43 : decode cX12_fund 43 = .ok (.invokevirtual 141, 3) := by decide +kernel
theorem dX12_fund_46 : decode cX12_fund 46 = .ok (.aload_n 0, 1) := by decide +kernel
theorem dX12_fund_47 : decode cX12_fund 47 = .ok (.invokevirtual 208, 3) := by decide +kernel
theorem dX12_fund_50 : decode cX12_fund 50 = .ok (.istore 4, 2) := by decide +kernel
theorem dX12_fund_52 : decode cX12_fund 52 = .ok (.aload_n 0, 1) := by decide +kernel
theorem dX12_fund_53 : decode cX12_fund 53 = .ok (.getfield 7, 3) := by decide +kernel
theorem dX12_fund_56 : decode cX12_fund 56 = .ok (.iload_n 1, 1) := by decide +kernel
theorem dX12_fund_57 : decode cX12_fund 57 = .ok (.iload_n 2, 1) := by decide +kernel
theorem dX12_fund_58 : decode cX12_fund 58 = .ok (.invokestatic 120, 3) := by decide +kernel
theorem dX12_fund_61 : decode cX12_fund 61 = .ok (.laload, 1) := by decide +kernel
theorem dX12_fund_62 : decode cX12_fund 62 = .ok (.lreturn, 1) := by decide +kernel
theorem dX12_line_0 : decode cX12_line 0 = .ok (.aload_n 0, 1) := by decide +kernel
theorem dX12_line_1 : decode cX12_line 1 = .ok (.iload_n 1, 1) := by decide +kernel
theorem dX12_line_2 : decode cX12_line 2 = .ok (.invokestatic 183, 3) := by decide +kernel
theorem dX12_line_5 : decode cX12_line 5 = .ok (.ifCond .eq 14, 3) := by decide +kernel
theorem dX12_line_8 : decode cX12_line 8 = .ok (.iload_n 2, 1) := by decide +kernel
theorem dX12_line_9 : decode cX12_line 9 = .ok (.invokestatic 186, 3) := by decide +kernel
theorem dX12_line_12 : decode cX12_line 12 = .ok (.ifCond .eq 7, 3) := by decide +kernel
theorem dX12_line_15 : decode cX12_line 15 = .ok (.iconst 1, 1) := by decide +kernel
theorem dX12_line_16 : decode cX12_line 16 = .ok (.goto 4, 3) := by decide +kernel
theorem dX12_line_19 : decode cX12_line 19 = .ok (.iconst 0, 1) := by decide +kernel
theorem dX12_line_20 : decode cX12_line 20 = .ok (.iload_n 3, 1) := by decide +kernel
theorem dX12_line_21 : decode cX12_line 21 = .ok (.iconst 0, 1) := by decide +kernel
theorem dX12_line_22 : decode cX12_line 22 = .ok (.ldc 192, 2) := by decide +kernel
theorem dX12_line_24 : decode cX12_line 24 = .ok (.invokestatic 110, 3) := by decide +kernel
theorem dX12_line_27 : decode cX12_line 27 = .ok (.iconst 1, 1) := by decide +kernel
theorem dX12_line_28 : decode cX12_line 28 = .ok (.invokevirtual 197, 3) := by decide +kernel
theorem dX12_line_31 : decode cX12_line 31 = .ok (.ifCond .ne 5, 3) := by decide +kernel
end
section
theorem dX12_line_34 : decode cX12_line 34 = .ok (.iconst 0, 1) := by decide +kernel
theorem dX12_line_35 : decode cX12_line 35 = .ok (.ireturn, 1) := by decide +kernel
theorem dX12_line_36 : decode cX12_line 36 = .ok (.aload_n 0, 1) := by decide +kernel
theorem dX12_line_37 : decode cX12_line 37 = .ok (.getfield 13, 3) := by decide +kernel
theorem dX12_line_40 : decode cX12_line 40 = .ok (.iload_n 1, 1) := by decide +kernel
theorem dX12_line_41 : decode cX12_line 41 = .ok (.iload_n 2, 1) := by decide +kernel
theorem dX12_line_42 : decode cX12_line 42 = .ok (.invokestatic 120, 3) := by decide +kernel
theorem dX12_line_45 : decode cX12_line 45 = .ok (.iaload, 1) := by decide +kernel
theorem dX12_line_46 : decode cX12_line 46 = .ok (.istore 4, 2) := by decide +kernel
theorem dX12_line_48 : decode cX12_line 48 = .ok (.aload_n 0, 1) := by decide +kernel
theorem dX12_line_49 : decode cX12_line 49 = .ok (.getfield 13, 3) := by decide +kernel
theorem dX12_line_52 : decode cX12_line 52 = .ok (.iload_n 1, 1) := by decide +kernel
theorem dX12_line_53 : decode cX12_line 53 = .ok (.iload_n 2, 1) := by decide +kernel
theorem dX12_line_54 : decode cX12_line 54 = .ok (.invokestatic 120, 3) := by decide +kernel
theorem dX12_line_57 : decode cX12_line 57 = .ok (.iload_n 3, 1) := by decide +kernel
theorem dX12_line_58 : decode cX12_line 58 = .ok (.iastore, 1) := by decide +kernel
theorem dX12_line_59 : decode cX12_line 59 = .ok (.aload_n 0, 1) := by decide +kernel
theorem dX12_line_60 : decode cX12_line 60 = .ok (.invokevirtual 208, 3) := by decide +kernel
theorem dX12_line_63 : decode cX12_line 63 = .ok (.istore 5, 2) := by decide +kernel
theorem dX12_line_65 : decode cX12_line 65 = .ok (.iload 4, 2) := by decide +kernel
theorem dX12_line_67 : decode cX12_line 67 = .ok (.ireturn, 1) := by decide +kernel
theorem dX12_limit_0 : decode cX12_limit 0 = .ok (.iload_n 1, 1) := by decide +kernel
theorem dX12_limit_1 : decode cX12_limit 1 = .ok (.invokestatic 183, 3) := by decide +kernel
theorem dX12_limit_4 : decode cX12_limit 4 = .ok (.ifCond .eq 21, 3) := by decide +kernel
theorem dX12_limit_7 : decode cX12_limit 7 = .ok (.iload_n 2, 1) := by decide +kernel
theorem dX12_limit_8 : decode cX12_limit 8 = .ok (.invokestatic 183, 3) := by decide +kernel
theorem dX12_limit_11 : decode cX12_limit 11 = .ok (.ifCond .eq 14, 3) := by decide +kernel
theorem dX12_limit_14 : decode cX12_limit 14 = .ok (.iload_n 3, 1) := by decide +kernel
theorem dX12_limit_15 : decode cX12_limit 15 = .ok (.invokestatic 186, 3) := by decide +kernel
theorem dX12_limit_18 : decode cX12_limit 18 = .ok (.ifCond .eq 7, 3) := by decide +kernel
theorem dX12_limit_21 : decode cX12_limit 21 = .ok (.iconst 1, 1) := by decide +kernel
theorem dX12_limit_22 : decode cX12_limit 22 = .ok (.goto 4, 3) := by decide +kernel
theorem dX12_limit_25 : decode cX12_limit 25 = .ok (.iconst 0, 1) := by decide +kernel
theorem dX12_limit_26 : decode cX12_limit 26 = .ok (.istore 5, 2) := by decide +kernel
theorem dX12_limit_28 : decode cX12_limit 28 = .ok (.aload_n 0, 1) := by decide +kernel
theorem dX12_limit_29 : decode cX12_limit 29 = .ok (.iload 5, 2) := by decide +kernel
theorem dX12_limit_31 : decode cX12_limit 31 = .ok (.iload_n 1, 1) := by decide +kernel
theorem dX12_limit_32 : decode cX12_limit 32 = .ok (.iload_n 2, 1) := by decide +kernel
theorem dX12_limit_33 : decode cX12_limit 33 = .ok (.if_icmp .eq 18, 3) := by decide +kernel
theorem dX12_limit_36 : decode cX12_limit 36 = .ok (.iload 4, 2) := by decide +kernel
theorem dX12_limit_38 : decode cX12_limit 38 = .ok (.iconst (-1), 1) := by decide +kernel
theorem dX12_limit_39 : decode cX12_limit 39 = .ok (.ldc 192, 2) := by decide +kernel
theorem dX12_limit_41 : decode cX12_limit 41 = .ok (.invokestatic 110, 3) := by decide +kernel
theorem dX12_limit_44 : decode cX12_limit 44 = .ok (.ifCond .eq 7, 3) := by decide +kernel
theorem dX12_limit_47 : decode cX12_limit 47 = .ok (.iconst 1, 1) := by decide +kernel
theorem dX12_limit_48 : decode cX12_limit 48 = .ok (.goto 4, 3) := by decide +kernel
theorem dX12_limit_51 : decode cX12_limit 51 = .ok (.iconst 0, 1) := by decide +kernel
theorem dX12_limit_52 : decode cX12_limit 52 = .ok (.iconst 1, 1) := by decide +kernel
theorem dX12_limit_53 : decode cX12_limit 53 = .ok (.invokevirtual 197, 3) := by decide +kernel
theorem dX12_limit_56 : decode cX12_limit 56 = .ok (.ifCond .ne 5, 3) := by decide +kernel
theorem dX12_limit_59 : decode cX12_limit 59 = .ok (.iconst 0, 1) := by decide +kernel
theorem dX12_limit_60 : decode cX12_limit 60 = .ok (.ireturn, 1) := by decide +kernel
theorem dX12_limit_61 : decode cX12_limit 61 = .ok (.aload_n 0, 1) := by decide +kernel
theorem dX12_limit_62 : decode cX12_limit 62 = .ok (.getfield 17, 3) := by decide +kernel
theorem dX12_limit_65 : decode cX12_limit 65 = .ok (.iload_n 1, 1) := by decide +kernel
theorem dX12_limit_66 : decode cX12_limit 66 = .ok (.iload_n 2, 1) := by decide +kernel
theorem dX12_limit_67 : decode cX12_limit 67 = .ok (.iload_n 3, 1) := by decide +kernel
theorem dX12_limit_68 : decode cX12_limit 68 = .ok (.invokestatic 124, 3) := by decide +kernel
theorem dX12_limit_71 : decode cX12_limit 71 = .ok (.iaload, 1) := by decide +kernel
theorem dX12_limit_72 : decode cX12_limit 72 = .ok (.istore 6, 2) := by decide +kernel
theorem dX12_limit_74 : decode cX12_limit 74 = .ok (.aload_n 0, 1) := by decide +kernel
theorem dX12_limit_75 : decode cX12_limit 75 = .ok (.getfield 17, 3) := by decide +kernel
theorem dX12_limit_78 : decode cX12_limit 78 = .ok (.iload_n 1, 1) := by decide +kernel
theorem dX12_limit_79 : decode cX12_limit 79 = .ok (.iload_n 2, 1) := by decide +kernel
theorem dX12_limit_80 : decode cX12_limit 80 = .ok (.iload_n 3, 1) := by decide +kernel
theorem dX12_limit_81 : decode cX12_limit 81 = .ok (.invokestatic 124, 3) := by decide +kernel
theorem dX12_limit_84 : decode cX12_limit 84 = .ok (.iload 4, 2) := by decide +kernel
theorem dX12_limit_86 : decode cX12_limit 86 = .ok (.iastore, 1) := by decide +kernel
theorem dX12_limit_87 : decode cX12_limit 87 = .ok (.aload_n 0, 1) := by decide +kernel
theorem dX12_limit_88 : decode cX12_limit 88 = .ok (.invokevirtual 208, 3) := by decide +kernel
theorem dX12_limit_91 : decode cX12_limit 91 = .ok (.istore 7, 2) := by decide +kernel
theorem dX12_limit_93 : decode cX12_limit 93 = .ok (.iload 6, 2) := by decide +kernel
theorem dX12_limit_95 : decode cX12_limit 95 = .ok (.ireturn, 1) := by decide +kernel
theorem dX12_out_0 : decode cX12_out 0 = .ok (.aload_n 0, 1) := by decide +kernel
theorem dX12_out_1 : decode cX12_out 1 = .ok (.iload_n 1, 1) := by decide +kernel
theorem dX12_out_2 : decode cX12_out 2 = .ok (.invokestatic 183, 3) := by decide +kernel
theorem dX12_out_5 : decode cX12_out 5 = .ok (.iconst 1, 1) := by decide +kernel
theorem dX12_out_6 : decode cX12_out 6 = .ok (.iconst 1, 1) := by decide +kernel
theorem dX12_out_7 : decode cX12_out 7 = .ok (.invokevirtual 197, 3) := by decide +kernel
theorem dX12_out_10 : decode cX12_out 10 = .ok (.ifCond .ne 5, 3) := by decide +kernel
theorem dX12_out_13 : decode cX12_out 13 = .ok (.iconst 0, 1) := by decide +kernel
theorem dX12_out_14 : decode cX12_out 14 = .ok (.ireturn, 1) := by decide +kernel
theorem dX12_out_15 : decode cX12_out 15 = .ok (.aload_n 0, 1) := by decide +kernel
theorem dX12_out_16 : decode cX12_out 16 = .ok (.getfield 23, 3) := by decide +kernel
theorem dX12_out_19 : decode cX12_out 19 = .ok (.iload_n 1, 1) := by decide +kernel
theorem dX12_out_20 : decode cX12_out 20 = .ok (.baload, 1) := by decide +kernel
theorem dX12_out_21 : decode cX12_out 21 = .ok (.istore_n 3, 1) := by decide +kernel
theorem dX12_out_22 : decode cX12_out 22 = .ok (.aload_n 0, 1) := by decide +kernel
theorem dX12_out_23 : decode cX12_out 23 = .ok (.getfield 23, 3) := by decide +kernel
theorem dX12_out_26 : decode cX12_out 26 = .ok (.iload_n 1, 1) := by decide +kernel
theorem dX12_out_27 : decode cX12_out 27 = .ok (.iload_n 2, 1) := by decide +kernel
theorem dX12_out_28 : decode cX12_out 28 = .ok (.bastore, 1) := by decide +kernel
theorem dX12_out_29 : decode cX12_out 29 = .ok (.aload_n 0, 1) := by decide +kernel
theorem dX12_out_30 : decode cX12_out 30 = .ok (.invokevirtual 208, 3) := by decide +kernel
theorem dX12_out_33 : decode cX12_out 33 = .ok (.istore 4, 2) := by decide +kernel
theorem dX12_out_35 : decode cX12_out 35 = .ok (.iload_n 3, 1) := by decide +kernel
theorem dX12_out_36 : decode cX12_out 36 = .ok (.ireturn, 1) := by decide +kernel
theorem dX12_holiday_0 : decode cX12_holiday 0 = .ok (.aload_n 0, 1) := by decide +kernel
theorem dX12_holiday_1 : decode cX12_holiday 1 = .ok (.iload_n 1, 1) := by decide +kernel
theorem dX12_holiday_2 : decode cX12_holiday 2 = .ok (.invokestatic 186, 3) := by decide +kernel
theorem dX12_holiday_5 : decode cX12_holiday 5 = .ok (.iload_n 2, 1) := by decide +kernel
theorem dX12_holiday_6 : decode cX12_holiday 6 = .ok (.iconst 0, 1) := by decide +kernel
theorem dX12_holiday_7 : decode cX12_holiday 7 = .ok (.sipush 999, 3) := by decide +kernel
theorem dX12_holiday_10 : decode cX12_holiday 10 = .ok (.invokestatic 110, 3) := by decide +kernel
theorem dX12_holiday_13 : decode cX12_holiday 13 = .ok (.iconst 1, 1) := by decide +kernel
theorem dX12_holiday_14 : decode cX12_holiday 14 = .ok (.invokevirtual 197, 3) := by decide +kernel
theorem dX12_holiday_17 : decode cX12_holiday 17 = .ok (.ifCond .ne 5, 3) := by decide +kernel
theorem dX12_holiday_20 : decode cX12_holiday 20 = .ok (.iconst 0, 1) := by decide +kernel
theorem dX12_holiday_21 : decode cX12_holiday 21 = .ok (.ireturn, 1) := by decide +kernel
theorem dX12_holiday_22 : decode cX12_holiday 22 = .ok (.aload_n 0, 1) := by decide +kernel
theorem dX12_holiday_23 : decode cX12_holiday 23 = .ok (.getfield 27, 3) := by decide +kernel
theorem dX12_holiday_26 : decode cX12_holiday 26 = .ok (.sipush 1000, 3) := by decide +kernel
theorem dX12_holiday_29 : decode cX12_holiday 29 = .ok (.iload_n 1, 1) := by decide +kernel
theorem dX12_holiday_30 : decode cX12_holiday 30 = .ok (.imul, 1) := by decide +kernel
theorem dX12_holiday_31 : decode cX12_holiday 31 = .ok (.iload_n 2, 1) := by decide +kernel
theorem dX12_holiday_32 : decode cX12_holiday 32 = .ok (.iadd, 1) := by decide +kernel
theorem dX12_holiday_33 : decode cX12_holiday 33 = .ok (.iload_n 3, 1) := by decide +kernel
theorem dX12_holiday_34 : decode cX12_holiday 34 = .ok (.bastore, 1) := by decide +kernel
theorem dX12_holiday_35 : decode cX12_holiday 35 = .ok (.aload_n 0, 1) := by decide +kernel
theorem dX12_holiday_36 : decode cX12_holiday 36 = .ok (.invokevirtual 208, 3) := by decide +kernel
theorem dX12_holiday_39 : decode cX12_holiday 39 = .ok (.istore 4, 2) := by decide +kernel
theorem dX12_holiday_41 : decode cX12_holiday 41 = .ok (.aload_n 0, 1) := by decide +kernel
theorem dX12_holiday_42 : decode cX12_holiday 42 = .ok (.iload_n 1, 1) := by decide +kernel
theorem dX12_holiday_43 : decode cX12_holiday 43 = .ok (.iload_n 2, 1) := by decide +kernel
theorem dX12_holiday_44 : decode cX12_holiday 44 = .ok (.invokevirtual 138, 3) := by decide +kernel
theorem dX12_holiday_47 : decode cX12_holiday 47 = .ok (.ireturn, 1) := by decide +kernel
theorem dX12_list_0 : decode cX12_list 0 = .ok (.aload_n 0, 1) := by decide +kernel
theorem dX12_list_1 : decode cX12_list 1 = .ok (.iload_n 1, 1) := by decide +kernel
theorem dX12_list_2 : decode cX12_list 2 = .ok (.invokestatic 189, 3) := by decide +kernel
theorem dX12_list_5 : decode cX12_list 5 = .ok (.iconst 1, 1) := by decide +kernel
theorem dX12_list_6 : decode cX12_list 6 = .ok (.iconst 1, 1) := by decide +kernel
theorem dX12_list_7 : decode cX12_list 7 = .ok (.invokevirtual 197, 3) := by decide +kernel
theorem dX12_list_10 : decode cX12_list 10 = .ok (.ifCond .ne 5, 3) := by decide +kernel
theorem dX12_list_13 : decode cX12_list 13 = .ok (.iconst 0, 1) := by decide +kernel
theorem dX12_list_14 : decode cX12_list 14 = .ok (.ireturn, 1) := by decide +kernel
theorem dX12_list_15 : decode cX12_list 15 = .ok (.aload_n 0, 1) := by decide +kernel
theorem dX12_list_16 : decode cX12_list 16 = .ok (.getfield 30, 3) := by decide +kernel
theorem dX12_list_19 : decode cX12_list 19 = .ok (.iload_n 1, 1) := by decide +kernel
theorem dX12_list_20 : decode cX12_list 20 = .ok (.iload_n 2, 1) := by decide +kernel
theorem dX12_list_21 : decode cX12_list 21 = .ok (.bastore, 1) := by decide +kernel
theorem dX12_list_22 : decode cX12_list 22 = .ok (.iconst 0, 1) := by decide +kernel
theorem dX12_list_23 : decode cX12_list 23 = .ok (.istore_n 3, 1) := by decide +kernel
theorem dX12_list_24 : decode cX12_list 24 = .ok (.iconst 0, 1) := by decide +kernel
theorem dX12_list_25 : decode cX12_list 25 = .ok (.istore 4, 2) := by decide +kernel
theorem dX12_list_27 : decode cX12_list 27 = .ok (.iload 4, 2) := by decide +kernel
theorem dX12_list_29 : decode cX12_list 29 = .ok (.aload_n 0, 1) := by decide +kernel
theorem dX12_list_30 : decode cX12_list 30 = .ok (.getfield 114, 3) := by decide +kernel
theorem dX12_list_33 : decode cX12_list 33 = .ok (.if_icmp .ge 67, 3) := by decide +kernel
theorem dX12_list_36 : decode cX12_list 36 = .ok (.iload_n 2, 1) := by decide +kernel
theorem dX12_list_37 : decode cX12_list 37 = .ok (.ifCond .eq 57, 3) := by decide +kernel
theorem dX12_list_40 : decode cX12_list 40 = .ok (.aload_n 0, 1) := by decide +kernel
theorem dX12_list_41 : decode cX12_list 41 = .ok (.getfield 45, 3) := by decide +kernel
theorem dX12_list_44 : decode cX12_list 44 = .ok (.iload 4, 2) := by decide +kernel
theorem dX12_list_46 : decode cX12_list 46 = .ok (.iaload, 1) := by decide +kernel
theorem dX12_list_47 : decode cX12_list 47 = .ok (.iload_n 1, 1) := by decide +kernel
theorem dX12_list_48 : decode cX12_list 48 = .ok (.if_icmp .ne 46, 3) := by decide +kernel
theorem dX12_list_51 : decode cX12_list 51 = .ok (.aload_n 0, 1) := by decide +kernel
theorem dX12_list_52 : decode cX12_list 52 = .ok (.getfield 63, 3) := by decide +kernel
theorem dX12_list_55 : decode cX12_list 55 = .ok (.iload 4, 2) := by decide +kernel
theorem dX12_list_57 : decode cX12_list 57 = .ok (.baload, 1) := by decide +kernel
theorem dX12_list_58 : decode cX12_list 58 = .ok (.ifCond .ne 36, 3) := by decide +kernel
theorem dX12_list_61 : decode cX12_list 61 = .ok (.aload_n 0, 1) := by decide +kernel
theorem dX12_list_62 : decode cX12_list 62 = .ok (.getfield 60, 3) := by decide +kernel
theorem dX12_list_65 : decode cX12_list 65 = .ok (.iload 4, 2) := by decide +kernel
theorem dX12_list_67 : decode cX12_list 67 = .ok (.iaload, 1) := by decide +kernel
theorem dX12_list_68 : decode cX12_list 68 = .ok (.iconst 2, 1) := by decide +kernel
theorem dX12_list_69 : decode cX12_list 69 = .ok (.if_icmp .eq 14, 3) := by decide +kernel
theorem dX12_list_72 : decode cX12_list 72 = .ok (.aload_n 0, 1) := by decide +kernel
theorem dX12_list_73 : decode cX12_list 73 = .ok (.getfield 60, 3) := by decide +kernel
theorem dX12_list_76 : decode cX12_list 76 = .ok (.iload 4, 2) := by decide +kernel
theorem dX12_list_78 : decode cX12_list 78 = .ok (.iaload, 1) := by decide +kernel
theorem dX12_list_79 : decode cX12_list 79 = .ok (.iconst 3, 1) := by decide +kernel
theorem dX12_list_80 : decode cX12_list 80 = .ok (.if_icmp .ne 14, 3) := by decide +kernel
theorem dX12_list_83 : decode cX12_list 83 = .ok (.aload_n 0, 1) := by decide +kernel
theorem dX12_list_84 : decode cX12_list 84 = .ok (.getfield 60, 3) := by decide +kernel
theorem dX12_list_87 : decode cX12_list 87 = .ok (.iload 4, 2) := by decide +kernel
theorem dX12_list_89 : decode cX12_list 89 = .ok (.iconst 1, 1) := by decide +kernel
theorem dX12_list_90 : decode cX12_list 90 = .ok (.iastore, 1) := by decide +kernel
theorem dX12_list_91 : decode cX12_list 91 = .ok (.iinc 3 1, 3) := by decide +kernel
theorem dX12_list_94 : decode cX12_list 94 = .ok (.iinc 4 1, 3) := by decide +kernel
theorem dX12_list_97 : decode cX12_list 97 = .ok (.goto (-70), 3) := by decide +kernel
theorem dX12_list_100 : decode cX12_list 100 = .ok (.aload_n 0, 1) := by decide +kernel
theorem dX12_list_101 : decode cX12_list 101 = .ok (.invokevirtual 208, 3) := by decide +kernel
theorem dX12_list_104 : decode cX12_list 104 = .ok (.istore 4, 2) := by decide +kernel
theorem dX12_list_106 : decode cX12_list 106 = .ok (.iload_n 3, 1) := by decide +kernel
theorem dX12_list_107 : decode cX12_list 107 = .ok (.ireturn, 1) := by decide +kernel
theorem dX12_cutsOff_0 : decode cX12_cutsOff 0 = .ok (.iconst 0, 1) := by decide +kernel
theorem dX12_cutsOff_1 : decode cX12_cutsOff 1 = .ok (.istore_n 2, 1) := by decide +kernel
theorem dX12_cutsOff_2 : decode cX12_cutsOff 2 = .ok (.iload_n 2, 1) := by decide +kernel
theorem dX12_cutsOff_3 : decode cX12_cutsOff 3 = .ok (.bipush 60, 2) := by decide +kernel
theorem dX12_cutsOff_5 : decode cX12_cutsOff 5 = .ok (.if_icmp .ge 76, 3) := by decide +kernel
theorem dX12_cutsOff_8 : decode cX12_cutsOff 8 = .ok (.aload_n 0, 1) := by decide +kernel
theorem dX12_cutsOff_9 : decode cX12_cutsOff 9 = .ok (.getfield 97, 3) := by decide +kernel
theorem dX12_cutsOff_12 : decode cX12_cutsOff 12 = .ok (.iload_n 2, 1) := by decide +kernel
theorem dX12_cutsOff_13 : decode cX12_cutsOff 13 = .ok (.iload_n 2, 1) := by decide +kernel
theorem dX12_cutsOff_14 : decode cX12_cutsOff 14 = .ok (.aload_n 0, 1) := by decide +kernel
theorem dX12_cutsOff_15 : decode cX12_cutsOff 15 = .ok (.getfield 114, 3) := by decide +kernel
theorem dX12_cutsOff_18 : decode cX12_cutsOff 18 = .ok (.if_icmp .ge 55, 3) := by decide +kernel
theorem dX12_cutsOff_21 : decode cX12_cutsOff 21 = .ok (.aload_n 0, 1) := by decide +kernel
theorem dX12_cutsOff_22 : decode cX12_cutsOff 22 = .ok (.getfield 60, 3) := by decide +kernel
theorem dX12_cutsOff_25 : decode cX12_cutsOff 25 = .ok (.iload_n 2, 1) := by decide +kernel
theorem dX12_cutsOff_26 : decode cX12_cutsOff 26 = .ok (.iaload, 1) := by decide +kernel
theorem dX12_cutsOff_27 : decode cX12_cutsOff 27 = .ok (.iconst 3, 1) := by decide +kernel
theorem dX12_cutsOff_28 : decode cX12_cutsOff 28 = .ok (.if_icmp .ne 45, 3) := by decide +kernel
theorem dX12_cutsOff_31 : decode cX12_cutsOff 31 = .ok (.aload_n 0, 1) := by decide +kernel
theorem dX12_cutsOff_32 : decode cX12_cutsOff 32 = .ok (.getfield 39, 3) := by decide +kernel
theorem dX12_cutsOff_35 : decode cX12_cutsOff 35 = .ok (.iload_n 2, 1) := by decide +kernel
theorem dX12_cutsOff_36 : decode cX12_cutsOff 36 = .ok (.iaload, 1) := by decide +kernel
theorem dX12_cutsOff_37 : decode cX12_cutsOff 37 = .ok (.iload_n 1, 1) := by decide +kernel
theorem dX12_cutsOff_38 : decode cX12_cutsOff 38 = .ok (.if_icmp .ne 35, 3) := by decide +kernel
theorem dX12_cutsOff_41 : decode cX12_cutsOff 41 = .ok (.aload_n 0, 1) := by decide +kernel
theorem dX12_cutsOff_42 : decode cX12_cutsOff 42 = .ok (.getfield 23, 3) := by decide +kernel
theorem dX12_cutsOff_45 : decode cX12_cutsOff 45 = .ok (.aload_n 0, 1) := by decide +kernel
theorem dX12_cutsOff_46 : decode cX12_cutsOff 46 = .ok (.getfield 33, 3) := by decide +kernel
theorem dX12_cutsOff_49 : decode cX12_cutsOff 49 = .ok (.iload_n 2, 1) := by decide +kernel
theorem dX12_cutsOff_50 : decode cX12_cutsOff 50 = .ok (.iaload, 1) := by decide +kernel
theorem dX12_cutsOff_51 : decode cX12_cutsOff 51 = .ok (.baload, 1) := by decide +kernel
theorem dX12_cutsOff_52 : decode cX12_cutsOff 52 = .ok (.ifCond .ne 21, 3) := by decide +kernel
theorem dX12_cutsOff_55 : decode cX12_cutsOff 55 = .ok (.aload_n 0, 1) := by decide +kernel
theorem dX12_cutsOff_56 : decode cX12_cutsOff 56 = .ok (.getfield 23, 3) := by decide +kernel
theorem dX12_cutsOff_59 : decode cX12_cutsOff 59 = .ok (.aload_n 0, 1) := by decide +kernel
theorem dX12_cutsOff_60 : decode cX12_cutsOff 60 = .ok (.getfield 36, 3) := by decide +kernel
theorem dX12_cutsOff_63 : decode cX12_cutsOff 63 = .ok (.iload_n 2, 1) := by decide +kernel
theorem dX12_cutsOff_64 : decode cX12_cutsOff 64 = .ok (.iaload, 1) := by decide +kernel
theorem dX12_cutsOff_65 : decode cX12_cutsOff 65 = .ok (.baload, 1) := by decide +kernel
theorem dX12_cutsOff_66 : decode cX12_cutsOff 66 = .ok (.ifCond .ne 7, 3) := by decide +kernel
theorem dX12_cutsOff_69 : decode cX12_cutsOff 69 = .ok (.iconst 1, 1) := by decide +kernel
theorem dX12_cutsOff_70 : decode cX12_cutsOff 70 = .ok (.goto 4, 3) := by decide +kernel
theorem dX12_cutsOff_73 : decode cX12_cutsOff 73 = .ok (.iconst 0, 1) := by decide +kernel
theorem dX12_cutsOff_74 : decode cX12_cutsOff 74 = .ok (.bastore, 1) := by decide +kernel
theorem dX12_cutsOff_75 : decode cX12_cutsOff 75 = .ok (.iinc 2 1, 3) := by decide +kernel
theorem dX12_cutsOff_78 : decode cX12_cutsOff 78 = .ok (.goto (-76), 3) := by decide +kernel
theorem dX12_cutsOff_81 : decode cX12_cutsOff 81 = .ok (.aload_n 0, 1) := by decide +kernel
theorem dX12_cutsOff_82 : decode cX12_cutsOff 82 = .ok (.iload_n 1, 1) := by decide +kernel
theorem dX12_cutsOff_83 : decode cX12_cutsOff 83 = .ok (.iconst 0, 1) := by decide +kernel
theorem dX12_cutsOff_84 : decode cX12_cutsOff 84 = .ok (.invokevirtual 224, 3) := by decide +kernel
theorem dX12_cutsOff_87 : decode cX12_cutsOff 87 = .ok (.ireturn, 1) := by decide +kernel
theorem dX12_charges_0 : decode cX12_charges 0 = .ok (.aload_n 0, 1) := by decide +kernel
theorem dX12_charges_1 : decode cX12_charges 1 = .ok (.getfield 7, 3) := by decide +kernel
theorem dX12_charges_4 : decode cX12_charges 4 = .ok (.iload_n 1, 1) := by decide +kernel
theorem dX12_charges_5 : decode cX12_charges 5 = .ok (.iload_n 2, 1) := by decide +kernel
theorem dX12_charges_6 : decode cX12_charges 6 = .ok (.invokestatic 120, 3) := by decide +kernel
theorem dX12_charges_9 : decode cX12_charges 9 = .ok (.laload, 1) := by decide +kernel
theorem dX12_charges_10 : decode cX12_charges 10 = .ok (.lconst 0, 1) := by decide +kernel
theorem dX12_charges_11 : decode cX12_charges 11 = .ok (.lcmp, 1) := by decide +kernel
theorem dX12_charges_12 : decode cX12_charges 12 = .ok (.ifCond .ge 17, 3) := by decide +kernel
theorem dX12_charges_15 : decode cX12_charges 15 = .ok (.aload_n 0, 1) := by decide +kernel
theorem dX12_charges_16 : decode cX12_charges 16 = .ok (.getfield 7, 3) := by decide +kernel
theorem dX12_charges_19 : decode cX12_charges 19 = .ok (.iload_n 1, 1) := by decide +kernel
theorem dX12_charges_20 : decode cX12_charges 20 = .ok (.iload_n 2, 1) := by decide +kernel
theorem dX12_charges_21 : decode cX12_charges 21 = .ok (.invokestatic 120, 3) := by decide +kernel
theorem dX12_charges_24 : decode cX12_charges 24 = .ok (.laload, 1) := by decide +kernel
theorem dX12_charges_25 : decode cX12_charges 25 = .ok (.lneg, 1) := by decide +kernel
theorem dX12_charges_26 : decode cX12_charges 26 = .ok (.goto 4, 3) := by decide +kernel
theorem dX12_charges_29 : decode cX12_charges 29 = .ok (.lconst 0, 1) := by decide +kernel
theorem dX12_charges_30 : decode cX12_charges 30 = .ok (.lstore_n 3, 1) := by decide +kernel
theorem dX12_charges_31 : decode cX12_charges 31 = .ok (.iconst 0, 1) := by decide +kernel
theorem dX12_charges_32 : decode cX12_charges 32 = .ok (.istore 5, 2) := by decide +kernel
theorem dX12_charges_34 : decode cX12_charges 34 = .ok (.iconst 0, 1) := by decide +kernel
theorem dX12_charges_35 : decode cX12_charges 35 = .ok (.istore 6, 2) := by decide +kernel
theorem dX12_charges_37 : decode cX12_charges 37 = .ok (.iload 6, 2) := by decide +kernel
theorem dX12_charges_39 : decode cX12_charges 39 = .ok (.aload_n 0, 1) := by decide +kernel
theorem dX12_charges_40 : decode cX12_charges 40 = .ok (.getfield 114, 3) := by decide +kernel
theorem dX12_charges_43 : decode cX12_charges 43 = .ok (.if_icmp .ge 92, 3) := by decide +kernel
theorem dX12_charges_46 : decode cX12_charges 46 = .ok (.aload_n 0, 1) := by decide +kernel
theorem dX12_charges_47 : decode cX12_charges 47 = .ok (.getfield 60, 3) := by decide +kernel
theorem dX12_charges_50 : decode cX12_charges 50 = .ok (.iload 6, 2) := by decide +kernel
theorem dX12_charges_52 : decode cX12_charges 52 = .ok (.iaload, 1) := by decide +kernel
theorem dX12_charges_53 : decode cX12_charges 53 = .ok (.iconst 4, 1) := by decide +kernel
theorem dX12_charges_54 : decode cX12_charges 54 = .ok (.if_icmp .ne 43, 3) := by decide +kernel
theorem dX12_charges_57 : decode cX12_charges 57 = .ok (.aload_n 0, 1) := by decide +kernel
theorem dX12_charges_58 : decode cX12_charges 58 = .ok (.getfield 72, 3) := by decide +kernel
theorem dX12_charges_61 : decode cX12_charges 61 = .ok (.iload 6, 2) := by decide +kernel
theorem dX12_charges_63 : decode cX12_charges 63 = .ok (.iaload, 1) := by decide +kernel
theorem dX12_charges_64 : decode cX12_charges 64 = .ok (.aload_n 0, 1) := by decide +kernel
theorem dX12_charges_65 : decode cX12_charges 65 = .ok (.getfield 135, 3) := by decide +kernel
theorem dX12_charges_68 : decode cX12_charges 68 = .ok (.if_icmp .ne 29, 3) := by decide +kernel
theorem dX12_charges_71 : decode cX12_charges 71 = .ok (.aload_n 0, 1) := by decide +kernel
theorem dX12_charges_72 : decode cX12_charges 72 = .ok (.getfield 33, 3) := by decide +kernel
theorem dX12_charges_75 : decode cX12_charges 75 = .ok (.iload 6, 2) := by decide +kernel
theorem dX12_charges_77 : decode cX12_charges 77 = .ok (.iaload, 1) := by decide +kernel
theorem dX12_charges_78 : decode cX12_charges 78 = .ok (.iload_n 1, 1) := by decide +kernel
theorem dX12_charges_79 : decode cX12_charges 79 = .ok (.if_icmp .ne 18, 3) := by decide +kernel
theorem dX12_charges_82 : decode cX12_charges 82 = .ok (.aload_n 0, 1) := by decide +kernel
theorem dX12_charges_83 : decode cX12_charges 83 = .ok (.getfield 39, 3) := by decide +kernel
theorem dX12_charges_86 : decode cX12_charges 86 = .ok (.iload 6, 2) := by decide +kernel
theorem dX12_charges_88 : decode cX12_charges 88 = .ok (.iaload, 1) := by decide +kernel
theorem dX12_charges_89 : decode cX12_charges 89 = .ok (.iload_n 2, 1) := by decide +kernel
theorem dX12_charges_90 : decode cX12_charges 90 = .ok (.if_icmp .ne 7, 3) := by decide +kernel
theorem dX12_charges_93 : decode cX12_charges 93 = .ok (.iconst 1, 1) := by decide +kernel
theorem dX12_charges_94 : decode cX12_charges 94 = .ok (.goto 4, 3) := by decide +kernel
theorem dX12_charges_97 : decode cX12_charges 97 = .ok (.iconst 0, 1) := by decide +kernel
theorem dX12_charges_98 : decode cX12_charges 98 = .ok (.istore 7, 2) := by decide +kernel
theorem dX12_charges_100 : decode cX12_charges 100 = .ok (.iload 5, 2) := by decide +kernel
theorem dX12_charges_102 : decode cX12_charges 102 = .ok (.iload 7, 2) := by decide +kernel
theorem dX12_charges_104 : decode cX12_charges 104 = .ok (.ifCond .ne 7, 3) := by decide +kernel
theorem dX12_charges_107 : decode cX12_charges 107 = .ok (.iconst 0, 1) := by decide +kernel
theorem dX12_charges_108 : decode cX12_charges 108 = .ok (.goto 18, 3) := by decide +kernel
theorem dX12_charges_111 : decode cX12_charges 111 = .ok (.aload_n 0, 1) := by decide +kernel
theorem dX12_charges_112 : decode cX12_charges 112 = .ok (.getfield 51, 3) := by decide +kernel
theorem dX12_charges_115 : decode cX12_charges 115 = .ok (.iload 6, 2) := by decide +kernel
theorem dX12_charges_117 : decode cX12_charges 117 = .ok (.baload, 1) := by decide +kernel
theorem dX12_charges_118 : decode cX12_charges 118 = .ok (.ifCond .eq 7, 3) := by decide +kernel
theorem dX12_charges_121 : decode cX12_charges 121 = .ok (.iconst 2, 1) := by decide +kernel
theorem dX12_charges_122 : decode cX12_charges 122 = .ok (.goto 4, 3) := by decide +kernel
theorem dX12_charges_125 : decode cX12_charges 125 = .ok (.iconst 1, 1) := by decide +kernel
theorem dX12_charges_126 : decode cX12_charges 126 = .ok (.iadd, 1) := by decide +kernel
theorem dX12_charges_127 : decode cX12_charges 127 = .ok (.istore 5, 2) := by decide +kernel
theorem dX12_charges_129 : decode cX12_charges 129 = .ok (.iinc 6 1, 3) := by decide +kernel
theorem dX12_charges_132 : decode cX12_charges 132 = .ok (.goto (-95), 3) := by decide +kernel
theorem dX12_charges_135 : decode cX12_charges 135 = .ok (.lload_n 3, 1) := by decide +kernel
theorem dX12_charges_136 : decode cX12_charges 136 = .ok (.ldc2_w 228, 3) := by decide +kernel
theorem dX12_charges_139 : decode cX12_charges 139 = .ok (.ladd, 1) := by decide +kernel
theorem dX12_charges_140 : decode cX12_charges 140 = .ok (.ldc2_w 230, 3) := by decide +kernel
theorem dX12_charges_143 : decode cX12_charges 143 = .ok (.ldiv, 1) := by decide +kernel
theorem dX12_charges_144 : decode cX12_charges 144 = .ok (.lstore 6, 2) := by decide +kernel
theorem dX12_charges_146 : decode cX12_charges 146 = .ok (.iload 5, 2) := by decide +kernel
theorem dX12_charges_148 : decode cX12_charges 148 = .ok (.ifCond .le 15, 3) := by decide +kernel
theorem dX12_charges_151 : decode cX12_charges 151 = .ok (.aload_n 0, 1) := by decide +kernel
theorem dX12_charges_152 : decode cX12_charges 152 = .ok (.iload_n 1, 1) := by decide +kernel
theorem dX12_charges_153 : decode cX12_charges 153 = .ok (.bipush 6, 2) := by decide +kernel
theorem dX12_charges_155 : decode cX12_charges 155 = .ok (.iload_n 2, 1) := by decide +kernel
theorem dX12_charges_156 : decode cX12_charges 156 = .ok (.iload 5, 2) := by decide +kernel
theorem dX12_charges_158 : decode cX12_charges 158 = .ok (.i2l, 1) := by decide +kernel
theorem dX12_charges_159 : decode cX12_charges 159 = .ok (.iconst (-1), 1) := by decide +kernel
theorem dX12_charges_160 : decode cX12_charges 160 = .ok (.invokevirtual 141, 3) := by decide +kernel
theorem dX12_charges_163 : decode cX12_charges 163 = .ok (.lload 6, 2) := by decide +kernel
theorem dX12_charges_165 : decode cX12_charges 165 = .ok (.lconst 0, 1) := by decide +kernel
theorem dX12_charges_166 : decode cX12_charges 166 = .ok (.lcmp, 1) := by decide +kernel
theorem dX12_charges_167 : decode cX12_charges 167 = .ok (.ifCond .le 14, 3) := by decide +kernel
theorem dX12_charges_170 : decode cX12_charges 170 = .ok (.aload_n 0, 1) := by decide +kernel
theorem dX12_charges_171 : decode cX12_charges 171 = .ok (.iload_n 1, 1) := by decide +kernel
theorem dX12_charges_172 : decode cX12_charges 172 = .ok (.bipush 6, 2) := by decide +kernel
theorem dX12_charges_174 : decode cX12_charges 174 = .ok (.iload_n 2, 1) := by decide +kernel
theorem dX12_charges_175 : decode cX12_charges 175 = .ok (.lload 6, 2) := by decide +kernel
theorem dX12_charges_177 : decode cX12_charges 177 = .ok (.iconst (-1), 1) := by decide +kernel
theorem dX12_charges_178 : decode cX12_charges 178 = .ok (.invokevirtual 141, 3) := by decide +kernel
theorem dX12_charges_181 : decode cX12_charges 181 = .ok (.return_, 1) := by decide +kernel
theorem dX12_endDay_0 : decode cX12_endDay 0 = .ok (.aload_n 0, 1) := by decide +kernel
theorem dX12_endDay_1 : decode cX12_endDay 1 = .ok (.aload_n 0, 1) := by decide +kernel
theorem dX12_endDay_2 : decode cX12_endDay 2 = .ok (.getfield 135, 3) := by decide +kernel
theorem dX12_endDay_5 : decode cX12_endDay 5 = .ok (.sipush 998, 3) := by decide +kernel
theorem dX12_endDay_8 : decode cX12_endDay 8 = .ok (.if_icmp .ge 7, 3) := by decide +kernel
theorem dX12_endDay_11 : decode cX12_endDay 11 = .ok (.iconst 1, 1) := by decide +kernel
theorem dX12_endDay_12 : decode cX12_endDay 12 = .ok (.goto 4, 3) := by decide +kernel
theorem dX12_endDay_15 : decode cX12_endDay 15 = .ok (.iconst 0, 1) := by decide +kernel
theorem dX12_endDay_16 : decode cX12_endDay 16 = .ok (.iconst 1, 1) := by decide +kernel
theorem dX12_endDay_17 : decode cX12_endDay 17 = .ok (.iconst 1, 1) := by decide +kernel
theorem dX12_endDay_18 : decode cX12_endDay 18 = .ok (.invokevirtual 197, 3) := by decide +kernel
theorem dX12_endDay_21 : decode cX12_endDay 21 = .ok (.ifCond .ne 5, 3) := by decide +kernel
theorem dX12_endDay_24 : decode cX12_endDay 24 = .ok (.iconst 0, 1) := by decide +kernel
theorem dX12_endDay_25 : decode cX12_endDay 25 = .ok (.ireturn, 1) := by decide +kernel
theorem dX12_endDay_26 : decode cX12_endDay 26 = .ok (.iconst 0, 1) := by decide +kernel
theorem dX12_endDay_27 : decode cX12_endDay 27 = .ok (.istore_n 1, 1) := by decide +kernel
theorem dX12_endDay_28 : decode cX12_endDay 28 = .ok (.iconst 0, 1) := by decide +kernel
theorem dX12_endDay_29 : decode cX12_endDay 29 = .ok (.istore_n 2, 1) := by decide +kernel
theorem dX12_endDay_30 : decode cX12_endDay 30 = .ok (.iload_n 2, 1) := by decide +kernel
theorem dX12_endDay_31 : decode cX12_endDay 31 = .ok (.iconst 3, 1) := by decide +kernel
theorem dX12_endDay_32 : decode cX12_endDay 32 = .ok (.if_icmp .ge 33, 3) := by decide +kernel
theorem dX12_endDay_35 : decode cX12_endDay 35 = .ok (.iload_n 1, 1) := by decide +kernel
theorem dX12_endDay_36 : decode cX12_endDay 36 = .ok (.aload_n 0, 1) := by decide +kernel
theorem dX12_endDay_37 : decode cX12_endDay 37 = .ok (.iload_n 2, 1) := by decide +kernel
theorem dX12_endDay_38 : decode cX12_endDay 38 = .ok (.aload_n 0, 1) := by decide +kernel
theorem dX12_endDay_39 : decode cX12_endDay 39 = .ok (.getfield 135, 3) := by decide +kernel
theorem dX12_endDay_42 : decode cX12_endDay 42 = .ok (.invokevirtual 138, 3) := by decide +kernel
theorem dX12_endDay_45 : decode cX12_endDay 45 = .ok (.ifCond .eq 11, 3) := by decide +kernel
theorem dX12_endDay_48 : decode cX12_endDay 48 = .ok (.aload_n 0, 1) := by decide +kernel
theorem dX12_endDay_49 : decode cX12_endDay 49 = .ok (.iload_n 2, 1) := by decide +kernel
theorem dX12_endDay_50 : decode cX12_endDay 50 = .ok (.invokevirtual 232, 3) := by decide +kernel
theorem dX12_endDay_53 : decode cX12_endDay 53 = .ok (.goto 4, 3) := by decide +kernel
theorem dX12_endDay_56 : decode cX12_endDay 56 = .ok (.iconst 0, 1) := by decide +kernel
theorem dX12_endDay_57 : decode cX12_endDay 57 = .ok (.iadd, 1) := by decide +kernel
theorem dX12_endDay_58 : decode cX12_endDay 58 = .ok (.istore_n 1, 1) := by decide +kernel
theorem dX12_endDay_59 : decode cX12_endDay 59 = .ok (.iinc 2 1, 3) := by decide +kernel
theorem dX12_endDay_62 : decode cX12_endDay 62 = .ok (.goto (-32), 3) := by decide +kernel
theorem dX12_endDay_65 : decode cX12_endDay 65 = .ok (.iconst 0, 1) := by decide +kernel
theorem dX12_endDay_66 : decode cX12_endDay 66 = .ok (.istore_n 2, 1) := by decide +kernel
theorem dX12_endDay_67 : decode cX12_endDay 67 = .ok (.iload_n 2, 1) := by decide +kernel
theorem dX12_endDay_68 : decode cX12_endDay 68 = .ok (.aload_n 0, 1) := by decide +kernel
theorem dX12_endDay_69 : decode cX12_endDay 69 = .ok (.getfield 114, 3) := by decide +kernel
theorem dX12_endDay_72 : decode cX12_endDay 72 = .ok (.if_icmp .ge 61, 3) := by decide +kernel
theorem dX12_endDay_75 : decode cX12_endDay 75 = .ok (.aload_n 0, 1) := by decide +kernel
theorem dX12_endDay_76 : decode cX12_endDay 76 = .ok (.getfield 60, 3) := by decide +kernel
theorem dX12_endDay_79 : decode cX12_endDay 79 = .ok (.iload_n 2, 1) := by decide +kernel
theorem dX12_endDay_80 : decode cX12_endDay 80 = .ok (.iaload, 1) := by decide +kernel
theorem dX12_endDay_81 : decode cX12_endDay 81 = .ok (.iconst 2, 1) := by decide +kernel
theorem dX12_endDay_82 : decode cX12_endDay 82 = .ok (.if_icmp .eq 13, 3) := by decide +kernel
theorem dX12_endDay_85 : decode cX12_endDay 85 = .ok (.aload_n 0, 1) := by decide +kernel
theorem dX12_endDay_86 : decode cX12_endDay 86 = .ok (.getfield 60, 3) := by decide +kernel
theorem dX12_endDay_89 : decode cX12_endDay 89 = .ok (.iload_n 2, 1) := by decide +kernel
theorem dX12_endDay_90 : decode cX12_endDay 90 = .ok (.iaload, 1) := by decide +kernel
theorem dX12_endDay_91 : decode cX12_endDay 91 = .ok (.iconst 3, 1) := by decide +kernel
theorem dX12_endDay_92 : decode cX12_endDay 92 = .ok (.if_icmp .ne 35, 3) := by decide +kernel
theorem dX12_endDay_95 : decode cX12_endDay 95 = .ok (.aload_n 0, 1) := by decide +kernel
theorem dX12_endDay_96 : decode cX12_endDay 96 = .ok (.getfield 57, 3) := by decide +kernel
theorem dX12_endDay_99 : decode cX12_endDay 99 = .ok (.iload_n 2, 1) := by decide +kernel
theorem dX12_endDay_100 : decode cX12_endDay 100 = .ok (.baload, 1) := by decide +kernel
theorem dX12_endDay_101 : decode cX12_endDay 101 = .ok (.ifCond .ne 26, 3) := by decide +kernel
theorem dX12_endDay_104 : decode cX12_endDay 104 = .ok (.aload_n 0, 1) := by decide +kernel
theorem dX12_endDay_105 : decode cX12_endDay 105 = .ok (.aload_n 0, 1) := by decide +kernel
theorem dX12_endDay_106 : decode cX12_endDay 106 = .ok (.getfield 39, 3) := by decide +kernel
theorem dX12_endDay_109 : decode cX12_endDay 109 = .ok (.iload_n 2, 1) := by decide +kernel
theorem dX12_endDay_110 : decode cX12_endDay 110 = .ok (.iaload, 1) := by decide +kernel
theorem dX12_endDay_111 : decode cX12_endDay 111 = .ok (.aload_n 0, 1) := by decide +kernel
theorem dX12_endDay_112 : decode cX12_endDay 112 = .ok (.getfield 135, 3) := by decide +kernel
theorem dX12_endDay_115 : decode cX12_endDay 115 = .ok (.invokevirtual 138, 3) := by decide +kernel
theorem dX12_endDay_118 : decode cX12_endDay 118 = .ok (.ifCond .eq 9, 3) := by decide +kernel
theorem dX12_endDay_121 : decode cX12_endDay 121 = .ok (.aload_n 0, 1) := by decide +kernel
theorem dX12_endDay_122 : decode cX12_endDay 122 = .ok (.iload_n 2, 1) := by decide +kernel
theorem dX12_endDay_123 : decode cX12_endDay 123 = .ok (.invokevirtual 220, 3) := by decide +kernel
theorem dX12_endDay_126 : decode cX12_endDay 126 = .ok (.istore_n 3, 1) := by decide +kernel
theorem dX12_endDay_127 : decode cX12_endDay 127 = .ok (.iinc 2 1, 3) := by decide +kernel
theorem dX12_endDay_130 : decode cX12_endDay 130 = .ok (.goto (-63), 3) := by decide +kernel
theorem dX12_endDay_133 : decode cX12_endDay 133 = .ok (.iconst 0, 1) := by decide +kernel
theorem dX12_endDay_134 : decode cX12_endDay 134 = .ok (.istore_n 2, 1) := by decide +kernel
theorem dX12_endDay_135 : decode cX12_endDay 135 = .ok (.iload_n 2, 1) := by decide +kernel
theorem dX12_endDay_136 : decode cX12_endDay 136 = .ok (.bipush 18, 2) := by decide +kernel
theorem dX12_endDay_138 : decode cX12_endDay 138 = .ok (.if_icmp .ge 19, 3) := by decide +kernel
theorem dX12_endDay_141 : decode cX12_endDay 141 = .ok (.aload_n 0, 1) := by decide +kernel
theorem dX12_endDay_142 : decode cX12_endDay 142 = .ok (.iload_n 2, 1) := by decide +kernel
theorem dX12_endDay_143 : decode cX12_endDay 143 = .ok (.iconst 3, 1) := by decide +kernel
theorem dX12_endDay_144 : decode cX12_endDay 144 = .ok (.idiv, 1) := by decide +kernel
theorem dX12_endDay_145 : decode cX12_endDay 145 = .ok (.iload_n 2, 1) := by decide +kernel
theorem dX12_endDay_146 : decode cX12_endDay 146 = .ok (.iconst 3, 1) := by decide +kernel
theorem dX12_endDay_147 : decode cX12_endDay 147 = .ok (.irem, 1) := by decide +kernel
theorem dX12_endDay_148 : decode cX12_endDay 148 = .ok (.invokevirtual 235, 3) := by decide +kernel
theorem dX12_endDay_151 : decode cX12_endDay 151 = .ok (.iinc 2 1, 3) := by decide +kernel
theorem dX12_endDay_154 : decode cX12_endDay 154 = .ok (.goto (-19), 3) := by decide +kernel
theorem dX12_endDay_157 : decode cX12_endDay 157 = .ok (.aload_n 0, 1) := by decide +kernel
theorem dX12_endDay_158 : decode cX12_endDay 158 = .ok (.dup, 1) := by decide +kernel
theorem dX12_endDay_159 : decode cX12_endDay 159 = .ok (.getfield 135, 3) := by decide +kernel
theorem dX12_endDay_162 : decode cX12_endDay 162 = .ok (.iconst 1, 1) := by decide +kernel
theorem dX12_endDay_163 : decode cX12_endDay 163 = .ok (.iadd, 1) := by decide +kernel
theorem dX12_endDay_164 : decode cX12_endDay 164 = .ok (.putfield 135, 3) := by decide +kernel
theorem dX12_endDay_167 : decode cX12_endDay 167 = .ok (.iconst 0, 1) := by decide +kernel
theorem dX12_endDay_168 : decode cX12_endDay 168 = .ok (.istore_n 2, 1) := by decide +kernel
theorem dX12_endDay_169 : decode cX12_endDay 169 = .ok (.iload_n 2, 1) := by decide +kernel
theorem dX12_endDay_170 : decode cX12_endDay 170 = .ok (.bipush 108, 2) := by decide +kernel
theorem dX12_endDay_172 : decode cX12_endDay 172 = .ok (.if_icmp .ge 16, 3) := by decide +kernel
theorem dX12_endDay_175 : decode cX12_endDay 175 = .ok (.aload_n 0, 1) := by decide +kernel
theorem dX12_endDay_176 : decode cX12_endDay 176 = .ok (.getfield 20, 3) := by decide +kernel
theorem dX12_endDay_179 : decode cX12_endDay 179 = .ok (.iload_n 2, 1) := by decide +kernel
theorem dX12_endDay_180 : decode cX12_endDay 180 = .ok (.lconst 0, 1) := by decide +kernel
theorem dX12_endDay_181 : decode cX12_endDay 181 = .ok (.lastore, 1) := by decide +kernel
theorem dX12_endDay_182 : decode cX12_endDay 182 = .ok (.iinc 2 1, 3) := by decide +kernel
theorem dX12_endDay_185 : decode cX12_endDay 185 = .ok (.goto (-16), 3) := by decide +kernel
theorem dX12_endDay_188 : decode cX12_endDay 188 = .ok (.iconst 0, 1) := by decide +kernel
theorem dX12_endDay_189 : decode cX12_endDay 189 = .ok (.istore_n 2, 1) := by decide +kernel
theorem dX12_endDay_190 : decode cX12_endDay 190 = .ok (.iload_n 2, 1) := by decide +kernel
theorem dX12_endDay_191 : decode cX12_endDay 191 = .ok (.aload_n 0, 1) := by decide +kernel
theorem dX12_endDay_192 : decode cX12_endDay 192 = .ok (.getfield 114, 3) := by decide +kernel
theorem dX12_endDay_195 : decode cX12_endDay 195 = .ok (.if_icmp .ge 53, 3) := by decide +kernel
theorem dX12_endDay_198 : decode cX12_endDay 198 = .ok (.aload_n 0, 1) := by decide +kernel
theorem dX12_endDay_199 : decode cX12_endDay 199 = .ok (.getfield 60, 3) := by decide +kernel
theorem dX12_endDay_202 : decode cX12_endDay 202 = .ok (.iload_n 2, 1) := by decide +kernel
theorem dX12_endDay_203 : decode cX12_endDay 203 = .ok (.iaload, 1) := by decide +kernel
theorem dX12_endDay_204 : decode cX12_endDay 204 = .ok (.ifCond .ne 38, 3) := by decide +kernel
theorem dX12_endDay_207 : decode cX12_endDay 207 = .ok (.aload_n 0, 1) := by decide +kernel
theorem dX12_endDay_208 : decode cX12_endDay 208 = .ok (.getfield 54, 3) := by decide +kernel
theorem dX12_endDay_211 : decode cX12_endDay 211 = .ok (.iload_n 2, 1) := by decide +kernel
theorem dX12_endDay_212 : decode cX12_endDay 212 = .ok (.iaload, 1) := by decide +kernel
theorem dX12_endDay_213 : decode cX12_endDay 213 = .ok (.aload_n 0, 1) := by decide +kernel
theorem dX12_endDay_214 : decode cX12_endDay 214 = .ok (.getfield 135, 3) := by decide +kernel
theorem dX12_endDay_217 : decode cX12_endDay 217 = .ok (.if_icmp .gt 25, 3) := by decide +kernel
theorem dX12_endDay_220 : decode cX12_endDay 220 = .ok (.aload_n 0, 1) := by decide +kernel
theorem dX12_endDay_221 : decode cX12_endDay 221 = .ok (.aload_n 0, 1) := by decide +kernel
theorem dX12_endDay_222 : decode cX12_endDay 222 = .ok (.getfield 39, 3) := by decide +kernel
theorem dX12_endDay_225 : decode cX12_endDay 225 = .ok (.iload_n 2, 1) := by decide +kernel
theorem dX12_endDay_226 : decode cX12_endDay 226 = .ok (.iaload, 1) := by decide +kernel
theorem dX12_endDay_227 : decode cX12_endDay 227 = .ok (.aload_n 0, 1) := by decide +kernel
theorem dX12_endDay_228 : decode cX12_endDay 228 = .ok (.getfield 135, 3) := by decide +kernel
theorem dX12_endDay_231 : decode cX12_endDay 231 = .ok (.invokevirtual 138, 3) := by decide +kernel
theorem dX12_endDay_234 : decode cX12_endDay 234 = .ok (.ifCond .eq 8, 3) := by decide +kernel
theorem dX12_endDay_237 : decode cX12_endDay 237 = .ok (.aload_n 0, 1) := by decide +kernel
theorem dX12_endDay_238 : decode cX12_endDay 238 = .ok (.iload_n 2, 1) := by decide +kernel
theorem dX12_endDay_239 : decode cX12_endDay 239 = .ok (.invokevirtual 179, 3) := by decide +kernel
theorem dX12_endDay_242 : decode cX12_endDay 242 = .ok (.iinc 2 1, 3) := by decide +kernel
theorem dX12_endDay_245 : decode cX12_endDay 245 = .ok (.goto (-55), 3) := by decide +kernel
theorem dX12_endDay_248 : decode cX12_endDay 248 = .ok (.iload_n 1, 1) := by decide +kernel
theorem dX12_endDay_249 : decode cX12_endDay 249 = .ok (.aload_n 0, 1) := by decide +kernel
theorem dX12_endDay_250 : decode cX12_endDay 250 = .ok (.invokevirtual 208, 3) := by decide +kernel
theorem dX12_endDay_253 : decode cX12_endDay 253 = .ok (.iadd, 1) := by decide +kernel
theorem dX12_endDay_254 : decode cX12_endDay 254 = .ok (.ireturn, 1) := by decide +kernel
theorem dX12_today_0 : decode cX12_today 0 = .ok (.aload_n 0, 1) := by decide +kernel
theorem dX12_today_1 : decode cX12_today 1 = .ok (.iconst 0, 1) := by decide +kernel
theorem dX12_today_2 : decode cX12_today 2 = .ok (.putfield 106, 3) := by decide +kernel
theorem dX12_today_5 : decode cX12_today 5 = .ok (.aload_n 0, 1) := by decide +kernel
theorem dX12_today_6 : decode cX12_today 6 = .ok (.getfield 135, 3) := by decide +kernel
theorem dX12_today_9 : decode cX12_today 9 = .ok (.ireturn, 1) := by decide +kernel
theorem dX12_isAccount_0 : decode cX12_isAccount 0 = .ok (.iload_n 0, 1) := by decide +kernel
theorem dX12_isAccount_1 : decode cX12_isAccount 1 = .ok (.iconst 0, 1) := by decide +kernel
theorem dX12_isAccount_2 : decode cX12_isAccount 2 = .ok (.bipush 6, 2) := by decide +kernel
theorem dX12_isAccount_4 : decode cX12_isAccount 4 = .ok (.invokestatic 110, 3) := by decide +kernel
theorem dX12_isAccount_7 : decode cX12_isAccount 7 = .ok (.ireturn, 1) := by decide +kernel
theorem dX12_account_0 : decode cX12_account 0 = .ok (.aload_n 0, 1) := by decide +kernel
theorem dX12_account_1 : decode cX12_account 1 = .ok (.iload_n 1, 1) := by decide +kernel
theorem dX12_account_2 : decode cX12_account 2 = .ok (.invokestatic 239, 3) := by decide +kernel
theorem dX12_account_5 : decode cX12_account 5 = .ok (.ifCond .eq 14, 3) := by decide +kernel
theorem dX12_account_8 : decode cX12_account 8 = .ok (.iload_n 2, 1) := by decide +kernel
theorem dX12_account_9 : decode cX12_account 9 = .ok (.invokestatic 186, 3) := by decide +kernel
theorem dX12_account_12 : decode cX12_account 12 = .ok (.ifCond .eq 7, 3) := by decide +kernel
theorem dX12_account_15 : decode cX12_account 15 = .ok (.iconst 1, 1) := by decide +kernel
theorem dX12_account_16 : decode cX12_account 16 = .ok (.goto 4, 3) := by decide +kernel
theorem dX12_account_19 : decode cX12_account 19 = .ok (.iconst 0, 1) := by decide +kernel
theorem dX12_account_20 : decode cX12_account 20 = .ok (.iconst 1, 1) := by decide +kernel
theorem dX12_account_21 : decode cX12_account 21 = .ok (.iconst 1, 1) := by decide +kernel
theorem dX12_account_22 : decode cX12_account 22 = .ok (.invokevirtual 197, 3) := by decide +kernel
theorem dX12_account_25 : decode cX12_account 25 = .ok (.ifCond .eq 16, 3) := by decide +kernel
theorem dX12_account_28 : decode cX12_account 28 = .ok (.aload_n 0, 1) := by decide +kernel
theorem dX12_account_29 : decode cX12_account 29 = .ok (.getfield 7, 3) := by decide +kernel
theorem dX12_account_32 : decode cX12_account 32 = .ok (.iload_n 1, 1) := by decide +kernel
theorem dX12_account_33 : decode cX12_account 33 = .ok (.iload_n 2, 1) := by decide +kernel
theorem dX12_account_34 : decode cX12_account 34 = .ok (.invokestatic 120, 3) := by decide +kernel
theorem dX12_account_37 : decode cX12_account 37 = .ok (.laload, 1) := by decide +kernel
theorem dX12_account_38 : decode cX12_account 38 = .ok (.goto 4, 3) := by decide +kernel
theorem dX12_account_41 : decode cX12_account 41 = .ok (.lconst 0, 1) := by decide +kernel
theorem dX12_account_42 : decode cX12_account 42 = .ok (.lreturn, 1) := by decide +kernel
theorem dX12_accountAnew_0 : decode cX12_accountAnew 0 = .ok (.aload_n 0, 1) := by decide +kernel
theorem dX12_accountAnew_1 : decode cX12_accountAnew 1 = .ok (.iload_n 1, 1) := by decide +kernel
theorem dX12_accountAnew_2 : decode cX12_accountAnew 2 = .ok (.invokestatic 239, 3) := by decide +kernel
theorem dX12_accountAnew_5 : decode cX12_accountAnew 5 = .ok (.ifCond .eq 14, 3) := by decide +kernel
theorem dX12_accountAnew_8 : decode cX12_accountAnew 8 = .ok (.iload_n 2, 1) := by decide +kernel
theorem dX12_accountAnew_9 : decode cX12_accountAnew 9 = .ok (.invokestatic 186, 3) := by decide +kernel
theorem dX12_accountAnew_12 : decode cX12_accountAnew 12 = .ok (.ifCond .eq 7, 3) := by decide +kernel
theorem dX12_accountAnew_15 : decode cX12_accountAnew 15 = .ok (.iconst 1, 1) := by decide +kernel
theorem dX12_accountAnew_16 : decode cX12_accountAnew 16 = .ok (.goto 4, 3) := by decide +kernel
theorem dX12_accountAnew_19 : decode cX12_accountAnew 19 = .ok (.iconst 0, 1) := by decide +kernel
theorem dX12_accountAnew_20 : decode cX12_accountAnew 20 = .ok (.iconst 1, 1) := by decide +kernel
theorem dX12_accountAnew_21 : decode cX12_accountAnew 21 = .ok (.iconst 1, 1) := by decide +kernel
theorem dX12_accountAnew_22 : decode cX12_accountAnew 22 = .ok (.invokevirtual 197, 3) := by decide +kernel
theorem dX12_accountAnew_25 : decode cX12_accountAnew 25 = .ok (.ifCond .ne 5, 3) := by decide +kernel
theorem dX12_accountAnew_28 : decode cX12_accountAnew 28 = .ok (.lconst 0, 1) := by decide +kernel
theorem dX12_accountAnew_29 : decode cX12_accountAnew 29 = .ok (.lreturn, 1) := by decide +kernel
theorem dX12_accountAnew_30 : decode cX12_accountAnew 30 = .ok (.lconst 0, 1) := by decide +kernel
theorem dX12_accountAnew_31 : decode cX12_accountAnew 31 = .ok (.lstore_n 3, 1) := by decide +kernel
theorem dX12_accountAnew_32 : decode cX12_accountAnew 32 = .ok (.iconst 0, 1) := by decide +kernel
theorem dX12_accountAnew_33 : decode cX12_accountAnew 33 = .ok (.istore 5, 2) := by decide +kernel
theorem dX12_accountAnew_35 : decode cX12_accountAnew 35 = .ok (.iload 5, 2) := by decide +kernel
theorem dX12_accountAnew_37 : decode cX12_accountAnew 37 = .ok (.aload_n 0, 1) := by decide +kernel
theorem dX12_accountAnew_38 : decode cX12_accountAnew 38 = .ok (.getfield 117, 3) := by decide +kernel
theorem dX12_accountAnew_41 : decode cX12_accountAnew 41 = .ok (.if_icmp .ge 111, 3) := by decide +kernel
theorem dX12_accountAnew_44 : decode cX12_accountAnew 44 = .ok (.aload_n 0, 1) := by decide +kernel
theorem dX12_accountAnew_45 : decode cX12_accountAnew 45 = .ok (.getfield 94, 3) := by decide +kernel
theorem dX12_accountAnew_48 : decode cX12_accountAnew 48 = .ok (.iconst 5, 1) := by decide +kernel
theorem dX12_accountAnew_49 : decode cX12_accountAnew 49 = .ok (.iload 5, 2) := by decide +kernel
theorem dX12_accountAnew_51 : decode cX12_accountAnew 51 = .ok (.imul, 1) := by decide +kernel
theorem dX12_accountAnew_52 : decode cX12_accountAnew 52 = .ok (.iconst 2, 1) := by decide +kernel
theorem dX12_accountAnew_53 : decode cX12_accountAnew 53 = .ok (.iadd, 1) := by decide +kernel
theorem dX12_accountAnew_54 : decode cX12_accountAnew 54 = .ok (.laload, 1) := by decide +kernel
theorem dX12_accountAnew_55 : decode cX12_accountAnew 55 = .ok (.iload_n 2, 1) := by decide +kernel
theorem dX12_accountAnew_56 : decode cX12_accountAnew 56 = .ok (.i2l, 1) := by decide +kernel
theorem dX12_accountAnew_57 : decode cX12_accountAnew 57 = .ok (.lcmp, 1) := by decide +kernel
theorem dX12_accountAnew_58 : decode cX12_accountAnew 58 = .ok (.ifCond .ne 7, 3) := by decide +kernel
theorem dX12_accountAnew_61 : decode cX12_accountAnew 61 = .ok (.iconst 1, 1) := by decide +kernel
theorem dX12_accountAnew_62 : decode cX12_accountAnew 62 = .ok (.goto 4, 3) := by decide +kernel
theorem dX12_accountAnew_65 : decode cX12_accountAnew 65 = .ok (.iconst 0, 1) := by decide +kernel
theorem dX12_accountAnew_66 : decode cX12_accountAnew 66 = .ok (.istore 6, 2) := by decide +kernel
theorem dX12_accountAnew_68 : decode cX12_accountAnew 68 = .ok (.lload_n 3, 1) := by decide +kernel
theorem dX12_accountAnew_69 : decode cX12_accountAnew 69 = .ok (.iload 6, 2) := by decide +kernel
theorem dX12_accountAnew_71 : decode cX12_accountAnew 71 = .ok (.ifCond .eq 32, 3) := by decide +kernel
theorem dX12_accountAnew_74 : decode cX12_accountAnew 74 = .ok (.aload_n 0, 1) := by decide +kernel
theorem dX12_accountAnew_75 : decode cX12_accountAnew 75 = .ok (.getfield 94, 3) := by decide +kernel
theorem dX12_accountAnew_78 : decode cX12_accountAnew 78 = .ok (.iconst 5, 1) := by decide +kernel
theorem dX12_accountAnew_79 : decode cX12_accountAnew 79 = .ok (.iload 5, 2) := by decide +kernel
theorem dX12_accountAnew_81 : decode cX12_accountAnew 81 = .ok (.imul, 1) := by decide +kernel
theorem dX12_accountAnew_82 : decode cX12_accountAnew 82 = .ok (.laload, 1) := by decide +kernel
theorem dX12_accountAnew_83 : decode cX12_accountAnew 83 = .ok (.iload_n 1, 1) := by decide +kernel
theorem dX12_accountAnew_84 : decode cX12_accountAnew 84 = .ok (.i2l, 1) := by decide +kernel
theorem dX12_accountAnew_85 : decode cX12_accountAnew 85 = .ok (.lcmp, 1) := by decide +kernel
theorem dX12_accountAnew_86 : decode cX12_accountAnew 86 = .ok (.ifCond .ne 17, 3) := by decide +kernel
theorem dX12_accountAnew_89 : decode cX12_accountAnew 89 = .ok (.aload_n 0, 1) := by decide +kernel
theorem dX12_accountAnew_90 : decode cX12_accountAnew 90 = .ok (.getfield 94, 3) := by decide +kernel
theorem dX12_accountAnew_93 : decode cX12_accountAnew 93 = .ok (.iconst 5, 1) := by decide +kernel
theorem dX12_accountAnew_94 : decode cX12_accountAnew 94 = .ok (.iload 5, 2) := by decide +kernel
theorem dX12_accountAnew_96 : decode cX12_accountAnew 96 = .ok (.imul, 1) := by decide +kernel
theorem dX12_accountAnew_97 : decode cX12_accountAnew 97 = .ok (.iconst 3, 1) := by decide +kernel
theorem dX12_accountAnew_98 : decode cX12_accountAnew 98 = .ok (.iadd, 1) := by decide +kernel
theorem dX12_accountAnew_99 : decode cX12_accountAnew 99 = .ok (.laload, 1) := by decide +kernel
theorem dX12_accountAnew_100 : decode cX12_accountAnew 100 = .ok (.goto 4, 3) := by decide +kernel
theorem dX12_accountAnew_103 : decode cX12_accountAnew 103 = .ok (.lconst 0, 1) := by decide +kernel
theorem dX12_accountAnew_104 : decode cX12_accountAnew 104 = .ok (.lsub, 1) := by decide +kernel
theorem dX12_accountAnew_105 : decode cX12_accountAnew 105 = .ok (.lstore_n 3, 1) := by decide +kernel
theorem dX12_accountAnew_106 : decode cX12_accountAnew 106 = .ok (.lload_n 3, 1) := by decide +kernel
theorem dX12_accountAnew_107 : decode cX12_accountAnew 107 = .ok (.iload 6, 2) := by decide +kernel
theorem dX12_accountAnew_109 : decode cX12_accountAnew 109 = .ok (.ifCond .eq 34, 3) := by decide +kernel
theorem dX12_accountAnew_112 : decode cX12_accountAnew 112 = .ok (.aload_n 0, 1) := by decide +kernel
theorem dX12_accountAnew_113 : decode cX12_accountAnew 113 = .ok (.getfield 94, 3) := by decide +kernel
theorem dX12_accountAnew_116 : decode cX12_accountAnew 116 = .ok (.iconst 5, 1) := by decide +kernel
theorem dX12_accountAnew_117 : decode cX12_accountAnew 117 = .ok (.iload 5, 2) := by decide +kernel
theorem dX12_accountAnew_119 : decode cX12_accountAnew 119 = .ok (.imul, 1) := by decide +kernel
theorem dX12_accountAnew_120 : decode cX12_accountAnew 120 = .ok (.iconst 1, 1) := by decide +kernel
theorem dX12_accountAnew_121 : decode cX12_accountAnew 121 = .ok (.iadd, 1) := by decide +kernel
theorem dX12_accountAnew_122 : decode cX12_accountAnew 122 = .ok (.laload, 1) := by decide +kernel
theorem dX12_accountAnew_123 : decode cX12_accountAnew 123 = .ok (.iload_n 1, 1) := by decide +kernel
theorem dX12_accountAnew_124 : decode cX12_accountAnew 124 = .ok (.i2l, 1) := by decide +kernel
theorem dX12_accountAnew_125 : decode cX12_accountAnew 125 = .ok (.lcmp, 1) := by decide +kernel
theorem dX12_accountAnew_126 : decode cX12_accountAnew 126 = .ok (.ifCond .ne 17, 3) := by decide +kernel
theorem dX12_accountAnew_129 : decode cX12_accountAnew 129 = .ok (.aload_n 0, 1) := by decide +kernel
theorem dX12_accountAnew_130 : decode cX12_accountAnew 130 = .ok (.getfield 94, 3) := by decide +kernel
theorem dX12_accountAnew_133 : decode cX12_accountAnew 133 = .ok (.iconst 5, 1) := by decide +kernel
theorem dX12_accountAnew_134 : decode cX12_accountAnew 134 = .ok (.iload 5, 2) := by decide +kernel
theorem dX12_accountAnew_136 : decode cX12_accountAnew 136 = .ok (.imul, 1) := by decide +kernel
theorem dX12_accountAnew_137 : decode cX12_accountAnew 137 = .ok (.iconst 3, 1) := by decide +kernel
theorem dX12_accountAnew_138 : decode cX12_accountAnew 138 = .ok (.iadd, 1) := by decide +kernel
theorem dX12_accountAnew_139 : decode cX12_accountAnew 139 = .ok (.laload, 1) := by decide +kernel
theorem dX12_accountAnew_140 : decode cX12_accountAnew 140 = .ok (.goto 4, 3) := by decide +kernel
theorem dX12_accountAnew_143 : decode cX12_accountAnew 143 = .ok (.lconst 0, 1) := by decide +kernel
theorem dX12_accountAnew_144 : decode cX12_accountAnew 144 = .ok (.ladd, 1) := by decide +kernel
theorem dX12_accountAnew_145 : decode cX12_accountAnew 145 = .ok (.lstore_n 3, 1) := by decide +kernel
theorem dX12_accountAnew_146 : decode cX12_accountAnew 146 = .ok (.iinc 5 1, 3) := by decide +kernel
theorem dX12_accountAnew_149 : decode cX12_accountAnew 149 = .ok (.goto (-114), 3) := by decide +kernel
theorem dX12_accountAnew_152 : decode cX12_accountAnew 152 = .ok (.lload_n 3, 1) := by decide +kernel
theorem dX12_accountAnew_153 : decode cX12_accountAnew 153 = .ok (.lreturn, 1) := by decide +kernel
theorem dX12_paid_0 : decode cX12_paid 0 = .ok (.aload_n 0, 1) := by decide +kernel
theorem dX12_paid_1 : decode cX12_paid 1 = .ok (.iload_n 1, 1) := by decide +kernel
theorem dX12_paid_2 : decode cX12_paid 2 = .ok (.invokestatic 183, 3) := by decide +kernel
theorem dX12_paid_5 : decode cX12_paid 5 = .ok (.ifCond .eq 21, 3) := by decide +kernel
theorem dX12_paid_8 : decode cX12_paid 8 = .ok (.iload_n 2, 1) := by decide +kernel
theorem dX12_paid_9 : decode cX12_paid 9 = .ok (.invokestatic 183, 3) := by decide +kernel
theorem dX12_paid_12 : decode cX12_paid 12 = .ok (.ifCond .eq 14, 3) := by decide +kernel
theorem dX12_paid_15 : decode cX12_paid 15 = .ok (.iload_n 3, 1) := by decide +kernel
theorem dX12_paid_16 : decode cX12_paid 16 = .ok (.invokestatic 186, 3) := by decide +kernel
theorem dX12_paid_19 : decode cX12_paid 19 = .ok (.ifCond .eq 7, 3) := by decide +kernel
theorem dX12_paid_22 : decode cX12_paid 22 = .ok (.iconst 1, 1) := by decide +kernel
theorem dX12_paid_23 : decode cX12_paid 23 = .ok (.goto 4, 3) := by decide +kernel
theorem dX12_paid_26 : decode cX12_paid 26 = .ok (.iconst 0, 1) := by decide +kernel
theorem dX12_paid_27 : decode cX12_paid 27 = .ok (.iconst 1, 1) := by decide +kernel
theorem dX12_paid_28 : decode cX12_paid 28 = .ok (.iconst 1, 1) := by decide +kernel
theorem dX12_paid_29 : decode cX12_paid 29 = .ok (.invokevirtual 197, 3) := by decide +kernel
theorem dX12_paid_32 : decode cX12_paid 32 = .ok (.ifCond .eq 17, 3) := by decide +kernel
theorem dX12_paid_35 : decode cX12_paid 35 = .ok (.aload_n 0, 1) := by decide +kernel
theorem dX12_paid_36 : decode cX12_paid 36 = .ok (.getfield 20, 3) := by decide +kernel
theorem dX12_paid_39 : decode cX12_paid 39 = .ok (.iload_n 1, 1) := by decide +kernel
theorem dX12_paid_40 : decode cX12_paid 40 = .ok (.iload_n 2, 1) := by decide +kernel
theorem dX12_paid_41 : decode cX12_paid 41 = .ok (.iload_n 3, 1) := by decide +kernel
theorem dX12_paid_42 : decode cX12_paid 42 = .ok (.invokestatic 124, 3) := by decide +kernel
theorem dX12_paid_45 : decode cX12_paid 45 = .ok (.laload, 1) := by decide +kernel
theorem dX12_paid_46 : decode cX12_paid 46 = .ok (.goto 4, 3) := by decide +kernel
theorem dX12_paid_49 : decode cX12_paid 49 = .ok (.lconst 0, 1) := by decide +kernel
theorem dX12_paid_50 : decode cX12_paid 50 = .ok (.lreturn, 1) := by decide +kernel
theorem dX12_payments_0 : decode cX12_payments 0 = .ok (.aload_n 0, 1) := by decide +kernel
theorem dX12_payments_1 : decode cX12_payments 1 = .ok (.iconst 0, 1) := by decide +kernel
theorem dX12_payments_2 : decode cX12_payments 2 = .ok (.putfield 106, 3) := by decide +kernel
theorem dX12_payments_5 : decode cX12_payments 5 = .ok (.aload_n 0, 1) := by decide +kernel
theorem dX12_payments_6 : decode cX12_payments 6 = .ok (.getfield 114, 3) := by decide +kernel
theorem dX12_payments_9 : decode cX12_payments 9 = .ok (.ireturn, 1) := by decide +kernel
theorem dX12_stateOf_0 : decode cX12_stateOf 0 = .ok (.aload_n 0, 1) := by decide +kernel
theorem dX12_stateOf_1 : decode cX12_stateOf 1 = .ok (.aload_n 0, 1) := by decide +kernel
theorem dX12_stateOf_2 : decode cX12_stateOf 2 = .ok (.iload_n 1, 1) := by decide +kernel
theorem dX12_stateOf_3 : decode cX12_stateOf 3 = .ok (.invokevirtual 214, 3) := by decide +kernel
theorem dX12_stateOf_6 : decode cX12_stateOf 6 = .ok (.iconst 1, 1) := by decide +kernel
theorem dX12_stateOf_7 : decode cX12_stateOf 7 = .ok (.iconst 1, 1) := by decide +kernel
theorem dX12_stateOf_8 : decode cX12_stateOf 8 = .ok (.invokevirtual 197, 3) := by decide +kernel
theorem dX12_stateOf_11 : decode cX12_stateOf 11 = .ok (.ifCond .eq 12, 3) := by decide +kernel
theorem dX12_stateOf_14 : decode cX12_stateOf 14 = .ok (.aload_n 0, 1) := by decide +kernel
theorem dX12_stateOf_15 : decode cX12_stateOf 15 = .ok (.getfield 60, 3) := by decide +kernel
theorem dX12_stateOf_18 : decode cX12_stateOf 18 = .ok (.iload_n 1, 1) := by decide +kernel
theorem dX12_stateOf_19 : decode cX12_stateOf 19 = .ok (.iaload, 1) := by decide +kernel
theorem dX12_stateOf_20 : decode cX12_stateOf 20 = .ok (.goto 4, 3) := by decide +kernel
theorem dX12_stateOf_23 : decode cX12_stateOf 23 = .ok (.iconst 0, 1) := by decide +kernel
theorem dX12_stateOf_24 : decode cX12_stateOf 24 = .ok (.ireturn, 1) := by decide +kernel
theorem dX12_queueAt_0 : decode cX12_queueAt 0 = .ok (.aload_n 0, 1) := by decide +kernel
theorem dX12_queueAt_1 : decode cX12_queueAt 1 = .ok (.iload_n 1, 1) := by decide +kernel
theorem dX12_queueAt_2 : decode cX12_queueAt 2 = .ok (.invokestatic 183, 3) := by decide +kernel
theorem dX12_queueAt_5 : decode cX12_queueAt 5 = .ok (.ifCond .eq 18, 3) := by decide +kernel
theorem dX12_queueAt_8 : decode cX12_queueAt 8 = .ok (.iload_n 2, 1) := by decide +kernel
theorem dX12_queueAt_9 : decode cX12_queueAt 9 = .ok (.invokestatic 186, 3) := by decide +kernel
theorem dX12_queueAt_12 : decode cX12_queueAt 12 = .ok (.ifCond .eq 11, 3) := by decide +kernel
theorem dX12_queueAt_15 : decode cX12_queueAt 15 = .ok (.iload_n 3, 1) := by decide +kernel
theorem dX12_queueAt_16 : decode cX12_queueAt 16 = .ok (.ifCond .lt 7, 3) := by decide +kernel
theorem dX12_queueAt_19 : decode cX12_queueAt 19 = .ok (.iconst 1, 1) := by decide +kernel
theorem dX12_queueAt_20 : decode cX12_queueAt 20 = .ok (.goto 4, 3) := by decide +kernel
theorem dX12_queueAt_23 : decode cX12_queueAt 23 = .ok (.iconst 0, 1) := by decide +kernel
theorem dX12_queueAt_24 : decode cX12_queueAt 24 = .ok (.iconst 1, 1) := by decide +kernel
theorem dX12_queueAt_25 : decode cX12_queueAt 25 = .ok (.iconst 1, 1) := by decide +kernel
theorem dX12_queueAt_26 : decode cX12_queueAt 26 = .ok (.invokevirtual 197, 3) := by decide +kernel
theorem dX12_queueAt_29 : decode cX12_queueAt 29 = .ok (.ifCond .eq 13, 3) := by decide +kernel
theorem dX12_queueAt_32 : decode cX12_queueAt 32 = .ok (.aload_n 0, 1) := by decide +kernel
theorem dX12_queueAt_33 : decode cX12_queueAt 33 = .ok (.iload_n 1, 1) := by decide +kernel
theorem dX12_queueAt_34 : decode cX12_queueAt 34 = .ok (.iload_n 2, 1) := by decide +kernel
theorem dX12_queueAt_35 : decode cX12_queueAt 35 = .ok (.iload_n 3, 1) := by decide +kernel
theorem dX12_queueAt_36 : decode cX12_queueAt 36 = .ok (.invokevirtual 148, 3) := by decide +kernel
theorem dX12_queueAt_39 : decode cX12_queueAt 39 = .ok (.goto 4, 3) := by decide +kernel
theorem dX12_queueAt_42 : decode cX12_queueAt 42 = .ok (.iconst 0, 1) := by decide +kernel
theorem dX12_queueAt_43 : decode cX12_queueAt 43 = .ok (.ireturn, 1) := by decide +kernel
theorem dX12_entries_0 : decode cX12_entries 0 = .ok (.aload_n 0, 1) := by decide +kernel
theorem dX12_entries_1 : decode cX12_entries 1 = .ok (.iconst 0, 1) := by decide +kernel
theorem dX12_entries_2 : decode cX12_entries 2 = .ok (.putfield 106, 3) := by decide +kernel
theorem dX12_entries_5 : decode cX12_entries 5 = .ok (.aload_n 0, 1) := by decide +kernel
theorem dX12_entries_6 : decode cX12_entries 6 = .ok (.getfield 117, 3) := by decide +kernel
theorem dX12_entries_9 : decode cX12_entries 9 = .ok (.ireturn, 1) := by decide +kernel
theorem dX12_entryAt_0 : decode cX12_entryAt 0 = .ok (.aload_n 0, 1) := by decide +kernel
theorem dX12_entryAt_1 : decode cX12_entryAt 1 = .ok (.iload_n 1, 1) := by decide +kernel
theorem dX12_entryAt_2 : decode cX12_entryAt 2 = .ok (.iconst 0, 1) := by decide +kernel
theorem dX12_entryAt_3 : decode cX12_entryAt 3 = .ok (.aload_n 0, 1) := by decide +kernel
theorem dX12_entryAt_4 : decode cX12_entryAt 4 = .ok (.getfield 117, 3) := by decide +kernel
theorem dX12_entryAt_7 : decode cX12_entryAt 7 = .ok (.iconst 1, 1) := by decide +kernel
theorem dX12_entryAt_8 : decode cX12_entryAt 8 = .ok (.isub, 1) := by decide +kernel
theorem dX12_entryAt_9 : decode cX12_entryAt 9 = .ok (.invokestatic 110, 3) := by decide +kernel
theorem dX12_entryAt_12 : decode cX12_entryAt 12 = .ok (.iload_n 2, 1) := by decide +kernel
theorem dX12_entryAt_13 : decode cX12_entryAt 13 = .ok (.iconst 0, 1) := by decide +kernel
theorem dX12_entryAt_14 : decode cX12_entryAt 14 = .ok (.iconst 4, 1) := by decide +kernel
theorem dX12_entryAt_15 : decode cX12_entryAt 15 = .ok (.invokestatic 110, 3) := by decide +kernel
theorem dX12_entryAt_18 : decode cX12_entryAt 18 = .ok (.iconst 1, 1) := by decide +kernel
theorem dX12_entryAt_19 : decode cX12_entryAt 19 = .ok (.invokevirtual 197, 3) := by decide +kernel
theorem dX12_entryAt_22 : decode cX12_entryAt 22 = .ok (.ifCond .eq 16, 3) := by decide +kernel
theorem dX12_entryAt_25 : decode cX12_entryAt 25 = .ok (.aload_n 0, 1) := by decide +kernel
theorem dX12_entryAt_26 : decode cX12_entryAt 26 = .ok (.getfield 94, 3) := by decide +kernel
theorem dX12_entryAt_29 : decode cX12_entryAt 29 = .ok (.iconst 5, 1) := by decide +kernel
theorem dX12_entryAt_30 : decode cX12_entryAt 30 = .ok (.iload_n 1, 1) := by decide +kernel
theorem dX12_entryAt_31 : decode cX12_entryAt 31 = .ok (.imul, 1) := by decide +kernel
theorem dX12_entryAt_32 : decode cX12_entryAt 32 = .ok (.iload_n 2, 1) := by decide +kernel
theorem dX12_entryAt_33 : decode cX12_entryAt 33 = .ok (.iadd, 1) := by decide +kernel
theorem dX12_entryAt_34 : decode cX12_entryAt 34 = .ok (.laload, 1) := by decide +kernel
theorem dX12_entryAt_35 : decode cX12_entryAt 35 = .ok (.goto 4, 3) := by decide +kernel
theorem dX12_entryAt_38 : decode cX12_entryAt 38 = .ok (.lconst 0, 1) := by decide +kernel
theorem dX12_entryAt_39 : decode cX12_entryAt 39 = .ok (.lreturn, 1) := by decide +kernel
theorem dX12_adviceAt_0 : decode cX12_adviceAt 0 = .ok (.iload_n 2, 1) := by decide +kernel
theorem dX12_adviceAt_1 : decode cX12_adviceAt 1 = .ok (.istore_n 3, 1) := by decide +kernel
theorem dX12_adviceAt_2 : decode cX12_adviceAt 2 = .ok (.iconst 0, 1) := by decide +kernel
theorem dX12_adviceAt_3 : decode cX12_adviceAt 3 = .ok (.istore 4, 2) := by decide +kernel
theorem dX12_adviceAt_5 : decode cX12_adviceAt 5 = .ok (.iload 4, 2) := by decide +kernel
theorem dX12_adviceAt_7 : decode cX12_adviceAt 7 = .ok (.aload_n 0, 1) := by decide +kernel
theorem dX12_adviceAt_8 : decode cX12_adviceAt 8 = .ok (.getfield 145, 3) := by decide +kernel
theorem dX12_adviceAt_11 : decode cX12_adviceAt 11 = .ok (.if_icmp .ge 40, 3) := by decide +kernel
theorem dX12_adviceAt_14 : decode cX12_adviceAt 14 = .ok (.aload_n 0, 1) := by decide +kernel
theorem dX12_adviceAt_15 : decode cX12_adviceAt 15 = .ok (.getfield 36, 3) := by decide +kernel
theorem dX12_adviceAt_18 : decode cX12_adviceAt 18 = .ok (.aload_n 0, 1) := by decide +kernel
theorem dX12_adviceAt_19 : decode cX12_adviceAt 19 = .ok (.getfield 84, 3) := by decide +kernel
theorem dX12_adviceAt_22 : decode cX12_adviceAt 22 = .ok (.iload 4, 2) := by decide +kernel
theorem dX12_adviceAt_24 : decode cX12_adviceAt 24 = .ok (.iaload, 1) := by decide +kernel
theorem dX12_adviceAt_25 : decode cX12_adviceAt 25 = .ok (.iaload, 1) := by decide +kernel
theorem dX12_adviceAt_26 : decode cX12_adviceAt 26 = .ok (.iload_n 1, 1) := by decide +kernel
theorem dX12_adviceAt_27 : decode cX12_adviceAt 27 = .ok (.if_icmp .ne 18, 3) := by decide +kernel
theorem dX12_adviceAt_30 : decode cX12_adviceAt 30 = .ok (.iload_n 3, 1) := by decide +kernel
theorem dX12_adviceAt_31 : decode cX12_adviceAt 31 = .ok (.ifCond .ne 11, 3) := by decide +kernel
theorem dX12_adviceAt_34 : decode cX12_adviceAt 34 = .ok (.aload_n 0, 1) := by decide +kernel
theorem dX12_adviceAt_35 : decode cX12_adviceAt 35 = .ok (.getfield 84, 3) := by decide +kernel
theorem dX12_adviceAt_38 : decode cX12_adviceAt 38 = .ok (.iload 4, 2) := by decide +kernel
theorem dX12_adviceAt_40 : decode cX12_adviceAt 40 = .ok (.iaload, 1) := by decide +kernel
theorem dX12_adviceAt_41 : decode cX12_adviceAt 41 = .ok (.ireturn, 1) := by decide +kernel
theorem dX12_adviceAt_42 : decode cX12_adviceAt 42 = .ok (.iinc 3 (-1), 3) := by decide +kernel
theorem dX12_adviceAt_45 : decode cX12_adviceAt 45 = .ok (.iinc 4 1, 3) := by decide +kernel
theorem dX12_adviceAt_48 : decode cX12_adviceAt 48 = .ok (.goto (-43), 3) := by decide +kernel
theorem dX12_adviceAt_51 : decode cX12_adviceAt 51 = .ok (.iconst (-1), 1) := by decide +kernel
theorem dX12_adviceAt_52 : decode cX12_adviceAt 52 = .ok (.ireturn, 1) := by decide +kernel
theorem dX12_advice_0 : decode cX12_advice 0 = .ok (.aload_n 0, 1) := by decide +kernel
theorem dX12_advice_1 : decode cX12_advice 1 = .ok (.iload_n 1, 1) := by decide +kernel
theorem dX12_advice_2 : decode cX12_advice 2 = .ok (.invokestatic 183, 3) := by decide +kernel
theorem dX12_advice_5 : decode cX12_advice 5 = .ok (.iconst 1, 1) := by decide +kernel
theorem dX12_advice_6 : decode cX12_advice 6 = .ok (.iconst 1, 1) := by decide +kernel
theorem dX12_advice_7 : decode cX12_advice 7 = .ok (.invokevirtual 197, 3) := by decide +kernel
theorem dX12_advice_10 : decode cX12_advice 10 = .ok (.ifCond .ne 5, 3) := by decide +kernel
theorem dX12_advice_13 : decode cX12_advice 13 = .ok (.iconst 0, 1) := by decide +kernel
theorem dX12_advice_14 : decode cX12_advice 14 = .ok (.ireturn, 1) := by decide +kernel
theorem dX12_advice_15 : decode cX12_advice 15 = .ok (.aload_n 0, 1) := by decide +kernel
theorem dX12_advice_16 : decode cX12_advice 16 = .ok (.getfield 23, 3) := by decide +kernel
theorem dX12_advice_19 : decode cX12_advice 19 = .ok (.iload_n 1, 1) := by decide +kernel
theorem dX12_advice_20 : decode cX12_advice 20 = .ok (.baload, 1) := by decide +kernel
theorem dX12_advice_21 : decode cX12_advice 21 = .ok (.ifCond .eq 7, 3) := by decide +kernel
theorem dX12_advice_24 : decode cX12_advice 24 = .ok (.iconst (-1), 1) := by decide +kernel
theorem dX12_advice_25 : decode cX12_advice 25 = .ok (.goto 14, 3) := by decide +kernel
theorem dX12_advice_28 : decode cX12_advice 28 = .ok (.aload_n 0, 1) := by decide +kernel
theorem dX12_advice_29 : decode cX12_advice 29 = .ok (.iload_n 1, 1) := by decide +kernel
theorem dX12_advice_30 : decode cX12_advice 30 = .ok (.aload_n 0, 1) := by decide +kernel
theorem dX12_advice_31 : decode cX12_advice 31 = .ok (.getfield 87, 3) := by decide +kernel
theorem dX12_advice_34 : decode cX12_advice 34 = .ok (.iload_n 1, 1) := by decide +kernel
theorem dX12_advice_35 : decode cX12_advice 35 = .ok (.iaload, 1) := by decide +kernel
theorem dX12_advice_36 : decode cX12_advice 36 = .ok (.invokevirtual 242, 3) := by decide +kernel
theorem dX12_advice_39 : decode cX12_advice 39 = .ok (.istore_n 2, 1) := by decide +kernel
theorem dX12_advice_40 : decode cX12_advice 40 = .ok (.aload_n 0, 1) := by decide +kernel
theorem dX12_advice_41 : decode cX12_advice 41 = .ok (.getfield 87, 3) := by decide +kernel
theorem dX12_advice_44 : decode cX12_advice 44 = .ok (.iload_n 1, 1) := by decide +kernel
theorem dX12_advice_45 : decode cX12_advice 45 = .ok (.dup2, 1) := by decide +kernel
theorem dX12_advice_46 : decode cX12_advice 46 = .ok (.iaload, 1) := by decide +kernel
theorem dX12_advice_47 : decode cX12_advice 47 = .ok (.iload_n 2, 1) := by decide +kernel
theorem dX12_advice_48 : decode cX12_advice 48 = .ok (.iconst (-1), 1) := by decide +kernel
theorem dX12_advice_49 : decode cX12_advice 49 = .ok (.if_icmp .ne 7, 3) := by decide +kernel
theorem dX12_advice_52 : decode cX12_advice 52 = .ok (.iconst 0, 1) := by decide +kernel
theorem dX12_advice_53 : decode cX12_advice 53 = .ok (.goto 4, 3) := by decide +kernel
theorem dX12_advice_56 : decode cX12_advice 56 = .ok (.iconst 1, 1) := by decide +kernel
theorem dX12_advice_57 : decode cX12_advice 57 = .ok (.iadd, 1) := by decide +kernel
theorem dX12_advice_58 : decode cX12_advice 58 = .ok (.iastore, 1) := by decide +kernel
theorem dX12_advice_59 : decode cX12_advice 59 = .ok (.aload_n 0, 1) := by decide +kernel
theorem dX12_advice_60 : decode cX12_advice 60 = .ok (.getfield 90, 3) := by decide +kernel
theorem dX12_advice_63 : decode cX12_advice 63 = .ok (.iload_n 1, 1) := by decide +kernel
theorem dX12_advice_64 : decode cX12_advice 64 = .ok (.aload_n 0, 1) := by decide +kernel
theorem dX12_advice_65 : decode cX12_advice 65 = .ok (.getfield 87, 3) := by decide +kernel
theorem dX12_advice_68 : decode cX12_advice 68 = .ok (.iload_n 1, 1) := by decide +kernel
theorem dX12_advice_69 : decode cX12_advice 69 = .ok (.iaload, 1) := by decide +kernel
theorem dX12_advice_70 : decode cX12_advice 70 = .ok (.aload_n 0, 1) := by decide +kernel
theorem dX12_advice_71 : decode cX12_advice 71 = .ok (.getfield 90, 3) := by decide +kernel
theorem dX12_advice_74 : decode cX12_advice 74 = .ok (.iload_n 1, 1) := by decide +kernel
theorem dX12_advice_75 : decode cX12_advice 75 = .ok (.iaload, 1) := by decide +kernel
theorem dX12_advice_76 : decode cX12_advice 76 = .ok (.if_icmp .le 12, 3) := by decide +kernel
theorem dX12_advice_79 : decode cX12_advice 79 = .ok (.aload_n 0, 1) := by decide +kernel
theorem dX12_advice_80 : decode cX12_advice 80 = .ok (.getfield 87, 3) := by decide +kernel
theorem dX12_advice_83 : decode cX12_advice 83 = .ok (.iload_n 1, 1) := by decide +kernel
theorem dX12_advice_84 : decode cX12_advice 84 = .ok (.iaload, 1) := by decide +kernel
theorem dX12_advice_85 : decode cX12_advice 85 = .ok (.goto 9, 3) := by decide +kernel
theorem dX12_advice_88 : decode cX12_advice 88 = .ok (.aload_n 0, 1) := by decide +kernel
theorem dX12_advice_89 : decode cX12_advice 89 = .ok (.getfield 90, 3) := by decide +kernel
theorem dX12_advice_92 : decode cX12_advice 92 = .ok (.iload_n 1, 1) := by decide +kernel
theorem dX12_advice_93 : decode cX12_advice 93 = .ok (.iaload, 1) := by decide +kernel
theorem dX12_advice_94 : decode cX12_advice 94 = .ok (.iastore, 1) := by decide +kernel
theorem dX12_advice_95 : decode cX12_advice 95 = .ok (.iload_n 2, 1) := by decide +kernel
theorem dX12_advice_96 : decode cX12_advice 96 = .ok (.ireturn, 1) := by decide +kernel
theorem dX12_again_0 : decode cX12_again 0 = .ok (.iload_n 1, 1) := by decide +kernel
theorem dX12_again_1 : decode cX12_again 1 = .ok (.invokestatic 183, 3) := by decide +kernel
theorem dX12_again_4 : decode cX12_again 4 = .ok (.istore_n 3, 1) := by decide +kernel
theorem dX12_again_5 : decode cX12_again 5 = .ok (.aload_n 0, 1) := by decide +kernel
theorem dX12_again_6 : decode cX12_again 6 = .ok (.iload_n 3, 1) := by decide +kernel
theorem dX12_again_7 : decode cX12_again 7 = .ok (.iload_n 3, 1) := by decide +kernel
theorem dX12_again_8 : decode cX12_again 8 = .ok (.ifCond .eq 21, 3) := by decide +kernel
theorem dX12_again_11 : decode cX12_again 11 = .ok (.iload_n 2, 1) := by decide +kernel
theorem dX12_again_12 : decode cX12_again 12 = .ok (.iconst 0, 1) := by decide +kernel
theorem dX12_again_13 : decode cX12_again 13 = .ok (.aload_n 0, 1) := by decide +kernel
theorem dX12_again_14 : decode cX12_again 14 = .ok (.getfield 90, 3) := by decide +kernel
theorem dX12_again_17 : decode cX12_again 17 = .ok (.iload_n 1, 1) := by decide +kernel
theorem dX12_again_18 : decode cX12_again 18 = .ok (.iaload, 1) := by decide +kernel
theorem dX12_again_19 : decode cX12_again 19 = .ok (.invokestatic 110, 3) := by decide +kernel
theorem dX12_again_22 : decode cX12_again 22 = .ok (.ifCond .eq 7, 3) := by decide +kernel
theorem dX12_again_25 : decode cX12_again 25 = .ok (.iconst 1, 1) := by decide +kernel
theorem dX12_again_26 : decode cX12_again 26 = .ok (.goto 4, 3) := by decide +kernel
theorem dX12_again_29 : decode cX12_again 29 = .ok (.iconst 0, 1) := by decide +kernel
theorem dX12_again_30 : decode cX12_again 30 = .ok (.iconst 1, 1) := by decide +kernel
theorem dX12_again_31 : decode cX12_again 31 = .ok (.invokevirtual 197, 3) := by decide +kernel
theorem dX12_again_34 : decode cX12_again 34 = .ok (.ifCond .ne 5, 3) := by decide +kernel
theorem dX12_again_37 : decode cX12_again 37 = .ok (.iconst 0, 1) := by decide +kernel
theorem dX12_again_38 : decode cX12_again 38 = .ok (.ireturn, 1) := by decide +kernel
theorem dX12_again_39 : decode cX12_again 39 = .ok (.aload_n 0, 1) := by decide +kernel
theorem dX12_again_40 : decode cX12_again 40 = .ok (.getfield 87, 3) := by decide +kernel
theorem dX12_again_43 : decode cX12_again 43 = .ok (.iload_n 1, 1) := by decide +kernel
theorem dX12_again_44 : decode cX12_again 44 = .ok (.iload_n 2, 1) := by decide +kernel
theorem dX12_again_45 : decode cX12_again 45 = .ok (.iastore, 1) := by decide +kernel
theorem dX12_again_46 : decode cX12_again 46 = .ok (.iconst 0, 1) := by decide +kernel
theorem dX12_again_47 : decode cX12_again 47 = .ok (.istore 4, 2) := by decide +kernel
theorem dX12_again_49 : decode cX12_again 49 = .ok (.iconst 0, 1) := by decide +kernel
theorem dX12_again_50 : decode cX12_again 50 = .ok (.istore 5, 2) := by decide +kernel
theorem dX12_again_52 : decode cX12_again 52 = .ok (.iload 5, 2) := by decide +kernel
theorem dX12_again_54 : decode cX12_again 54 = .ok (.aload_n 0, 1) := by decide +kernel
theorem dX12_again_55 : decode cX12_again 55 = .ok (.getfield 145, 3) := by decide +kernel
theorem dX12_again_58 : decode cX12_again 58 = .ok (.if_icmp .ge 35, 3) := by decide +kernel
theorem dX12_again_61 : decode cX12_again 61 = .ok (.iload 4, 2) := by decide +kernel
theorem dX12_again_63 : decode cX12_again 63 = .ok (.aload_n 0, 1) := by decide +kernel
theorem dX12_again_64 : decode cX12_again 64 = .ok (.getfield 36, 3) := by decide +kernel
theorem dX12_again_67 : decode cX12_again 67 = .ok (.aload_n 0, 1) := by decide +kernel
theorem dX12_again_68 : decode cX12_again 68 = .ok (.getfield 84, 3) := by decide +kernel
theorem dX12_again_71 : decode cX12_again 71 = .ok (.iload 5, 2) := by decide +kernel
theorem dX12_again_73 : decode cX12_again 73 = .ok (.iaload, 1) := by decide +kernel
theorem dX12_again_74 : decode cX12_again 74 = .ok (.iaload, 1) := by decide +kernel
theorem dX12_again_75 : decode cX12_again 75 = .ok (.iload_n 1, 1) := by decide +kernel
theorem dX12_again_76 : decode cX12_again 76 = .ok (.if_icmp .ne 7, 3) := by decide +kernel
theorem dX12_again_79 : decode cX12_again 79 = .ok (.iconst 1, 1) := by decide +kernel
theorem dX12_again_80 : decode cX12_again 80 = .ok (.goto 4, 3) := by decide +kernel
theorem dX12_again_83 : decode cX12_again 83 = .ok (.iconst 0, 1) := by decide +kernel
theorem dX12_again_84 : decode cX12_again 84 = .ok (.iadd, 1) := by decide +kernel
theorem dX12_again_85 : decode cX12_again 85 = .ok (.istore 4, 2) := by decide +kernel
theorem dX12_again_87 : decode cX12_again 87 = .ok (.iinc 5 1, 3) := by decide +kernel
theorem dX12_again_90 : decode cX12_again 90 = .ok (.goto (-38), 3) := by decide +kernel
theorem dX12_again_93 : decode cX12_again 93 = .ok (.iload 4, 2) := by decide +kernel
theorem dX12_again_95 : decode cX12_again 95 = .ok (.iload_n 2, 1) := by decide +kernel
theorem dX12_again_96 : decode cX12_again 96 = .ok (.isub, 1) := by decide +kernel
theorem dX12_again_97 : decode cX12_again 97 = .ok (.ireturn, 1) := by decide +kernel
end
section
/-! numbers: an int is iI z, z an Int; a boolean is 0 or 1 -/
def iI (z : Int) : Int32 := Int32.ofInt z
abbrev rI (z : Int) : Prop := -2147483648 ≤ z ∧ z ≤ 2147483647
def bI (b : Bool) : Int := if b then 1 else 0
theorem iI_add (a b : Int) : iI a + iI b = iI (a + b) := (Int32.ofInt_add a b).symm
theorem iI_sub (a b : Int) : iI a - iI b = iI (a - b) := (Int32.ofInt_sub a b).symm
theorem iI_mul (a b : Int) : iI a * iI b = iI (a * b) := (Int32.ofInt_mul a b).symm
theorem iI_neg (a : Int) : -iI a = iI (-a) := (Int32.ofInt_neg a).symm
theorem iI_toInt {z : Int} (h : rI z) : (iI z).toInt = z := Int32.toInt_ofInt_of_le (by have := h.1; omega) (by have := h.2; omega)
theorem iI_self (x : Int32) : iI x.toInt = x := Int32.ofInt_toInt x
theorem rI_toInt (x : Int32) : rI x.toInt := ⟨by have := x.le_toInt; omega, by have := x.toInt_lt; omega⟩
theorem iI_ex (x : Int32) : ∃ z : Int, rI z ∧ x = iI z := ⟨x.toInt, rI_toInt x, (iI_self x).symm⟩
theorem iI_clamp {z : Int} (h : rI z) : (iI z).toNatClampNeg = z.toNat := by
  show (iI z).toInt.toNat = z.toNat
  rw [iI_toInt h]
theorem iI_eq {x y : Int} (hx : rI x) (hy : rI y) : iI x = iI y ↔ x = y := by
  constructor
  · intro h
    have h2 : (iI x).toInt = (iI y).toInt := by rw [h]
    rwa [iI_toInt hx, iI_toInt hy] at h2
  · intro h
    rw [h]
theorem iI_lt {x y : Int} (hx : rI x) (hy : rI y) : iI x < iI y ↔ x < y := by
  rw [Int32.lt_iff_toInt_lt, iI_toInt hx, iI_toInt hy]
theorem iI_le {x y : Int} (hx : rI x) (hy : rI y) : iI x ≤ iI y ↔ x ≤ y := by
  rw [Int32.le_iff_toInt_le, iI_toInt hx, iI_toInt hy]
theorem iI_0 : iI 0 = 0 := rfl
theorem rI_0 : rI 0 := ⟨by decide, by decide⟩
theorem iI_nI (n : Nat) : nI n = iI (n : Int) := rfl
theorem iI_in {z : Int} {n : Nat} (h0 : 0 ≤ z) (h1 : z < n) (hn : n ≤ 2147483648) : vp_in (iI z) n := by
  rw [vp_in_iff, iI_toInt ⟨by omega, by omega⟩]
  exact ⟨h0, h1⟩
theorem iI_out {z : Int} {n : Nat} (h : rI z) (h1 : z < 0 ∨ (n : Int) ≤ z) : ¬ vp_in (iI z) n := by
  rw [vp_in_iff, iI_toInt h]
  omega
theorem iI_64 {z : Int} (h : rI z) : (iI z).toInt64 = Int64.ofInt z := Int32.toInt64_ofInt (by have := h.1; exact this) (by have := h.2; exact this)
theorem iI_of64 (z : Int) : (Int64.ofInt z).toInt32 = iI z := Int64.toInt32_ofInt
theorem iI_divmod {x y : Int} (h0 : 0 ≤ x) (h1 : x < 2147483648) (hy : 0 < y) (hy1 : y < 2147483648) : iI x / iI y = iI (x / y) ∧ iI x - iI x / iI y * iI y = iI (x % y) := by
  have hd : iI x / iI y = iI (x / y) := by
    apply Int32.toInt_inj.mp
    have hne : iI x ≠ Int32.minValue := by
      intro h
      have h2 := congrArg Int32.toInt h
      rw [iI_toInt ⟨by omega, by omega⟩] at h2
      have h3 : Int32.minValue.toInt = -2147483648 := by decide
      omega
    rw [Int32.toInt_div_of_ne_left _ _ hne, iI_toInt ⟨by omega, by omega⟩, iI_toInt ⟨by omega, by omega⟩]
    have h4 : 0 ≤ x / y := Int.ediv_nonneg h0 (by omega)
    have h5 : x / y ≤ x := Int.ediv_le_self y h0
    rw [iI_toInt ⟨by omega, by omega⟩]
    exact Int.tdiv_eq_ediv_of_nonneg h0
  refine ⟨hd, ?_⟩
  rw [hd, iI_mul, iI_sub]
  congr 1
  have := Int.emod_def x y
  rw [this, Int.mul_comm]
theorem iI_nar (b : Int) (h : b = 0 ∨ b = 1) : vp_nar .boolean (iI b) = iI b := by
  rcases h with rfl | rfl <;> decide
theorem bI_01 (b : Bool) : bI b = 0 ∨ bI b = 1 := by cases b <;> simp [bI]
theorem bI_r (b : Bool) : rI (bI b) := by cases b <;> exact ⟨by decide, by decide⟩
theorem bI_0 (b : Bool) : bI b = 0 ↔ b = false := by cases b <;> simp [bI]
theorem bI_1 (b : Bool) : bI b = 1 ↔ b = true := by cases b <;> simp [bI]
theorem bI_t {b : Bool} (h : b = true) : (1 : Int) = bI b := by rw [h]; rfl
theorem bI_f {b : Bool} (h : b = false) : (0 : Int) = bI b := by rw [h]; rfl
theorem iI_narz {z : Int} (h : z = 0 ∨ z = 1) : narrow .boolean (.int (iI z)) = .int (iI z) := by
  rcases h with rfl | rfl <;> decide
theorem iI_fitz {z : Int} (h : z = 0 ∨ z = 1) : fits .boolean (.int (iI z)) = true := by
  rcases h with rfl | rfl <;> decide

section GX
variable {p : Program} {l : Launch} {e : Env} {R : Room} {s : State} {m : MethodId} {args : Array Value} {below : List Frame} {meth : Method} {c : Code} {H : Heap} {locs : List Loc} {cells slots : Nat} {Q : State → Prop}
variable {cc : ByteArray} {pc : Nat} {ls : Array Slot} {rest : List Value}
theorem xi_iconst (hexec : p.tables.exec = Jvm.exec) (hb : c.code = cc) {n : Int} (hdg : decode cc pc = .ok (.iconst n, 1))
    (k : W p l e R s m args below meth c H locs cells slots Q (F0 m (pc + 1) ls (.int (iI n) :: rest))) : W p l e R s m args below meth c H locs cells slots Q (F0 m (pc) ls (rest)) := lv_iconst hexec hb hdg rfl k
theorem xi_bipush (hexec : p.tables.exec = Jvm.exec) (hb : c.code = cc) {n : Int} (hdg : decode cc pc = .ok (.bipush n, 2)) (hv : (Int8.ofInt n).toInt32 = iI n)
    (k : W p l e R s m args below meth c H locs cells slots Q (F0 m (pc + 2) ls (.int (iI n) :: rest))) : W p l e R s m args below meth c H locs cells slots Q (F0 m (pc) ls (rest)) := lv_bipush hexec hb hdg hv k
theorem xi_sipush (hexec : p.tables.exec = Jvm.exec) (hb : c.code = cc) {n : Int} (hdg : decode cc pc = .ok (.sipush n, 3)) (hv : (Int16.ofInt n).toInt32 = iI n)
    (k : W p l e R s m args below meth c H locs cells slots Q (F0 m (pc + 3) ls (.int (iI n) :: rest))) : W p l e R s m args below meth c H locs cells slots Q (F0 m (pc) ls (rest)) := lv_sipush hexec hb hdg hv k
theorem xi_ldc (hexec : p.tables.exec = Jvm.exec) (hb : c.code = cc) {own : String} {index : Nat} {v : Int32} (n : Int) (hv : v = iI n) (hown : s.vm.findClass own = some m.cls) (hconst : (Jvm.Cond.constant own index v).before args s = true) (hdg : decode cc pc = .ok (.ldc index, 2))
    (k : W p l e R s m args below meth c H locs cells slots Q (F0 m (pc + 2) ls (.int (iI n) :: rest))) : W p l e R s m args below meth c H locs cells slots Q (F0 m (pc) ls (rest)) := lv_ldc hexec hb hown hconst hdg (hv ▸ k)
theorem xi_ldcw (hexec : p.tables.exec = Jvm.exec) (hb : c.code = cc) {own : String} {index : Nat} {v : Int32} (n : Int) (hv : v = iI n) (hown : s.vm.findClass own = some m.cls) (hconst : (Jvm.Cond.constant own index v).before args s = true) (hdg : decode cc pc = .ok (.ldc_w index, 3))
    (k : W p l e R s m args below meth c H locs cells slots Q (F0 m (pc + 3) ls (.int (iI n) :: rest))) : W p l e R s m args below meth c H locs cells slots Q (F0 m (pc) ls (rest)) := lv_ldcw hexec hb hown hconst hdg (hv ▸ k)
theorem xi_iadd (hexec : p.tables.exec = Jvm.exec) (hb : c.code = cc) {x y : Int} (hdg : decode cc pc = .ok (.iadd, 1))
    (k : W p l e R s m args below meth c H locs cells slots Q (F0 m (pc + 1) ls (.int (iI (x + y)) :: rest))) : W p l e R s m args below meth c H locs cells slots Q (F0 m (pc) ls (.int (iI y) :: .int (iI x) :: rest)) := lv_iadd hexec hb hdg (by rw [iI_add]; exact k)
theorem xi_isub (hexec : p.tables.exec = Jvm.exec) (hb : c.code = cc) {x y : Int} (hdg : decode cc pc = .ok (.isub, 1))
    (k : W p l e R s m args below meth c H locs cells slots Q (F0 m (pc + 1) ls (.int (iI (x - y)) :: rest))) : W p l e R s m args below meth c H locs cells slots Q (F0 m (pc) ls (.int (iI y) :: .int (iI x) :: rest)) := lv_isub hexec hb hdg (by rw [iI_sub]; exact k)
theorem xi_imul (hexec : p.tables.exec = Jvm.exec) (hb : c.code = cc) {x y : Int} (hdg : decode cc pc = .ok (.imul, 1))
    (k : W p l e R s m args below meth c H locs cells slots Q (F0 m (pc + 1) ls (.int (iI (x * y)) :: rest))) : W p l e R s m args below meth c H locs cells slots Q (F0 m (pc) ls (.int (iI y) :: .int (iI x) :: rest)) := lv_imul hexec hb hdg (by rw [iI_mul]; exact k)
theorem xi_ineg (hexec : p.tables.exec = Jvm.exec) (hb : c.code = cc) {x : Int} (hdg : decode cc pc = .ok (.ineg, 1))
    (k : W p l e R s m args below meth c H locs cells slots Q (F0 m (pc + 1) ls (.int (iI (-x)) :: rest))) : W p l e R s m args below meth c H locs cells slots Q (F0 m (pc) ls (.int (iI x) :: rest)) := lv_ineg hexec hb hdg (by rw [iI_neg]; exact k)
theorem xi_idiv (hexec : p.tables.exec = Jvm.exec) (hb : c.code = cc) {x y : Int} (h0 : 0 ≤ x ∧ x < 2147483648) (hy : 0 < y ∧ y < 2147483648) (hdg : decode cc pc = .ok (.idiv, 1))
    (k : W p l e R s m args below meth c H locs cells slots Q (F0 m (pc + 1) ls (.int (iI (x / y)) :: rest))) : W p l e R s m args below meth c H locs cells slots Q (F0 m (pc) ls (.int (iI y) :: .int (iI x) :: rest)) := lv_idiv hexec hb hdg (fun h => by have := (iI_eq (x := y) (y := 0) ⟨by omega, by omega⟩ rI_0).mp h; omega) (by rw [(iI_divmod h0.1 h0.2 hy.1 hy.2).1]; exact k)
theorem xi_irem (hexec : p.tables.exec = Jvm.exec) (hb : c.code = cc) {x y : Int} (h0 : 0 ≤ x ∧ x < 2147483648) (hy : 0 < y ∧ y < 2147483648) (hdg : decode cc pc = .ok (.irem, 1))
    (k : W p l e R s m args below meth c H locs cells slots Q (F0 m (pc + 1) ls (.int (iI (x % y)) :: rest))) : W p l e R s m args below meth c H locs cells slots Q (F0 m (pc) ls (.int (iI y) :: .int (iI x) :: rest)) := lv_irem hexec hb hdg (fun h => by have := (iI_eq (x := y) (y := 0) ⟨by omega, by omega⟩ rI_0).mp h; omega) (by rw [(iI_divmod h0.1 h0.2 hy.1 hy.2).2]; exact k)
theorem xi_i2l (hexec : p.tables.exec = Jvm.exec) (hb : c.code = cc) {x : Int} (hx : rI x) (hdg : decode cc pc = .ok (.i2l, 1))
    (k : W p l e R s m args below meth c H locs cells slots Q (F0 m (pc + 1) ls (.long (Int64.ofInt x) :: rest))) : W p l e R s m args below meth c H locs cells slots Q (F0 m (pc) ls (.int (iI x) :: rest)) := lv_i2l hexec hb hdg (iI_64 hx) k
theorem xi_l2i (hexec : p.tables.exec = Jvm.exec) (hb : c.code = cc) {x : Int} (hdg : decode cc pc = .ok (.l2i, 1))
    (k : W p l e R s m args below meth c H locs cells slots Q (F0 m (pc + 1) ls (.int (iI x) :: rest))) : W p l e R s m args below meth c H locs cells slots Q (F0 m (pc) ls (.long (Int64.ofInt x) :: rest)) := lv_l2i hexec hb hdg (iI_of64 x) k
theorem xi_iinc (hexec : p.tables.exec = Jvm.exec) (hb : c.code = cc) {i nL k : Nat} {n x : Int} {lv lv' : List (Nat × Value)} (hdg : decode cc pc = .ok (.iinc i n, 3)) (h : lv_has ls nL lv) (hk : lv[k]? = some (i, .int (iI x))) (hn : i < nL) (hl : (i, Value.int (iI (x + n))) :: lv.filter (fun q => !(q.1 == i) && !(q.1 + 1 == i && q.2.category == 2)) = lv')
    (kk : ∀ ls' : Array Slot, lv_has ls' nL lv' → W p l e R s m args below meth c H locs cells slots Q (F0 m (pc + 3) ls' (rest))) : W p l e R s m args below meth c H locs cells slots Q (F0 m (pc) ls (rest)) := lv_iinc hexec hb hdg h hk (iI_add x n) hn hl kk
theorem xi_icmp_eq (hexec : p.tables.exec = Jvm.exec) (hb : c.code = cc) {x y : Int} {off : Int} {tgt : Nat} (hx : rI x) (hy : rI y) (hdg : decode cc pc = .ok (.if_icmp .eq off, 3)) (ht : (pc : Int) + off = (tgt : Int))
    (kt : x = y → W p l e R s m args below meth c H locs cells slots Q (F0 m (tgt) ls (rest))) (kf : ¬ x = y → W p l e R s m args below meth c H locs cells slots Q (F0 m (pc + 3) ls (rest))) : W p l e R s m args below meth c H locs cells slots Q (F0 m (pc) ls (.int (iI y) :: .int (iI x) :: rest)) := lv_icmp_eq hexec hb hdg ht (fun h => kt ((iI_eq hx hy).mp h)) (fun h => kf (fun q => h ((iI_eq hx hy).mpr q)))
theorem xi_icmp_ne (hexec : p.tables.exec = Jvm.exec) (hb : c.code = cc) {x y : Int} {off : Int} {tgt : Nat} (hx : rI x) (hy : rI y) (hdg : decode cc pc = .ok (.if_icmp .ne off, 3)) (ht : (pc : Int) + off = (tgt : Int))
    (kt : ¬ x = y → W p l e R s m args below meth c H locs cells slots Q (F0 m (tgt) ls (rest))) (kf : x = y → W p l e R s m args below meth c H locs cells slots Q (F0 m (pc + 3) ls (rest))) : W p l e R s m args below meth c H locs cells slots Q (F0 m (pc) ls (.int (iI y) :: .int (iI x) :: rest)) := lv_icmp_ne hexec hb hdg ht (fun h => kt (fun q => h ((iI_eq hx hy).mpr q))) (fun h => kf ((iI_eq hx hy).mp h))
theorem xi_icmp_lt (hexec : p.tables.exec = Jvm.exec) (hb : c.code = cc) {x y : Int} {off : Int} {tgt : Nat} (hx : rI x) (hy : rI y) (hdg : decode cc pc = .ok (.if_icmp .lt off, 3)) (ht : (pc : Int) + off = (tgt : Int))
    (kt : x < y → W p l e R s m args below meth c H locs cells slots Q (F0 m (tgt) ls (rest))) (kf : y ≤ x → W p l e R s m args below meth c H locs cells slots Q (F0 m (pc + 3) ls (rest))) : W p l e R s m args below meth c H locs cells slots Q (F0 m (pc) ls (.int (iI y) :: .int (iI x) :: rest)) := lv_icmp_lt hexec hb hdg ht (fun h => kt ((iI_lt hx hy).mp h)) (fun h => kf (by have h2 := mt (iI_lt hx hy).mpr h; omega))
theorem xi_icmp_ge (hexec : p.tables.exec = Jvm.exec) (hb : c.code = cc) {x y : Int} {off : Int} {tgt : Nat} (hx : rI x) (hy : rI y) (hdg : decode cc pc = .ok (.if_icmp .ge off, 3)) (ht : (pc : Int) + off = (tgt : Int))
    (kt : y ≤ x → W p l e R s m args below meth c H locs cells slots Q (F0 m (tgt) ls (rest))) (kf : x < y → W p l e R s m args below meth c H locs cells slots Q (F0 m (pc + 3) ls (rest))) : W p l e R s m args below meth c H locs cells slots Q (F0 m (pc) ls (.int (iI y) :: .int (iI x) :: rest)) := lv_icmp_ge hexec hb hdg ht (fun h => kt ((iI_le hy hx).mp h)) (fun h => kf (by have h2 := mt (iI_le hy hx).mpr h; omega))
theorem xi_icmp_gt (hexec : p.tables.exec = Jvm.exec) (hb : c.code = cc) {x y : Int} {off : Int} {tgt : Nat} (hx : rI x) (hy : rI y) (hdg : decode cc pc = .ok (.if_icmp .gt off, 3)) (ht : (pc : Int) + off = (tgt : Int))
    (kt : y < x → W p l e R s m args below meth c H locs cells slots Q (F0 m (tgt) ls (rest))) (kf : x ≤ y → W p l e R s m args below meth c H locs cells slots Q (F0 m (pc + 3) ls (rest))) : W p l e R s m args below meth c H locs cells slots Q (F0 m (pc) ls (.int (iI y) :: .int (iI x) :: rest)) := lv_icmp_gt hexec hb hdg ht (fun h => kt ((iI_lt hy hx).mp h)) (fun h => kf (by have h2 := mt (iI_lt hy hx).mpr h; omega))
theorem xi_icmp_le (hexec : p.tables.exec = Jvm.exec) (hb : c.code = cc) {x y : Int} {off : Int} {tgt : Nat} (hx : rI x) (hy : rI y) (hdg : decode cc pc = .ok (.if_icmp .le off, 3)) (ht : (pc : Int) + off = (tgt : Int))
    (kt : x ≤ y → W p l e R s m args below meth c H locs cells slots Q (F0 m (tgt) ls (rest))) (kf : y < x → W p l e R s m args below meth c H locs cells slots Q (F0 m (pc + 3) ls (rest))) : W p l e R s m args below meth c H locs cells slots Q (F0 m (pc) ls (.int (iI y) :: .int (iI x) :: rest)) := lv_icmp_le hexec hb hdg ht (fun h => kt ((iI_le hx hy).mp h)) (fun h => kf (by have h2 := mt (iI_le hx hy).mpr h; omega))
theorem xi_if_eq (hexec : p.tables.exec = Jvm.exec) (hb : c.code = cc) {x : Int} {off : Int} {tgt : Nat} (hx : rI x) (hdg : decode cc pc = .ok (.ifCond .eq off, 3)) (ht : (pc : Int) + off = (tgt : Int))
    (kt : x = 0 → W p l e R s m args below meth c H locs cells slots Q (F0 m (tgt) ls (rest))) (kf : ¬ x = 0 → W p l e R s m args below meth c H locs cells slots Q (F0 m (pc + 3) ls (rest))) : W p l e R s m args below meth c H locs cells slots Q (F0 m (pc) ls (.int (iI x) :: rest)) := lv_if_eq hexec hb hdg ht (fun h => kt ((iI_eq hx rI_0).mp h)) (fun h => kf (fun q => h ((iI_eq hx rI_0).mpr q)))
theorem xi_if_ne (hexec : p.tables.exec = Jvm.exec) (hb : c.code = cc) {x : Int} {off : Int} {tgt : Nat} (hx : rI x) (hdg : decode cc pc = .ok (.ifCond .ne off, 3)) (ht : (pc : Int) + off = (tgt : Int))
    (kt : ¬ x = 0 → W p l e R s m args below meth c H locs cells slots Q (F0 m (tgt) ls (rest))) (kf : x = 0 → W p l e R s m args below meth c H locs cells slots Q (F0 m (pc + 3) ls (rest))) : W p l e R s m args below meth c H locs cells slots Q (F0 m (pc) ls (.int (iI x) :: rest)) := lv_if_ne hexec hb hdg ht (fun h => kt (fun q => h ((iI_eq hx rI_0).mpr q))) (fun h => kf ((iI_eq hx rI_0).mp h))
theorem xi_if_lt (hexec : p.tables.exec = Jvm.exec) (hb : c.code = cc) {x : Int} {off : Int} {tgt : Nat} (hx : rI x) (hdg : decode cc pc = .ok (.ifCond .lt off, 3)) (ht : (pc : Int) + off = (tgt : Int))
    (kt : x < 0 → W p l e R s m args below meth c H locs cells slots Q (F0 m (tgt) ls (rest))) (kf : 0 ≤ x → W p l e R s m args below meth c H locs cells slots Q (F0 m (pc + 3) ls (rest))) : W p l e R s m args below meth c H locs cells slots Q (F0 m (pc) ls (.int (iI x) :: rest)) := lv_if_lt hexec hb hdg ht (fun h => kt ((iI_lt hx rI_0).mp h)) (fun h => kf (by have h2 := mt (iI_lt hx rI_0).mpr h; omega))
theorem xi_if_ge (hexec : p.tables.exec = Jvm.exec) (hb : c.code = cc) {x : Int} {off : Int} {tgt : Nat} (hx : rI x) (hdg : decode cc pc = .ok (.ifCond .ge off, 3)) (ht : (pc : Int) + off = (tgt : Int))
    (kt : 0 ≤ x → W p l e R s m args below meth c H locs cells slots Q (F0 m (tgt) ls (rest))) (kf : x < 0 → W p l e R s m args below meth c H locs cells slots Q (F0 m (pc + 3) ls (rest))) : W p l e R s m args below meth c H locs cells slots Q (F0 m (pc) ls (.int (iI x) :: rest)) := lv_if_ge hexec hb hdg ht (fun h => kt ((iI_le rI_0 hx).mp h)) (fun h => kf (by have h2 := mt (iI_le rI_0 hx).mpr h; omega))
theorem xi_if_gt (hexec : p.tables.exec = Jvm.exec) (hb : c.code = cc) {x : Int} {off : Int} {tgt : Nat} (hx : rI x) (hdg : decode cc pc = .ok (.ifCond .gt off, 3)) (ht : (pc : Int) + off = (tgt : Int))
    (kt : 0 < x → W p l e R s m args below meth c H locs cells slots Q (F0 m (tgt) ls (rest))) (kf : x ≤ 0 → W p l e R s m args below meth c H locs cells slots Q (F0 m (pc + 3) ls (rest))) : W p l e R s m args below meth c H locs cells slots Q (F0 m (pc) ls (.int (iI x) :: rest)) := lv_if_gt hexec hb hdg ht (fun h => kt ((iI_lt rI_0 hx).mp h)) (fun h => kf (by have h2 := mt (iI_lt rI_0 hx).mpr h; omega))
theorem xi_if_le (hexec : p.tables.exec = Jvm.exec) (hb : c.code = cc) {x : Int} {off : Int} {tgt : Nat} (hx : rI x) (hdg : decode cc pc = .ok (.ifCond .le off, 3)) (ht : (pc : Int) + off = (tgt : Int))
    (kt : x ≤ 0 → W p l e R s m args below meth c H locs cells slots Q (F0 m (tgt) ls (rest))) (kf : 0 < x → W p l e R s m args below meth c H locs cells slots Q (F0 m (pc + 3) ls (rest))) : W p l e R s m args below meth c H locs cells slots Q (F0 m (pc) ls (.int (iI x) :: rest)) := lv_if_le hexec hb hdg ht (fun h => kt ((iI_le hx rI_0).mp h)) (fun h => kf (by have h2 := mt (iI_le hx rI_0).mpr h; omega))
theorem xi_ifb_eq (hexec : p.tables.exec = Jvm.exec) (hb : c.code = cc) {b : Bool} {off : Int} {tgt : Nat} (hdg : decode cc pc = .ok (.ifCond .eq off, 3)) (ht : (pc : Int) + off = (tgt : Int))
    (kt : b = false → W p l e R s m args below meth c H locs cells slots Q (F0 m (tgt) ls (rest))) (kf : b = true → W p l e R s m args below meth c H locs cells slots Q (F0 m (pc + 3) ls (rest))) : W p l e R s m args below meth c H locs cells slots Q (F0 m (pc) ls (.int (iI (bI b)) :: rest)) := xi_if_eq hexec hb (bI_r b) hdg ht (fun h => kt ((bI_0 b).mp h)) (fun h => kf (by cases hb2 : b with | true => rfl | false => exact absurd ((bI_0 b).mpr hb2) h))
theorem xi_ifb_ne (hexec : p.tables.exec = Jvm.exec) (hb : c.code = cc) {b : Bool} {off : Int} {tgt : Nat} (hdg : decode cc pc = .ok (.ifCond .ne off, 3)) (ht : (pc : Int) + off = (tgt : Int))
    (kt : b = true → W p l e R s m args below meth c H locs cells slots Q (F0 m (tgt) ls (rest))) (kf : b = false → W p l e R s m args below meth c H locs cells slots Q (F0 m (pc + 3) ls (rest))) : W p l e R s m args below meth c H locs cells slots Q (F0 m (pc) ls (.int (iI (bI b)) :: rest)) := xi_if_ne hexec hb (bI_r b) hdg ht (fun h => kt (by cases hb2 : b with | true => rfl | false => exact absurd ((bI_0 b).mpr hb2) h)) (fun h => kf ((bI_0 b).mp h))
theorem xi_lcmp_eq (hexec : p.tables.exec = Jvm.exec) (hb : c.code = cc) {x y : Int64} {off : Int} {tgt : Nat} (hdl : decode cc pc = .ok (.lcmp, 1)) (hdg : decode cc (pc + 1) = .ok (.ifCond .eq off, 3)) (ht : ((pc + 1 : Nat) : Int) + off = (tgt : Int))
    (kt : x = y → W p l e R s m args below meth c H locs cells slots Q (F0 m (tgt) ls (rest))) (kf : ¬ x = y → W p l e R s m args below meth c H locs cells slots Q (F0 m (pc + 1 + 3) ls (rest))) : W p l e R s m args below meth c H locs cells slots Q (F0 m (pc) ls (.long y :: .long x :: rest)) := W.lcmp hexec hb hdl (lv_if_eq hexec hb hdg ht (fun h => kt ((lg_cmp_eq x y).mp h)) (fun h => kf (fun q => h ((lg_cmp_eq x y).mpr q))))
theorem xi_lcmp_ne (hexec : p.tables.exec = Jvm.exec) (hb : c.code = cc) {x y : Int64} {off : Int} {tgt : Nat} (hdl : decode cc pc = .ok (.lcmp, 1)) (hdg : decode cc (pc + 1) = .ok (.ifCond .ne off, 3)) (ht : ((pc + 1 : Nat) : Int) + off = (tgt : Int))
    (kt : ¬ x = y → W p l e R s m args below meth c H locs cells slots Q (F0 m (tgt) ls (rest))) (kf : x = y → W p l e R s m args below meth c H locs cells slots Q (F0 m (pc + 1 + 3) ls (rest))) : W p l e R s m args below meth c H locs cells slots Q (F0 m (pc) ls (.long y :: .long x :: rest)) := W.lcmp hexec hb hdl (lv_if_ne hexec hb hdg ht (fun h => kt (fun q => h ((lg_cmp_eq x y).mpr q))) (fun h => kf ((lg_cmp_eq x y).mp h)))
theorem xi_lcmp_lt (hexec : p.tables.exec = Jvm.exec) (hb : c.code = cc) {x y : Int64} {off : Int} {tgt : Nat} (hdl : decode cc pc = .ok (.lcmp, 1)) (hdg : decode cc (pc + 1) = .ok (.ifCond .lt off, 3)) (ht : ((pc + 1 : Nat) : Int) + off = (tgt : Int))
    (kt : x < y → W p l e R s m args below meth c H locs cells slots Q (F0 m (tgt) ls (rest))) (kf : ¬ x < y → W p l e R s m args below meth c H locs cells slots Q (F0 m (pc + 1 + 3) ls (rest))) : W p l e R s m args below meth c H locs cells slots Q (F0 m (pc) ls (.long y :: .long x :: rest)) := W.lcmp hexec hb hdl (lv_if_lt hexec hb hdg ht (fun h => kt ((lg_cmp_lt x y).mp h)) (fun h => kf (fun q => h ((lg_cmp_lt x y).mpr q))))
theorem xi_lcmp_ge (hexec : p.tables.exec = Jvm.exec) (hb : c.code = cc) {x y : Int64} {off : Int} {tgt : Nat} (hdl : decode cc pc = .ok (.lcmp, 1)) (hdg : decode cc (pc + 1) = .ok (.ifCond .ge off, 3)) (ht : ((pc + 1 : Nat) : Int) + off = (tgt : Int))
    (kt : ¬ x < y → W p l e R s m args below meth c H locs cells slots Q (F0 m (tgt) ls (rest))) (kf : x < y → W p l e R s m args below meth c H locs cells slots Q (F0 m (pc + 1 + 3) ls (rest))) : W p l e R s m args below meth c H locs cells slots Q (F0 m (pc) ls (.long y :: .long x :: rest)) := W.lcmp hexec hb hdl (lv_if_ge hexec hb hdg ht (fun h => kt (fun q => by have h1 := (lg_cmp_lt x y).mpr q; exact absurd h (by rw [Int32.le_iff_toInt_le]; rw [Int32.lt_iff_toInt_lt] at h1; omega))) (fun h => kf ((lg_cmp_lt x y).mp (by rw [Int32.lt_iff_toInt_lt]; rw [Int32.le_iff_toInt_le] at h; omega))))
theorem xi_lcmp_gt (hexec : p.tables.exec = Jvm.exec) (hb : c.code = cc) {x y : Int64} {off : Int} {tgt : Nat} (hdl : decode cc pc = .ok (.lcmp, 1)) (hdg : decode cc (pc + 1) = .ok (.ifCond .gt off, 3)) (ht : ((pc + 1 : Nat) : Int) + off = (tgt : Int))
    (kt : y < x → W p l e R s m args below meth c H locs cells slots Q (F0 m (tgt) ls (rest))) (kf : ¬ y < x → W p l e R s m args below meth c H locs cells slots Q (F0 m (pc + 1 + 3) ls (rest))) : W p l e R s m args below meth c H locs cells slots Q (F0 m (pc) ls (.long y :: .long x :: rest)) := W.lcmp hexec hb hdl (lv_if_gt hexec hb hdg ht (fun h => kt ((lg_cmp_gt x y).mp h)) (fun h => kf (fun q => h ((lg_cmp_gt x y).mpr q))))
theorem xi_lcmp_le (hexec : p.tables.exec = Jvm.exec) (hb : c.code = cc) {x y : Int64} {off : Int} {tgt : Nat} (hdl : decode cc pc = .ok (.lcmp, 1)) (hdg : decode cc (pc + 1) = .ok (.ifCond .le off, 3)) (ht : ((pc + 1 : Nat) : Int) + off = (tgt : Int))
    (kt : ¬ y < x → W p l e R s m args below meth c H locs cells slots Q (F0 m (tgt) ls (rest))) (kf : y < x → W p l e R s m args below meth c H locs cells slots Q (F0 m (pc + 1 + 3) ls (rest))) : W p l e R s m args below meth c H locs cells slots Q (F0 m (pc) ls (.long y :: .long x :: rest)) := W.lcmp hexec hb hdl (lv_if_le hexec hb hdg ht (fun h => kt (fun q => by have h1 := (lg_cmp_gt x y).mpr q; exact absurd h (by rw [Int32.le_iff_toInt_le]; rw [Int32.lt_iff_toInt_lt] at h1; omega))) (fun h => kf ((lg_cmp_gt x y).mp (by rw [Int32.lt_iff_toInt_lt]; rw [Int32.le_iff_toInt_le] at h; omega))))
/-- a goal at a point that many roads reach: the value on top gets a name -/
theorem xi_eq {z z' : Int} (h : z = z') (k : W p l e R s m args below meth c H locs cells slots Q (F0 m (pc) ls (.int (iI z') :: rest))) : W p l e R s m args below meth c H locs cells slots Q (F0 m (pc) ls (.int (iI z) :: rest)) := by
  rw [h]
  exact k
end GX

/-! families of cells: a world is a function from places to (address, cell) -/
def gT (cy : Nat → ClassId) : List (ClassId × FieldType) := [(cy 0, .int), (cy 1, .long), (cy 2, .boolean), (cy 3, .object "java/lang/Object")]
abbrev gF : Type := Nat → Option (Nat × va_E)
def gup (f : gF) (i : Nat) (a : Nat) (e : va_E) : gF := fun j => if j = i then some (a, e) else f j
theorem gup_s (f : gF) (i a : Nat) (e : va_E) : gup f i a e i = some (a, e) := by simp [gup]
theorem gup_n (f : gF) {i j : Nat} (a : Nat) (e : va_E) (h : j ≠ i) : gup f i a e j = f j := by simp [gup, h]
def gP (D : va_G) (B0 : Nat) (f : gF) (H : Heap) : Prop := (∀ (i : Nat) (q : Nat × va_E), f i = some q → va_at D vwCl q H ∧ B0 ≤ q.1) ∧ ∀ (i j : Nat) (q r : Nat × va_E), f i = some q → f j = some r → q.1 = r.1 → i = j
theorem gP.one {D : va_G} {B0 : Nat} {f : gF} {H : Heap} (h : gP D B0 f H) {i a : Nat} {e : va_E} (hi : f i = some (a, e)) : va_P D vwCl [(a, e)] H := by
  intro k q hk
  match k, hk with
  | 0, hk => cases hk; exact (h.1 i _ hi).1
  | k + 1, hk => simp at hk
theorem gP.set {D : va_G} {B0 : Nat} {f : gF} {H H1 : Heap} (h : gP D B0 f H) {i a : Nat} {e0 e : va_E} (hi : f i = some (a, e0)) (he : va_at D vwCl (a, e) H1) (oq : ∀ q : Nat, q ≠ a → H1[q]? = H[q]?) : gP D B0 (gup f i a e) H1 := by
  have key : ∀ (j : Nat) (q : Nat × va_E), gup f i a e j = some q → (j = i ∧ q = (a, e)) ∨ (j ≠ i ∧ f j = some q) := by
    intro j q hj
    by_cases hji : j = i
    · subst hji
      rw [gup_s] at hj
      exact Or.inl ⟨rfl, (Option.some.inj hj).symm⟩
    · rw [gup_n f a e hji] at hj
      exact Or.inr ⟨hji, hj⟩
  have addr : ∀ (j : Nat) (q : Nat × va_E), gup f i a e j = some q → ∃ q0, f j = some q0 ∧ q0.1 = q.1 := by
    intro j q hj
    rcases key j q hj with ⟨rfl, rfl⟩ | ⟨_, h2⟩
    · exact ⟨_, hi, rfl⟩
    · exact ⟨q, h2, rfl⟩
  refine ⟨fun j q hj => ?_, fun j k q r hj hk hqr => ?_⟩
  · rcases key j q hj with ⟨rfl, rfl⟩ | ⟨hne, h2⟩
    · exact ⟨he, (h.1 j _ hi).2⟩
    · exact ⟨((h.1 j q h2).1).kept (oq q.1 fun z => hne (h.2 j i q (a, e0) h2 hi z)), (h.1 j q h2).2⟩
  · obtain ⟨q0, h1, h2⟩ := addr j q hj
    obtain ⟨r0, h3, h4⟩ := addr k r hk
    exact h.2 j k q0 r0 h1 h3 (h2.trans (hqr.trans h4.symm))
theorem gP.new {D : va_G} {B0 : Nat} {f : gF} {H H1 : Heap} (h : gP D B0 f H) (i : Nat) {e : va_E} (he : va_at D vwCl (H.size, e) H1) (hB : B0 ≤ H.size) (oq : ∀ q : Nat, q < H.size → H1[q]? = H[q]?) : gP D B0 (gup f i H.size e) H1 := by
  have key : ∀ (j : Nat) (q : Nat × va_E), gup f i H.size e j = some q → (j = i ∧ q = (H.size, e)) ∨ (j ≠ i ∧ f j = some q) := by
    intro j q hj
    by_cases hji : j = i
    · subst hji
      rw [gup_s] at hj
      exact Or.inl ⟨rfl, (Option.some.inj hj).symm⟩
    · rw [gup_n f _ e hji] at hj
      exact Or.inr ⟨hji, hj⟩
  refine ⟨fun j q hj => ?_, fun j k q r hj hk hqr => ?_⟩
  · rcases key j q hj with ⟨rfl, rfl⟩ | ⟨hne, h2⟩
    · exact ⟨he, hB⟩
    · exact ⟨((h.1 j q h2).1).kept (oq q.1 (h.1 j q h2).1.lt), (h.1 j q h2).2⟩
  · rcases key j q hj with ⟨rfl, rfl⟩ | ⟨hne, h2⟩ <;> rcases key k r hk with ⟨rfl, rfl⟩ | ⟨hne', h3⟩
    · rfl
    · have h4 : r.1 < H.size := (h.1 k r h3).1.lt
      have h5 : H.size = r.1 := hqr
      omega
    · have h4 : q.1 < H.size := (h.1 j q h2).1.lt
      have h5 : q.1 = H.size := hqr
      omega
    · exact h.2 j k q r h2 h3 hqr
theorem gP.kept {D : va_G} {B0 : Nat} {f : gF} {H H1 : Heap} (h : gP D B0 f H) (oq : ∀ q : Nat, q < H.size → H1[q]? = H[q]?) : gP D B0 f H1 := ⟨fun i q hi => ⟨((h.1 i q hi).1).kept (oq q.1 (h.1 i q hi).1.lt), (h.1 i q hi).2⟩, h.2⟩
/-- fewer cells, or the same under other places -/
theorem gP.via {D : va_G} {B0 : Nat} {f g : gF} {H : Heap} (h : gP D B0 f H) (σ : Nat → Nat) (hσ : ∀ (i : Nat) (q : Nat × va_E), g i = some q → f (σ i) = some q) (hi : ∀ (i j : Nat) (q r : Nat × va_E), g i = some q → g j = some r → σ i = σ j → i = j) : gP D B0 g H :=
  ⟨fun i q hq => h.1 (σ i) q (hσ i q hq), fun i j q r hq hr e => hi i j q r hq hr (h.2 _ _ q r (hσ i q hq) (hσ j r hr) e)⟩
def gW (D : va_G) (B0 : Nat) (H0 : Heap) (f : gF) (H : Heap) (locs : List Loc) : Prop := gP D B0 f H ∧ va_S (fun q : Nat => B0 ≤ q) H0 H locs ∧ B0 ≤ H0.size
/-- what every method of ours takes as given of the tables: the classes, the rows' classes, private members across the nest, what may stand in a row of Objects, the empty row of ArrayList -/
def gNs : List Cond := [.methodLinkNest "MillstreamPayments" 9 yX6_init "MillstreamPayments", .methodLinkNest "MillstreamPayments$Accounts" 11 yX3_init "MillstreamPayments", .methodLinkNest "MillstreamPayments$Accounts" 42 yX11_accountSlot "MillstreamPayments", .methodLinkNest "MillstreamPayments$Accounts" 84 yX11_pairSlot "MillstreamPayments", .methodLinkNest "MillstreamPayments$Batch" 63 yX11_accountSlot "MillstreamPayments", .methodLinkNest "MillstreamPayments$Batch" 74 yX11_pairSlot "MillstreamPayments", .methodLinkNest "MillstreamPayments$Exchange" 11 yX4_init "MillstreamPayments", .methodLinkNest "MillstreamPayments$Exchange" 34 yX1_init "MillstreamPayments", .methodLinkNest "MillstreamPayments$Exchange" 53 yX2_init "MillstreamPayments"]
def gK (D : va_G) (cy : Nat → ClassId) (U : State) : Prop := va_K D vwCl (gT cy) U ∧ ∀ w ∈ gNs, va_Nw w U
theorem gNs_warm {s U : State} (hW : s.WarmedH U.vm) (h : ∀ w ∈ gNs, va_Nw w s) : ∀ w ∈ gNs, va_Nw w U := by
  intro w hw
  have h1 := h w hw
  simp only [gNs, List.mem_cons, List.not_mem_nil, or_false] at hw
  rcases hw with rfl | rfl | rfl | rfl | rfl | rfl | rfl | rfl | rfl <;> exact va_Nw.warmM hW h1
theorem gNs_same {u U : State} (hv : u.vm = U.vm) (h : ∀ w ∈ gNs, va_Nw w u) : ∀ w ∈ gNs, va_Nw w U := by
  intro w hw
  have h1 := h w hw
  simp only [gNs, List.mem_cons, List.not_mem_nil, or_false] at hw
  rcases hw with rfl | rfl | rfl | rfl | rfl | rfl | rfl | rfl | rfl <;> exact va_Nw.same rfl hv h1
theorem gK.warm {D : va_G} {cy : Nat → ClassId} {s U : State} (hW : s.WarmedH U.vm) (h : gK D cy s) : gK D cy U := ⟨va_K.moved hW.alike h.1, gNs_warm hW h.2⟩
theorem gK.calling {D : va_G} {cy : Nat → ClassId} {U : State} {g : JFrame} {mk : MethodId} {a : Array Value} (h : gK D cy U) : gK D cy (U.calling g mk a) := ⟨va_K.moved (u := U) (U := U.calling g mk a) (Vm.Alike.refl U.vm) h.1, gNs_same (u := U) (U := U.calling g mk a) rfl h.2⟩
def gPc (D : va_G) (cy : Nat → ClassId) (B0 : Nat) (av : List Value) (f : gF) : Array Value → State → Prop := va_Pc av (fun U => B0 ≤ U.heap.size ∧ gK D cy U ∧ gP D B0 f U.heap)
def gQ (D : va_G) (B0 : Nat) (post : Option Value → gF → Prop) : Array Value → State → Outcome → State → Prop := fun _ st oc t => (∃ (v : Option Value) (f : gF), oc = .returned v ∧ post v f ∧ gP D B0 f t.heap) ∧ va_F (fun q : Nat => B0 ≤ q) st t
abbrev gM (l : Launch) (y : MethodName) (ws : List Cond) (fr lo : Nat) (D : va_G) (cy : Nat → ClassId) (B0 : Nat) (av : List Value) (f : gF) (post : Option Value → gF → Prop) (mc ms : Nat) : Prop := Met l y ws { frames := fr, cells := mc, slots := ms, locals := lo } (gPc D cy B0 av f) (gQ D B0 post) mc ms (fun q : Nat => B0 ≤ q)
theorem gPc_blind (D : va_G) (cy : Nat → ClassId) (B0 : Nat) (av : List Value) (f : gF) : FrameBlind (gPc D cy B0 av f) := fun _ _ _ _ q => ⟨q.1, q.2.1, q.2.2.1.calling, q.2.2.2⟩

section GR
variable {p : Program} {l : Launch} {e : Env} {R : Room} {s : State} {m : MethodId} {args : Array Value} {below : List Frame} {meth : Method} {c : Code} {H : Heap} {locs : List Loc} {cells slots : Nat} {Q : State → Prop}
variable {cc : ByteArray} {pc : Nat} {ls : Array Slot} {rest : List Value}
variable {D : va_G} {cy : Nat → ClassId} {B0 : Nat} {H0 : Heap} {f : gF} {a : Nat}
theorem g_call {st0 : List Value} {mc ms : Nat} {aa : Array Value} {post : Option Value → gF → Prop} (hr : va_Run p l e R s m args below meth c H locs cells slots mc ms (F0 m pc ls st0) rest (gQ D B0 post aa) (fun q : Nat => B0 ≤ q)) (hW : gW D B0 H0 f H locs)
    (kk : ∀ (v : Option Value) (f1 : gF) (H1 : Heap) (locs1 : List Loc), post v f1 → gW D B0 H0 f1 H1 locs1 → W p l e R s m args below meth c H1 locs1 (cells + mc) (slots + ms) Q (F0 m (pc + 3) ls (v.toList ++ rest))) : W p l e R s m args below meth c H locs cells slots Q (F0 m (pc) ls (st0)) := by
  intro T hT X
  obtain ⟨v, st₀, t, T', L, h0, X', hL, e1, e2, ⟨⟨v', f1, hv, hp, hb⟩, hz, hk⟩, st⟩ := hr T hT X
  cases hv
  rw [h0] at hz hk
  obtain ⟨hP, hS, hB⟩ := hW
  obtain ⟨t2, a1, b1⟩ := kk v f1 T'.heap (locs ++ L) hp ⟨by rw [e1]; exact hb, ⟨Nat.le_trans hS.1 (by rw [e1]; exact hz), fun q h1 h2 => by rw [e1, hk q (Nat.lt_of_lt_of_le h1 hS.1) h2]; exact hS.2.1 q h1 h2, fun q hq => by
      rcases List.mem_append.mp hq with h | h
      · exact hS.2.2 q h
      · exact hL q h⟩, hB⟩ T' rfl X'
  exact ⟨t2, st t2 a1, b1⟩
/-- a call on an object of the world -/
theorem g_callV {y : MethodName} {bytes : ByteArray} {maxL nL mc ms n index fr lo i ci b N : Nat} {ret : Option FieldType} {ws Ts : List Cond} {own C : String} {T : u_T} {fs As st0 : List Value} {post : Option Value → gF → Prop}
    (S : CallFix p m c cc nL s args Ts own) (hM : gM l y ws fr lo D cy B0 (.ref b :: As) f post mc ms) (cw : CallW R s args own C index y bytes maxL ret ws { frames := fr, cells := mc, slots := ms, locals := lo } mc ms n)
    (hK : gK D cy s) (hW : gW D B0 H0 f H locs) (he : f i = some (b, .inr (ci, fs))) (hc : vwCl[ci]? = some (C, T, N)) (hn : As.length = n) (hsize : ls.size = nL) (hstack : st0 = As.reverse ++ .ref b :: rest) (hR : (rest.map fun v => v.category).sum ≤ 8) (hdg : decode cc pc = .ok (.invokevirtual index, 3)) (hf : cells + mc ≤ R.cells ∧ slots + ms ≤ R.slots)
    (kk : ∀ (v : Option Value) (f1 : gF) (H1 : Heap) (locs1 : List Loc), post v f1 → gW D B0 H0 f1 H1 locs1 → W p l e R s m args below meth c H1 locs1 (cells + mc) (slots + ms) Q (F0 m (pc + 3) ls (v.toList ++ rest))) : W p l e R s m args below meth c H locs cells slots Q (F0 m (pc) ls (st0)) := by
  subst hstack
  refine g_call (post := post) (aa := (Value.ref b :: As).toArray) (va_runV (As := As) (rest := rest) S hM cw ⟨gPc_blind D cy B0 _ f, va_recv (q0 := 0) hK.1 (hW.1.one he) hc rfl, fun U hU hWU => ⟨rfl, by rw [hU]; exact Nat.le_trans hW.2.2 hW.2.1.1, hK.warm hWU, by rw [hU]; exact hW.1⟩⟩ rfl hn hsize rfl (lv_room hR) hdg hf) hW kk
theorem g_callS {y : MethodName} {bytes : ByteArray} {maxL nL mc ms n index fr lo : Nat} {ret : Option FieldType} {ws Ts : List Cond} {own : String} {As st0 : List Value} {post : Option Value → gF → Prop}
    (S : CallFix p m c cc nL s args Ts own) (hM : gM l y ws fr lo D cy B0 As f post mc ms) (cw : CallB R s args own index y bytes maxL ret ws { frames := fr, cells := mc, slots := ms, locals := lo } mc ms n ∧ (Cond.static y).before args s = true)
    (hK : gK D cy s) (hW : gW D B0 H0 f H locs) (hn : As.length = n) (hsize : ls.size = nL) (hstack : st0 = As.reverse ++ rest) (hR : (rest.map fun v => v.category).sum ≤ 8) (hdg : decode cc pc = .ok (.invokestatic index, 3)) (hf : cells + mc ≤ R.cells ∧ slots + ms ≤ R.slots)
    (kk : ∀ (v : Option Value) (f1 : gF) (H1 : Heap) (locs1 : List Loc), post v f1 → gW D B0 H0 f1 H1 locs1 → W p l e R s m args below meth c H1 locs1 (cells + mc) (slots + ms) Q (F0 m (pc + 3) ls (v.toList ++ rest))) : W p l e R s m args below meth c H locs cells slots Q (F0 m (pc) ls (st0)) := by
  subst hstack
  refine g_call (post := post) (aa := As.toArray) (va_runS (As := As) (rest := rest) S hM cw ⟨gPc_blind D cy B0 _ f, fun U hU hWU => ⟨rfl, by rw [hU]; exact Nat.le_trans hW.2.2 hW.2.1.1, hK.warm hWU, by rw [hU]; exact hW.1⟩⟩ rfl hn hsize rfl (lv_room hR) hdg hf) hW kk
theorem g_callI {y : MethodName} {bytes : ByteArray} {maxL nL mc ms n index fr lo b : Nat} {ws Ts : List Cond} {own : String} {As st0 : List Value} {post : Option Value → gF → Prop}
    (S : CallFix p m c cc nL s args Ts own) (hM : gM l y ws fr lo D cy B0 (.ref b :: As) f post mc ms) (cw : CallB R s args own index y bytes maxL none ws { frames := fr, cells := mc, slots := ms, locals := lo } mc ms n ∧ y.name = "<init>" ∧ (Cond.instanceMethod y).before args s = true)
    (hK : gK D cy s) (hW : gW D B0 H0 f H locs) (hn : As.length = n) (hsize : ls.size = nL) (hstack : st0 = As.reverse ++ .ref b :: rest) (hR : (rest.map fun v => v.category).sum ≤ 8) (hdg : decode cc pc = .ok (.invokespecial index, 3)) (hf : cells + mc ≤ R.cells ∧ slots + ms ≤ R.slots)
    (kk : ∀ (v : Option Value) (f1 : gF) (H1 : Heap) (locs1 : List Loc), post v f1 → gW D B0 H0 f1 H1 locs1 → W p l e R s m args below meth c H1 locs1 (cells + mc) (slots + ms) Q (F0 m (pc + 3) ls (v.toList ++ rest))) : W p l e R s m args below meth c H locs cells slots Q (F0 m (pc) ls (st0)) := by
  subst hstack
  refine g_call (post := post) (aa := (Value.ref b :: As).toArray) (va_runI (As := As) (rest := rest) S hM cw ⟨gPc_blind D cy B0 _ f, fun U hU hWU => ⟨rfl, by rw [hU]; exact Nat.le_trans hW.2.2 hW.2.1.1, hK.warm hWU, by rw [hU]; exact hW.1⟩⟩ rfl hn hsize rfl (lv_room hR) hdg hf) hW kk
theorem g_callSN {y : MethodName} {bytes : ByteArray} {maxL nL mc ms n index fr lo : Nat} {ret : Option FieldType} {ws Ts : List Cond} {own host : String} {As st0 : List Value} {post : Option Value → gF → Prop}
    (S : CallFix p m c cc nL s args Ts own) (hM : gM l y ws fr lo D cy B0 As f post mc ms) (cw : va_CN R s args own index y host bytes maxL ret ws { frames := fr, cells := mc, slots := ms, locals := lo } mc ms n ∧ (Cond.static y).before args s = true ∧ True)
    (hK : gK D cy s) (hW : gW D B0 H0 f H locs) (hn : As.length = n) (hsize : ls.size = nL) (hstack : st0 = As.reverse ++ rest) (hR : (rest.map fun v => v.category).sum ≤ 8) (hdg : decode cc pc = .ok (.invokestatic index, 3)) (hf : cells + mc ≤ R.cells ∧ slots + ms ≤ R.slots)
    (kk : ∀ (v : Option Value) (f1 : gF) (H1 : Heap) (locs1 : List Loc), post v f1 → gW D B0 H0 f1 H1 locs1 → W p l e R s m args below meth c H1 locs1 (cells + mc) (slots + ms) Q (F0 m (pc + 3) ls (v.toList ++ rest))) : W p l e R s m args below meth c H locs cells slots Q (F0 m (pc) ls (st0)) := by
  subst hstack
  refine g_call (post := post) (aa := As.toArray) (va_runSN (As := As) (rest := rest) S hM cw ⟨gPc_blind D cy B0 _ f, fun U hU hWU => ⟨rfl, by rw [hU]; exact Nat.le_trans hW.2.2 hW.2.1.1, hK.warm hWU, by rw [hU]; exact hW.1⟩⟩ rfl hn hsize rfl (lv_room hR) hdg hf) hW kk
theorem g_callIN {y : MethodName} {bytes : ByteArray} {maxL nL mc ms n index fr lo b : Nat} {ws Ts : List Cond} {own host : String} {As st0 : List Value} {post : Option Value → gF → Prop}
    (S : CallFix p m c cc nL s args Ts own) (hM : gM l y ws fr lo D cy B0 (.ref b :: As) f post mc ms) (cw : va_CN R s args own index y host bytes maxL none ws { frames := fr, cells := mc, slots := ms, locals := lo } mc ms n ∧ y.name = "<init>" ∧ (Cond.instanceMethod y).before args s = true)
    (hK : gK D cy s) (hW : gW D B0 H0 f H locs) (hn : As.length = n) (hsize : ls.size = nL) (hstack : st0 = As.reverse ++ .ref b :: rest) (hR : (rest.map fun v => v.category).sum ≤ 8) (hdg : decode cc pc = .ok (.invokespecial index, 3)) (hf : cells + mc ≤ R.cells ∧ slots + ms ≤ R.slots)
    (kk : ∀ (v : Option Value) (f1 : gF) (H1 : Heap) (locs1 : List Loc), post v f1 → gW D B0 H0 f1 H1 locs1 → W p l e R s m args below meth c H1 locs1 (cells + mc) (slots + ms) Q (F0 m (pc + 3) ls (v.toList ++ rest))) : W p l e R s m args below meth c H locs cells slots Q (F0 m (pc) ls (st0)) := by
  subst hstack
  refine g_call (post := post) (aa := (Value.ref b :: As).toArray) (va_runIN (As := As) (rest := rest) S hM cw ⟨gPc_blind D cy B0 _ f, fun U hU hWU => ⟨rfl, by rw [hU]; exact Nat.le_trans hW.2.2 hW.2.1.1, hK.warm hWU, by rw [hU]; exact hW.1⟩⟩ rfl hn hsize rfl (lv_room hR) hdg hf) hW kk
theorem g_get (hexec : p.tables.exec = Jvm.exec) (hb : c.code = cc) {own ref C : String} {T : u_T} {N ci index : Nat} {Ts : List Cond} (hts : ∀ w ∈ Ts, w.before args s = true) (hin : ∀ w ∈ u_ws C T N, w ∈ Ts) (hown : s.vm.findClass own = some m.cls) (hK : gK D cy s) (hW : gW D B0 H0 f H locs) (i : Nat) {fs : List Value} (he : f i = some (a, .inr (ci, fs))) (hc : vwCl[ci]? = some (C, T, N)) (k : Nat) (hk : k < N) (hlink : (Cond.fieldLink own index ref (T k).2.1 (T k).2.2.1).before args s = true) (hsame : ∀ x, s.fieldFound? (T k).1 (T k).2.1 (T k).2.2.1 = some x → s.fieldFound? ref (T k).2.1 (T k).2.2.1 = some x) {v : Value} (hv : fs[k]? = some v) (hdg : decode cc pc = .ok (.getfield index, 3))
    (kk : W p l e R s m args below meth c H locs cells slots Q (F0 m (pc + 3) ls (v :: rest))) : W p l e R s m args below meth c H locs cells slots Q (F0 m (pc) ls (.ref a :: rest)) := va_get hexec hb hts hin hown hK.1 (hW.1.one he) 0 rfl hc k hk hlink hsame hv hdg kk
theorem g_put (hexec : p.tables.exec = Jvm.exec) (hb : c.code = cc) {own ref C : String} {T : u_T} {N ci index : Nat} {Ts : List Cond} (hts : ∀ w ∈ Ts, w.before args s = true) (hin : ∀ w ∈ u_ws C T N, w ∈ Ts) (ty0 : Nat → FieldType) (hty : ∀ k, k < N → parseFieldDescriptor (T k).2.2.1 = some (ty0 k)) (hnm : ∀ a, a < N → ∀ b, b < N → a ≠ b → (T a).2.1 ≠ (T b).2.1) (hown : s.vm.findClass own = some m.cls) (hK : gK D cy s) (hW : gW D B0 H0 f H locs) (i : Nat) {fs : List Value} (he : f i = some (a, .inr (ci, fs))) (hc : vwCl[ci]? = some (C, T, N)) (k : Nat) (hk : k < N) (hlink : (Cond.fieldLink own index ref (T k).2.1 (T k).2.2.1).before args s = true) (hsame : ∀ x, s.fieldFound? (T k).1 (T k).2.1 (T k).2.2.1 = some x → s.fieldFound? ref (T k).2.1 (T k).2.2.1 = some x) (hfin : (T k).2.2.2 = false) {ty : FieldType} {v : Value} (hd : parseFieldDescriptor (T k).2.2.1 = some ty) (hn : narrow ty v = v) (hfit : fits ty v = true) (hl : k < fs.length)
    (hdg : decode cc pc = .ok (.putfield index, 3)) (kk : ∀ (H1 : Heap) (locs1 : List Loc), gW D B0 H0 (gup f i a (.inr (ci, fs.set k v))) H1 locs1 → W p l e R s m args below meth c H1 locs1 cells slots Q (F0 m (pc + 3) ls (rest))) : W p l e R s m args below meth c H locs cells slots Q (F0 m (pc) ls (v :: .ref a :: rest)) := by
  have hap := va_apart (own := own) hts hin ty0 hty hnm hK.1 hc
  obtain ⟨r, h1, cell, q1, q2, q3, q4⟩ := (hW.1.1 i _ he).1
  have hr : r = (C, T, N) := Option.some.inj (h1.symm.trans hc)
  subst hr
  obtain ⟨hS, hfc, kC, hkC, hkind⟩ := hK.1.1 ci _ hc
  obtain ⟨cf, kf, fi, f0, hi, hsl⟩ := hS k hk
  have hlay := hts _ (hin _ (u_in_lay hk))
  unfold u_lay at hlay
  rw [if_neg (by rw [hfin]; decide)] at hlay
  have hst := (u_facts hfc hkC (u_lays hts hin hk) hi).1
  have h6 := u_store hfc hkC hkind hlay hi hd hn hfit
  refine W.putK hexec hb (f := f0) ⟨hown, hlink, ⟨_, _, _, hsame _ hi⟩, hst⟩ (by rw [q2]; exact h6) q1 q3 (by rw [hsl]; exact k2_hasslot (q4 k hk)) rfl rfl hdg fun H' e1 e2 e3 => ?_
  rw [hsl] at e1 ⊢
  exact kk H' _ ⟨hW.1.set he ⟨_, hc, t_OB.to (V := updV (vp_V fs) k v) ⟨_, e1, q2, q3, t_set q4 hap hk v⟩ (fun j _ => vp_updV_set hl v j)⟩ e3, hW.2.1.put e2 e3 (hW.1.1 i _ he).2, hW.2.2⟩
theorem g_putF (hexec : p.tables.exec = Jvm.exec) (hb : c.code = cc) {own ref C : String} {T : u_T} {N ci index : Nat} {Ts : List Cond} (hts : ∀ w ∈ Ts, w.before args s = true) (hin : ∀ w ∈ u_ws C T N, w ∈ Ts) (ty0 : Nat → FieldType) (hty : ∀ k, k < N → parseFieldDescriptor (T k).2.2.1 = some (ty0 k)) (hnm : ∀ a, a < N → ∀ b, b < N → a ≠ b → (T a).2.1 ≠ (T b).2.1) (hown : s.vm.findClass own = some m.cls) (hK : gK D cy s) (hW : gW D B0 H0 f H locs) (i : Nat) {fs : List Value} (he : f i = some (a, .inr (ci, fs))) (hc : vwCl[ci]? = some (C, T, N)) (k : Nat) (hk : k < N) (hlink : (Cond.fieldLink own index ref (T k).2.1 (T k).2.2.1).before args s = true) (hsame : ∀ x, s.fieldFound? (T k).1 (T k).2.1 (T k).2.2.1 = some x → s.fieldFound? ref (T k).2.1 (T k).2.2.1 = some x) (hfin : (T k).2.2.2 = true) (hin2 : meth.name = "<init>") (hdecl : (T k).1 = own) {ty : FieldType} {v : Value} (hd : parseFieldDescriptor (T k).2.2.1 = some ty) (hn : narrow ty v = v) (hfit : fits ty v = true) (hl : k < fs.length)
    (hdg : decode cc pc = .ok (.putfield index, 3)) (kk : ∀ (H1 : Heap) (locs1 : List Loc), gW D B0 H0 (gup f i a (.inr (ci, fs.set k v))) H1 locs1 → W p l e R s m args below meth c H1 locs1 cells slots Q (F0 m (pc + 3) ls (rest))) : W p l e R s m args below meth c H locs cells slots Q (F0 m (pc) ls (v :: .ref a :: rest)) := by
  have hap := va_apart (own := own) hts hin ty0 hty hnm hK.1 hc
  obtain ⟨r, h1, cell, q1, q2, q3, q4⟩ := (hW.1.1 i _ he).1
  have hr : r = (C, T, N) := Option.some.inj (h1.symm.trans hc)
  subst hr
  obtain ⟨hS, hfc, kC, hkC, hkind⟩ := hK.1.1 ci _ hc
  obtain ⟨cf, kf, fi, f0, hi, hsl⟩ := hS k hk
  have hlay := hts _ (hin _ (u_in_lay hk))
  unfold u_lay at hlay
  rw [if_pos hfin] at hlay
  have hst := (u_facts hfc hkC (u_lays hts hin hk) hi).1
  have hcf : m.cls = cf := by
    obtain ⟨_, _, c', _, _, _, -, -, hf', -, -, -, hown2, -⟩ := Cond.laysFinal_spec hlay
    have e1 : c' = cf := by have := hi.symm.trans hf'; simp at this; exact this.1.symm
    rw [hdecl] at hown2
    rw [← e1]; exact Option.some.inj (hown.symm.trans hown2)
  have h6 := u_fits hfc hkC hkind (Or.inr hlay) hi hd hn hfit
  refine W.putFinK hexec hb hown hlink (hsame _ hi) hst hcf hin2 (by rw [q2]; exact h6) q1 q3 (by rw [hsl]; exact k2_hasslot (q4 k hk)) rfl rfl hdg fun H' e1 e2 e3 => ?_
  rw [hsl] at e1 ⊢
  exact kk H' _ ⟨hW.1.set he ⟨_, hc, t_OB.to (V := updV (vp_V fs) k v) ⟨_, e1, q2, q3, t_set q4 hap hk v⟩ (fun j _ => vp_updV_set hl v j)⟩ e3, hW.2.1.put e2 e3 (hW.1.1 i _ he).2, hW.2.2⟩
theorem g_iald (hexec : p.tables.exec = Jvm.exec) (hb : c.code = cc) (hK : gK D cy s) (hW : gW D B0 H0 f H locs) (i : Nat) {n : Nat} {g : Nat → Int32} (he : f i = some (a, .inl (cy 0, n, .inl g))) {j : Int32} (hin : vp_in j n) (hdg : decode cc pc = .ok (.iaload, 1))
    (kk : W p l e R s m args below meth c H locs cells slots Q (F0 m (pc + 1) ls (.int (g j.toNatClampNeg) :: rest))) : W p l e R s m args below meth c H locs cells slots Q (F0 m (pc) ls (.int j :: .ref a :: rest)) := va_iald (ws := [(a, .inl (cy 0, n, .inl g))]) hexec hb hK.1 (hW.1.one he) 0 0 rfl rfl hin hdg kk
theorem g_zald (hexec : p.tables.exec = Jvm.exec) (hb : c.code = cc) (hK : gK D cy s) (hW : gW D B0 H0 f H locs) (i : Nat) {n : Nat} {g : Nat → Int32} (he : f i = some (a, .inl (cy 2, n, .inl g))) {j : Int32} (hin : vp_in j n) (hdg : decode cc pc = .ok (.baload, 1))
    (kk : W p l e R s m args below meth c H locs cells slots Q (F0 m (pc + 1) ls (.int (g j.toNatClampNeg) :: rest))) : W p l e R s m args below meth c H locs cells slots Q (F0 m (pc) ls (.int j :: .ref a :: rest)) := va_zald (ws := [(a, .inl (cy 2, n, .inl g))]) hexec hb hK.1 (hW.1.one he) 0 2 rfl rfl hin hdg kk
theorem g_lald (hexec : p.tables.exec = Jvm.exec) (hb : c.code = cc) (hK : gK D cy s) (hW : gW D B0 H0 f H locs) (i : Nat) {n : Nat} {g : Nat → Int64} (he : f i = some (a, .inl (cy 1, n, .inr (.inl g)))) {j : Int32} (hin : vp_in j n) (hdg : decode cc pc = .ok (.laload, 1))
    (kk : W p l e R s m args below meth c H locs cells slots Q (F0 m (pc + 1) ls (.long (g j.toNatClampNeg) :: rest))) : W p l e R s m args below meth c H locs cells slots Q (F0 m (pc) ls (.int j :: .ref a :: rest)) := va_lald (ws := [(a, .inl (cy 1, n, .inr (.inl g)))]) hexec hb hK.1 (hW.1.one he) 0 1 rfl rfl hin hdg kk
theorem g_aldq (hexec : p.tables.exec = Jvm.exec) (hb : c.code = cc) (hK : gK D cy s) (hW : gW D B0 H0 f H locs) (i : Nat) {n : Nat} {g : Nat → Option Nat} (he : f i = some (a, .inl (cy 3, n, .inr (.inr (.inr (.inr g)))))) {j : Int32} (hin : vp_in j n) (hdg : decode cc pc = .ok (.aaload, 1))
    (kk : W p l e R s m args below meth c H locs cells slots Q (F0 m (pc + 1) ls (va_rf (g j.toNatClampNeg) :: rest))) : W p l e R s m args below meth c H locs cells slots Q (F0 m (pc) ls (.int j :: .ref a :: rest)) := va_aldq (ws := [(a, .inl (cy 3, n, .inr (.inr (.inr (.inr g)))))]) hexec hb hK.1 (hW.1.one he) 0 3 rfl rfl hin hdg kk
theorem g_iast (hexec : p.tables.exec = Jvm.exec) (hb : c.code = cc) (hK : gK D cy s) (hW : gW D B0 H0 f H locs) (i : Nat) {n : Nat} {g : Nat → Int32} (he : f i = some (a, .inl (cy 0, n, .inl (g)))) {j : Int32} {x : Int32} (hin : vp_in j n) (hdg : decode cc pc = .ok (.iastore, 1))
    (kk : ∀ (H1 : Heap) (locs1 : List Loc), gW D B0 H0 (gup f i a (.inl (cy 0, n, .inl (upd g j.toNatClampNeg x)))) H1 locs1 → W p l e R s m args below meth c H1 locs1 cells slots Q (F0 m (pc + 1) ls (rest))) : W p l e R s m args below meth c H locs cells slots Q (F0 m (pc) ls (.int x :: .int j :: .ref a :: rest)) := by
  refine W.iast hexec hb (hW.1.1 i _ he).1 ((hK.1.2 0 _ rfl).1 n (fun j => .int (g j))) (fun q => by cases q) (by show ¬ (j < 0 ∨ (arrV _ _ _).slots.size ≤ _); rw [arrV_size]; exact hin) rfl rfl hdg fun H1 e z oq => ?_
  refine kk H1 _ ⟨hW.1.set he ?_ oq, hW.2.1.put z oq (hW.1.1 i _ he).2, hW.2.2⟩
  show H1[a]? = some (vp_cell _ _)
  rw [e]
  rw [vp_cell_i, vp_cell_i, arrV_store]
  congr 2
  funext q
  by_cases hq : q = j.toNatClampNeg
  · subst hq
    simp [updV, upd]
    try rfl
  · simp [updV, upd, hq]
theorem g_zast (hexec : p.tables.exec = Jvm.exec) (hb : c.code = cc) (hK : gK D cy s) (hW : gW D B0 H0 f H locs) (i : Nat) {n : Nat} {g : Nat → Int32} (he : f i = some (a, .inl (cy 2, n, .inl (g)))) {j : Int32} {x : Int32} (hin : vp_in j n) (hdg : decode cc pc = .ok (.bastore, 1))
    (kk : ∀ (H1 : Heap) (locs1 : List Loc), gW D B0 H0 (gup f i a (.inl (cy 2, n, .inl (upd g j.toNatClampNeg (vp_nar .boolean x))))) H1 locs1 → W p l e R s m args below meth c H1 locs1 cells slots Q (F0 m (pc + 1) ls (rest))) : W p l e R s m args below meth c H locs cells slots Q (F0 m (pc) ls (.int x :: .int j :: .ref a :: rest)) := by
  refine W.zast hexec hb (hW.1.1 i _ he).1 ((hK.1.2 2 _ rfl).1 n (fun j => .int (g j))) (fun q => by cases q) (by show ¬ (j < 0 ∨ (arrV _ _ _).slots.size ≤ _); rw [arrV_size]; exact hin) rfl rfl hdg fun H1 e z oq => ?_
  refine kk H1 _ ⟨hW.1.set he ?_ oq, hW.2.1.put z oq (hW.1.1 i _ he).2, hW.2.2⟩
  show H1[a]? = some (vp_cell _ _)
  rw [e]
  rw [vp_cell_i, vp_cell_i, arrV_store]
  congr 2
  funext q
  by_cases hq : q = j.toNatClampNeg
  · subst hq
    simp [updV, upd, vp_nar]
    try rfl
  · simp [updV, upd, vp_nar, hq]
theorem g_last (hexec : p.tables.exec = Jvm.exec) (hb : c.code = cc) (hK : gK D cy s) (hW : gW D B0 H0 f H locs) (i : Nat) {n : Nat} {g : Nat → Int64} (he : f i = some (a, .inl (cy 1, n, .inr (.inl (g))))) {j : Int32} {x : Int64} (hin : vp_in j n) (hdg : decode cc pc = .ok (.lastore, 1))
    (kk : ∀ (H1 : Heap) (locs1 : List Loc), gW D B0 H0 (gup f i a (.inl (cy 1, n, .inr (.inl (vp_updL g j.toNatClampNeg x))))) H1 locs1 → W p l e R s m args below meth c H1 locs1 cells slots Q (F0 m (pc + 1) ls (rest))) : W p l e R s m args below meth c H locs cells slots Q (F0 m (pc) ls (.long x :: .int j :: .ref a :: rest)) := by
  refine W.last hexec hb (hW.1.1 i _ he).1 ((hK.1.2 1 _ rfl).1 n (fun j => .long (g j))) (fun q => by cases q) (by show ¬ (j < 0 ∨ (arrV _ _ _).slots.size ≤ _); rw [arrV_size]; exact hin) rfl rfl hdg fun H1 e z oq => ?_
  refine kk H1 _ ⟨hW.1.set he ?_ oq, hW.2.1.put z oq (hW.1.1 i _ he).2, hW.2.2⟩
  show H1[a]? = some (vp_cell _ _)
  rw [e]
  rw [vp_cell_l, vp_cell_l, arrV_store]
  congr 2
  funext q
  by_cases hq : q = j.toNatClampNeg
  · subst hq
    simp [updV, vp_updL]
    try rfl
  · simp [updV, vp_updL, hq]
theorem g_alen (hexec : p.tables.exec = Jvm.exec) (hb : c.code = cc) (hK : gK D cy s) (hW : gW D B0 H0 f H locs) (i : Nat) {x : vp_A} {ci : Nat} (he : f i = some (a, .inl (cy ci, x))) {ty : FieldType} (ht : (gT cy)[ci]? = some (cy ci, ty)) {v : Int32} (hv : Int32.ofNat x.1 = v) (hdg : decode cc pc = .ok (.arraylength, 1))
    (kk : W p l e R s m args below meth c H locs cells slots Q (F0 m (pc + 1) ls (.int v :: rest))) : W p l e R s m args below meth c H locs cells slots Q (F0 m (pc) ls (.ref a :: rest)) := va_alen (ws := [(a, .inl (cy ci, x))]) hexec hb hK.1 (hW.1.one he) 0 ci rfl ht hv hdg kk
theorem g_new (hexec : p.tables.exec = Jvm.exec) (hb : c.code = cc) {own C : String} {T : u_T} {N ci index : Nat} {Ts : List Cond} (hts : ∀ w ∈ Ts, w.before args s = true) (hin : ∀ w ∈ u_ws C T N, w ∈ Ts) (ty : Nat → FieldType) (hty : ∀ k, k < N → parseFieldDescriptor (T k).2.2.1 = some (ty k)) (hown : s.vm.findClass own = some m.cls) (hcl : (Cond.classLink own index C).before args s = true) (hinst : (Cond.instantiable C N).before args s = true) (hini : (Cond.initialized C).before args s = true)
    (hK : gK D cy s) (hW : gW D B0 H0 f H locs) (i : Nat) (hc : vwCl[ci]? = some (C, T, N)) {fs : List Value} (hfs : ∀ j, j < N → defaultValue (ty j) = vp_V fs j) (hcells : cells + 1 ≤ R.cells) (hslots : slots + N ≤ R.slots) (hdg : decode cc pc = .ok (.new index, 3))
    (kk : ∀ (q : Nat) (H1 : Heap), gW D B0 H0 (gup f i q (.inr (ci, fs))) H1 locs → (∀ (j : Nat) (r : Nat × va_E), f j = some r → r.1 ≠ q) → W p l e R s m args below meth c H1 locs (cells + 1) (slots + N) Q (F0 m (pc + 3) ls (.ref q :: rest))) : W p l e R s m args below meth c H locs cells slots Q (F0 m (pc) ls (rest)) := by
  have hKn := hK.1.1 ci _ hc
  refine W.newcK hexec hb hown hcl hinst hini rfl hdg hcells hslots hKn.2.1 rfl fun H1 kC hkC e1 z1 o1 => ?_
  refine kk H.size H1 ⟨hW.1.new i ⟨_, hc, (u_born ty hts hin hKn hkC e1 hty).to hfs⟩ (Nat.le_trans hW.2.2 hW.2.1.1) o1, ⟨Nat.le_trans hW.2.1.1 (by omega), fun x h1 h2 => (o1 x (Nat.lt_of_lt_of_le h1 hW.2.1.1)).trans (hW.2.1.2.1 x h1 h2), hW.2.1.2.2⟩, hW.2.2⟩ (fun j r hj hr => ?_)
  have h5 := (hW.1.1 j r hj).1.lt
  omega
theorem g_newa (hexec : p.tables.exec = Jvm.exec) (hb : c.code = cc) {atype : ArrayType} (harr : (Cond.arrayClass (newarray.typeOf atype)).before args s = true) {ty : FieldType} {ci : Nat} (hty : newarray.typeOf atype = ty) (hK : gK D cy s) (hT : (gT cy)[ci]? = some (cy ci, ty)) (hTn : ∀ cA : ClassId, s.vm.findClass ("[" ++ ty.toString) = some cA → cA = cy ci) (hW : gW D B0 H0 f H locs) (i : Nat)
    {n : Int32} {N' : Nat} {a0 : vp_A} (ha : ∀ cA : ClassId, vp_cell cA a0 = arrV cA N' (fun _ => defaultValue ty)) (hn : ¬ n < 0) (hN : n.toNatClampNeg = N') (hbytes : N' * componentBytes ty ≤ 536870912) (hcells : cells + 1 ≤ R.cells) (hslots : slots + N' ≤ R.slots) (hdg : decode cc pc = .ok (.newarray atype, 2))
    (kk : ∀ (q : Nat) (H1 : Heap), gW D B0 H0 (gup f i q (.inl (cy ci, a0))) H1 locs → (∀ (j : Nat) (r : Nat × va_E), f j = some r → r.1 ≠ q) → W p l e R s m args below meth c H1 locs (cells + 1) (slots + N') Q (F0 m (pc + 2) ls (.ref q :: rest))) : W p l e R s m args below meth c H locs cells slots Q (F0 m (pc) ls (.int n :: rest)) := by
  subst hty
  refine va_newaK hexec hb harr rfl hdg rfl hn hN hbytes hcells hslots rfl fun H1 cA e1 z1 o1 hAr hNm => ?_
  have hcA : cA = cy ci := hTn cA hNm
  subst hcA
  refine kk H.size H1 ⟨hW.1.new i ?_ (Nat.le_trans hW.2.2 hW.2.1.1) o1, ⟨Nat.le_trans hW.2.1.1 (by omega), fun x h1 h2 => (o1 x (Nat.lt_of_lt_of_le h1 hW.2.1.1)).trans (hW.2.1.2.1 x h1 h2), hW.2.1.2.2⟩, hW.2.2⟩ (fun j r hj hr => ?_)
  · show H1[H.size]? = some (vp_cell _ _)
    rw [ha]
    exact e1
  · have h5 := (hW.1.1 j r hj).1.lt
    omega
theorem g_iret (hexec : p.tables.exec = Jvm.exec) (hb : c.code = cc) {v : Int32} {post : Option Value → gF → Prop} (hr : meth.sig.returnType = some .int) (hW : gW D B0 s.heap f H locs) (hp : post (some (.int v)) f) (hdg : decode cc pc = .ok (.ireturn, 1)) (hlocks : meth.locks = false) : W p l e R s m args below meth c H locs cells slots (MQ below (gQ D B0 post) args s cells slots (fun q : Nat => B0 ≤ q)) (F0 m pc ls [.int v]) :=
  W.iret hexec hb hr (fun t ht _ => ⟨⟨_, f, rfl, hp, by rw [ht]; exact hW.1⟩, hW.2.1.F ht⟩) hW.2.1.2.2 hdg hlocks
theorem g_lret (hexec : p.tables.exec = Jvm.exec) (hb : c.code = cc) {v : Int64} {post : Option Value → gF → Prop} (hr : meth.sig.returnType = some .long) (hW : gW D B0 s.heap f H locs) (hp : post (some (.long v)) f) (hdg : decode cc pc = .ok (.lreturn, 1)) (hlocks : meth.locks = false) : W p l e R s m args below meth c H locs cells slots (MQ below (gQ D B0 post) args s cells slots (fun q : Nat => B0 ≤ q)) (F0 m pc ls [.long v]) :=
  W.lret hexec hb hr (fun t ht _ => ⟨⟨_, f, rfl, hp, by rw [ht]; exact hW.1⟩, hW.2.1.F ht⟩) hW.2.1.2.2 hdg hlocks
theorem g_zret (hexec : p.tables.exec = Jvm.exec) (hb : c.code = cc) {z : Int} {post : Option Value → gF → Prop} (hr : meth.sig.returnType = some .boolean) (hz : z = 0 ∨ z = 1) (hW : gW D B0 s.heap f H locs) (hp : post (some (.int (iI z))) f) (hdg : decode cc pc = .ok (.ireturn, 1)) (hlocks : meth.locks = false) : W p l e R s m args below meth c H locs cells slots (MQ below (gQ D B0 post) args s cells slots (fun q : Nat => B0 ≤ q)) (F0 m pc ls [.int (iI z)]) :=
  W.zret hexec hb hr (iI_narz hz) (fun t ht _ => ⟨⟨_, f, rfl, hp, by rw [ht]; exact hW.1⟩, hW.2.1.F ht⟩) hW.2.1.2.2 hdg hlocks
theorem g_vret (hexec : p.tables.exec = Jvm.exec) (hb : c.code = cc) {post : Option Value → gF → Prop} (hr : meth.sig.returnType = none) (hW : gW D B0 s.heap f H locs) (hp : post none f) (hdg : decode cc pc = .ok (.return_, 1)) (hlocks : meth.locks = false) : W p l e R s m args below meth c H locs cells slots (MQ below (gQ D B0 post) args s cells slots (fun q : Nat => B0 ≤ q)) (F0 m pc ls []) :=
  W.vret hexec hb hr (fun t ht _ => ⟨⟨_, f, rfl, hp, by rw [ht]; exact hW.1⟩, hW.2.1.F ht⟩) hW.2.1.2.2 hdg hlocks
theorem g_aret (hexec : p.tables.exec = Jvm.exec) (hb : c.code = cc) {v : Value} {n : String} {post : Option Value → gF → Prop} (hr : meth.sig.returnType = some (.object n)) (hv : v = .null ∨ ∃ a, v = .ref a) (hW : gW D B0 s.heap f H locs) (hp : post (some v) f) (hdg : decode cc pc = .ok (.areturn, 1)) (hlocks : meth.locks = false) : W p l e R s m args below meth c H locs cells slots (MQ below (gQ D B0 post) args s cells slots (fun q : Nat => B0 ≤ q)) (F0 m pc ls [v]) :=
  W.aret hexec hb hr (Or.inl ⟨n, rfl⟩) hv (fun t ht _ => ⟨⟨_, f, rfl, hp, by rw [ht]; exact hW.1⟩, hW.2.1.F ht⟩) hW.2.1.2.2 hdg hlocks
/-- the start of a method: what stands there -/
theorem g_start {y : MethodName} {ws ws' : List Cond} {fr lo mc ms : Nat} {av : List Value} {post : Option Value → gF → Prop} {maxL : Nat} {ret : Option FieldType} (hy : plainName y.cls = true) (hw : ws = Cond.code y cc maxL ret :: ws') (hlen : (lg_sl av).length ≤ maxL)
    (body : ∀ (p : Program) (e : Env) (s : State) (m : MethodId) (below : List Frame) (meth : Method) (c : Code) (ls : Array Slot) (H : Heap) (locs : List Loc), CallFix p m c cc maxL s av.toArray ws y.cls → meth.sig.returnType = ret → meth.locks = false → meth.name = y.name → gK D cy s → gW D B0 s.heap f H locs → lv_has ls maxL (lv_args 0 av) →
      W p l e { frames := fr, cells := mc, slots := ms, locals := lo } s m av.toArray below meth c H locs 0 0 (MQ below (gQ D B0 post) av.toArray s mc ms (fun q : Nat => B0 ≤ q)) (F0 m 0 ls [])) : gM l y ws fr lo D cy B0 av f post mc ms := by
  refine Met.ofW (cc := cc) (maxL := maxL) (ret := ret) hy hw ?_
  intro p e s m args below meth c s₁ B hml hv
  obtain ⟨rfl, hB0, hK, hP⟩ := hv
  have hts := atoms_spec (ws := ws) B.pre
  have hown : s.vm.findClass y.cls = some m.cls := findClass_of_methodNamed B.named
  rw [lg_entry_eq]
  exact body p e s m below meth c _ s.heap [] ⟨B.exec, B.bytes, hml, hown, hts⟩ B.returns B.notSynchronized (name_of_methodNamed B.named B.method).1 hK ⟨hP, va_S.rf, hB0⟩ (lv_entry av hlen)
/-- a loop: what holds at its head, and a measure that falls -/
theorem lp_w1 {A1 : Type} {Wg : Heap → List Loc → Array Slot → Prop} (I : A1 → Heap → List Loc → Array Slot → Prop) (μ : A1 → Nat) (hs : ∀ (a1 : A1) (H : Heap) (locs : List Loc) (ls : Array Slot), I a1 H locs ls → (∀ (b1 : A1) (H' : Heap) (locs' : List Loc) (ls' : Array Slot), μ b1 < μ a1 → I b1 H' locs' ls' → Wg H' locs' ls') → Wg H locs ls) : ∀ (a1 : A1) (H : Heap) (locs : List Loc) (ls : Array Slot), I a1 H locs ls → Wg H locs ls := by
  have key : ∀ (n : Nat) (a1 : A1) (H : Heap) (locs : List Loc) (ls : Array Slot), μ a1 < n → I a1 H locs ls → Wg H locs ls := by
    intro n
    induction n with
    | zero => intro a1 H locs ls h; omega
    | succ n ih => intro a1 H locs ls h hI; exact hs a1 H locs ls hI (fun b1 H' locs' ls' hb hI' => ih b1 H' locs' ls' (by omega) hI')
  exact fun a1 H locs ls hI => key (μ a1 + 1) a1 H locs ls (by omega) hI
theorem lp_w2 {A1 A2 : Type} {Wg : Heap → List Loc → Array Slot → Prop} (I : A1 → A2 → Heap → List Loc → Array Slot → Prop) (μ : A1 → A2 → Nat) (hs : ∀ (a1 : A1) (a2 : A2) (H : Heap) (locs : List Loc) (ls : Array Slot), I a1 a2 H locs ls → (∀ (b1 : A1) (b2 : A2) (H' : Heap) (locs' : List Loc) (ls' : Array Slot), μ b1 b2 < μ a1 a2 → I b1 b2 H' locs' ls' → Wg H' locs' ls') → Wg H locs ls) : ∀ (a1 : A1) (a2 : A2) (H : Heap) (locs : List Loc) (ls : Array Slot), I a1 a2 H locs ls → Wg H locs ls :=
  fun a1 a2 => lp_w1 (A1 := A1 × A2) (fun a => I a.1 a.2) (fun a => μ a.1 a.2) (fun a H locs ls hI ih => hs a.1 a.2 H locs ls hI (fun b1 b2 => ih (b1, b2))) (a1, a2)
theorem lp_w3 {A1 A2 A3 : Type} {Wg : Heap → List Loc → Array Slot → Prop} (I : A1 → A2 → A3 → Heap → List Loc → Array Slot → Prop) (μ : A1 → A2 → A3 → Nat) (hs : ∀ (a1 : A1) (a2 : A2) (a3 : A3) (H : Heap) (locs : List Loc) (ls : Array Slot), I a1 a2 a3 H locs ls → (∀ (b1 : A1) (b2 : A2) (b3 : A3) (H' : Heap) (locs' : List Loc) (ls' : Array Slot), μ b1 b2 b3 < μ a1 a2 a3 → I b1 b2 b3 H' locs' ls' → Wg H' locs' ls') → Wg H locs ls) : ∀ (a1 : A1) (a2 : A2) (a3 : A3) (H : Heap) (locs : List Loc) (ls : Array Slot), I a1 a2 a3 H locs ls → Wg H locs ls :=
  fun a1 a2 a3 => lp_w1 (A1 := A1 × A2 × A3) (fun a => I a.1 a.2.1 a.2.2) (fun a => μ a.1 a.2.1 a.2.2) (fun a H locs ls hI ih => hs a.1 a.2.1 a.2.2 H locs ls hI (fun b1 b2 b3 => ih (b1, b2, b3))) (a1, a2, a3)
theorem lp_w4 {A1 A2 A3 A4 : Type} {Wg : Heap → List Loc → Array Slot → Prop} (I : A1 → A2 → A3 → A4 → Heap → List Loc → Array Slot → Prop) (μ : A1 → A2 → A3 → A4 → Nat) (hs : ∀ (a1 : A1) (a2 : A2) (a3 : A3) (a4 : A4) (H : Heap) (locs : List Loc) (ls : Array Slot), I a1 a2 a3 a4 H locs ls → (∀ (b1 : A1) (b2 : A2) (b3 : A3) (b4 : A4) (H' : Heap) (locs' : List Loc) (ls' : Array Slot), μ b1 b2 b3 b4 < μ a1 a2 a3 a4 → I b1 b2 b3 b4 H' locs' ls' → Wg H' locs' ls') → Wg H locs ls) : ∀ (a1 : A1) (a2 : A2) (a3 : A3) (a4 : A4) (H : Heap) (locs : List Loc) (ls : Array Slot), I a1 a2 a3 a4 H locs ls → Wg H locs ls :=
  fun a1 a2 a3 a4 => lp_w1 (A1 := A1 × A2 × A3 × A4) (fun a => I a.1 a.2.1 a.2.2.1 a.2.2.2) (fun a => μ a.1 a.2.1 a.2.2.1 a.2.2.2) (fun a H locs ls hI ih => hs a.1 a.2.1 a.2.2.1 a.2.2.2 H locs ls hI (fun b1 b2 b3 b4 => ih (b1, b2, b3, b4))) (a1, a2, a3, a4)
end GR
end
section
/-! the state that both sides are tied to: whole numbers by field and place, longs by field and place.
 fields: 0 today 1 account 2 line 3 limit 4 paid 5 isOut 6 isHoliday 7 isListed 8 payments 9 from 10 to 11 currency 12 amount 13 payee 14 rank 15 isReal 16 day 17 stays 18 state 19 isReleased 20 officer 21 leg 22 finalOn 23 recalledOn 24 isAnswered 25 message 26 doubles 27 finals 28 finished 29 taken 30 most 31 entries 32 entry 33 isIn 34 more 35 morePaid 36 thrown -/
abbrev ST : Type := (Nat → Int → Int) × (Nat → Int → Int64)
def pI (S : ST) (f : Nat) (k v : Int) : ST := (fun g j => if g = f ∧ j = k then v else S.1 g j, S.2)
def pL (S : ST) (f : Nat) (k : Int) (v : Int64) : ST := (S.1, fun g j => if g = f ∧ j = k then v else S.2 g j)
theorem pI_s (S : ST) (f : Nat) (k v : Int) : (pI S f k v).1 f k = v := by simp [pI]
theorem pI_n (S : ST) {f g : Nat} (k j v : Int) (h : g ≠ f ∨ j ≠ k) : (pI S f k v).1 g j = S.1 g j := by
  have : ¬ (g = f ∧ j = k) := by rintro ⟨a, b⟩; rcases h with h | h <;> contradiction
  simp [pI, this]
theorem pI_f (S : ST) {f g : Nat} (k v : Int) (h : g ≠ f) : (pI S f k v).1 g = S.1 g := by
  funext j
  exact pI_n S k j v (Or.inl h)
theorem pI_2 (S : ST) (f : Nat) (k v : Int) : (pI S f k v).2 = S.2 := rfl
theorem pL_1 (S : ST) (f : Nat) (k : Int) (v : Int64) : (pL S f k v).1 = S.1 := rfl
theorem pL_s (S : ST) (f : Nat) (k : Int) (v : Int64) : (pL S f k v).2 f k = v := by simp [pL]
theorem pL_n (S : ST) {f g : Nat} (k j : Int) (v : Int64) (h : g ≠ f ∨ j ≠ k) : (pL S f k v).2 g j = S.2 g j := by
  have : ¬ (g = f ∧ j = k) := by rintro ⟨a, b⟩; rcases h with h | h <;> contradiction
  simp [pL, this]
theorem pL_f (S : ST) {f g : Nat} (k : Int) (v : Int64) (h : g ≠ f) : (pL S f k v).2 g = S.2 g := by
  funext j
  exact pL_n S k j v (Or.inl h)
def foS {σ : Type} (f : Int → σ → σ) (s : σ) : Nat → σ
  | 0 => s
  | n + 1 => f n (foS f s n)
def alB (q : Int → Bool) : Nat → Bool
  | 0 => true
  | n + 1 => alB q n && q n
def anB (q : Int → Bool) : Nat → Bool
  | 0 => false
  | n + 1 => anB q n || q n
def suL (f : Int → Int64) : Nat → Int64
  | 0 => 0
  | n + 1 => suL f n + f n
def suI (f : Int → Int) : Nat → Int
  | 0 => 0
  | n + 1 => suI f n + f n
theorem alB_iff (q : Int → Bool) : ∀ n : Nat, alB q n = true ↔ ∀ k : Int, 0 ≤ k → k < n → q k = true
  | 0 => ⟨fun _ k h1 h2 => by omega, fun _ => rfl⟩
  | n + 1 => by
    rw [alB, Bool.and_eq_true, alB_iff q n]
    constructor
    · rintro ⟨h1, h2⟩ k h3 h4
      by_cases h : k = n
      · rw [h]; exact h2
      · exact h1 k h3 (by omega)
    · intro h
      exact ⟨fun k h1 h2 => h k h1 (by omega), h n (by omega) (by omega)⟩
theorem suL_congr {f g : Int → Int64} : ∀ {n : Nat}, (∀ k : Int, 0 ≤ k → k < n → f k = g k) → suL f n = suL g n
  | 0, _ => rfl
  | n + 1, h => by rw [suL, suL, suL_congr (fun k h1 h2 => h k h1 (by omega)), h n (by omega) (by omega)]
theorem suI_congr {f g : Int → Int} : ∀ {n : Nat}, (∀ k : Int, 0 ≤ k → k < n → f k = g k) → suI f n = suI g n
  | 0, _ => rfl
  | n + 1, h => by rw [suI, suI, suI_congr (fun k h1 h2 => h k h1 (by omega)), h n (by omega) (by omega)]
theorem foS_congr {σ : Type} {f g : Int → σ → σ} {s : σ} : ∀ {n : Nat}, (∀ k : Int, 0 ≤ k → k < n → ∀ x, f k x = g k x) → foS f s n = foS g s n
  | 0, _ => rfl
  | n + 1, h => by rw [foS, foS, foS_congr (fun k h1 h2 => h k h1 (by omega)), h n (by omega) (by omega)]

def rLo : Nat → Int := fun f => match f with
  | 0 => 0
  | 2 => 0
  | 3 => -1
  | 5 => 0
  | 6 => 0
  | 7 => 0
  | 8 => 0
  | 9 => 0
  | 10 => 0
  | 11 => 0
  | 12 => 0
  | 13 => 0
  | 14 => 0
  | 15 => 0
  | 16 => 0
  | 17 => 0
  | 18 => 0
  | 19 => 0
  | 20 => -1
  | 21 => -1
  | 22 => 0
  | 23 => -1
  | 24 => 0
  | 25 => -1
  | 26 => 0
  | 27 => 0
  | 28 => 0
  | 29 => 0
  | 30 => 0
  | 31 => 0
  | 40 => -1
  | 41 => -1
  | 42 => -1
  | 43 => 0
  | 44 => 0
  | _ => -1000000000
def rHi : Nat → Int := fun f => match f with
  | 0 => 998
  | 2 => 1000000
  | 3 => 1000000
  | 5 => 1
  | 6 => 1
  | 7 => 1
  | 8 => 60
  | 9 => 5
  | 10 => 5
  | 11 => 2
  | 12 => 1000000
  | 13 => 19
  | 14 => 2
  | 15 => 1
  | 16 => 999
  | 17 => 1
  | 18 => 5
  | 19 => 1
  | 20 => 3
  | 21 => 59
  | 22 => 998
  | 23 => 998
  | 24 => 1
  | 25 => 59
  | 26 => 100000
  | 27 => 60
  | 28 => 59
  | 29 => 60
  | 30 => 60
  | 31 => 29990
  | 40 => 3
  | 41 => 998
  | 42 => 1000
  | 43 => 59
  | 44 => 60
  | _ => 1000000000
/-- every number is in its range -/
def wf (S : ST) : Prop := ∀ (f : Nat) (j : Int), rLo f ≤ S.1 f j ∧ S.1 f j ≤ rHi f
theorem wf_pI {S : ST} (h : wf S) {f : Nat} (k v : Int) (hv : rLo f ≤ v ∧ v ≤ rHi f) : wf (pI S f k v) := by
  intro g j
  by_cases q : g = f ∧ j = k
  · obtain ⟨rfl, rfl⟩ := q
    rw [pI_s]
    exact hv
  · have h2 : g ≠ f ∨ j ≠ k := by
      by_cases a : g = f
      · exact Or.inr (fun b => q ⟨a, b⟩)
      · exact Or.inl a
    rw [pI_n S k j v h2]
    exact h g j
theorem wf_pL {S : ST} (h : wf S) (f : Nat) (k : Int) (v : Int64) : wf (pL S f k v) := h
theorem rLo_ge (f : Nat) : -1000000000 ≤ rLo f := by unfold rLo; split <;> omega
theorem rHi_le (f : Nat) : rHi f ≤ 1000000000 := by unfold rHi; split <;> omega
theorem wf_r {S : ST} (h : wf S) (f : Nat) (j : Int) : rI (S.1 f j) := by
  have h1 := h f j
  have h2 := rLo_ge f
  have h3 := rHi_le f
  exact ⟨by omega, by omega⟩
theorem wf_0 {S : ST} (h : wf S) (j : Int) : 0 ≤ S.1 0 j ∧ S.1 0 j ≤ 998 := h 0 j
theorem wf_2 {S : ST} (h : wf S) (j : Int) : 0 ≤ S.1 2 j ∧ S.1 2 j ≤ 1000000 := h 2 j
theorem wf_3 {S : ST} (h : wf S) (j : Int) : -1 ≤ S.1 3 j ∧ S.1 3 j ≤ 1000000 := h 3 j
theorem wf_5 {S : ST} (h : wf S) (j : Int) : 0 ≤ S.1 5 j ∧ S.1 5 j ≤ 1 := h 5 j
theorem wf_6 {S : ST} (h : wf S) (j : Int) : 0 ≤ S.1 6 j ∧ S.1 6 j ≤ 1 := h 6 j
theorem wf_7 {S : ST} (h : wf S) (j : Int) : 0 ≤ S.1 7 j ∧ S.1 7 j ≤ 1 := h 7 j
theorem wf_8 {S : ST} (h : wf S) (j : Int) : 0 ≤ S.1 8 j ∧ S.1 8 j ≤ 60 := h 8 j
theorem wf_9 {S : ST} (h : wf S) (j : Int) : 0 ≤ S.1 9 j ∧ S.1 9 j ≤ 5 := h 9 j
theorem wf_10 {S : ST} (h : wf S) (j : Int) : 0 ≤ S.1 10 j ∧ S.1 10 j ≤ 5 := h 10 j
theorem wf_11 {S : ST} (h : wf S) (j : Int) : 0 ≤ S.1 11 j ∧ S.1 11 j ≤ 2 := h 11 j
theorem wf_12 {S : ST} (h : wf S) (j : Int) : 0 ≤ S.1 12 j ∧ S.1 12 j ≤ 1000000 := h 12 j
theorem wf_13 {S : ST} (h : wf S) (j : Int) : 0 ≤ S.1 13 j ∧ S.1 13 j ≤ 19 := h 13 j
theorem wf_14 {S : ST} (h : wf S) (j : Int) : 0 ≤ S.1 14 j ∧ S.1 14 j ≤ 2 := h 14 j
theorem wf_15 {S : ST} (h : wf S) (j : Int) : 0 ≤ S.1 15 j ∧ S.1 15 j ≤ 1 := h 15 j
theorem wf_16 {S : ST} (h : wf S) (j : Int) : 0 ≤ S.1 16 j ∧ S.1 16 j ≤ 999 := h 16 j
theorem wf_17 {S : ST} (h : wf S) (j : Int) : 0 ≤ S.1 17 j ∧ S.1 17 j ≤ 1 := h 17 j
theorem wf_18 {S : ST} (h : wf S) (j : Int) : 0 ≤ S.1 18 j ∧ S.1 18 j ≤ 5 := h 18 j
theorem wf_19 {S : ST} (h : wf S) (j : Int) : 0 ≤ S.1 19 j ∧ S.1 19 j ≤ 1 := h 19 j
theorem wf_20 {S : ST} (h : wf S) (j : Int) : -1 ≤ S.1 20 j ∧ S.1 20 j ≤ 3 := h 20 j
theorem wf_21 {S : ST} (h : wf S) (j : Int) : -1 ≤ S.1 21 j ∧ S.1 21 j ≤ 59 := h 21 j
theorem wf_22 {S : ST} (h : wf S) (j : Int) : 0 ≤ S.1 22 j ∧ S.1 22 j ≤ 998 := h 22 j
theorem wf_23 {S : ST} (h : wf S) (j : Int) : -1 ≤ S.1 23 j ∧ S.1 23 j ≤ 998 := h 23 j
theorem wf_24 {S : ST} (h : wf S) (j : Int) : 0 ≤ S.1 24 j ∧ S.1 24 j ≤ 1 := h 24 j
theorem wf_25 {S : ST} (h : wf S) (j : Int) : -1 ≤ S.1 25 j ∧ S.1 25 j ≤ 59 := h 25 j
theorem wf_26 {S : ST} (h : wf S) (j : Int) : 0 ≤ S.1 26 j ∧ S.1 26 j ≤ 100000 := h 26 j
theorem wf_27 {S : ST} (h : wf S) (j : Int) : 0 ≤ S.1 27 j ∧ S.1 27 j ≤ 60 := h 27 j
theorem wf_28 {S : ST} (h : wf S) (j : Int) : 0 ≤ S.1 28 j ∧ S.1 28 j ≤ 59 := h 28 j
theorem wf_29 {S : ST} (h : wf S) (j : Int) : 0 ≤ S.1 29 j ∧ S.1 29 j ≤ 60 := h 29 j
theorem wf_30 {S : ST} (h : wf S) (j : Int) : 0 ≤ S.1 30 j ∧ S.1 30 j ≤ 60 := h 30 j
theorem wf_31 {S : ST} (h : wf S) (j : Int) : 0 ≤ S.1 31 j ∧ S.1 31 j ≤ 29990 := h 31 j
theorem wf_40 {S : ST} (h : wf S) (j : Int) : -1 ≤ S.1 40 j ∧ S.1 40 j ≤ 3 := h 40 j
theorem wf_41 {S : ST} (h : wf S) (j : Int) : -1 ≤ S.1 41 j ∧ S.1 41 j ≤ 998 := h 41 j
theorem wf_42 {S : ST} (h : wf S) (j : Int) : -1 ≤ S.1 42 j ∧ S.1 42 j ≤ 1000 := h 42 j
theorem wf_43 {S : ST} (h : wf S) (j : Int) : 0 ≤ S.1 43 j ∧ S.1 43 j ≤ 59 := h 43 j
theorem wf_44 {S : ST} (h : wf S) (j : Int) : 0 ≤ S.1 44 j ∧ S.1 44 j ≤ 60 := h 44 j
/-! the reference's cells -/
def mI (S X : ST) (i : Nat) : Int → Int := if i = 33 ∨ i = 36 then X.1 i else S.1 i
def mL (S X : ST) (i : Nat) : Int → Int64 := if i = 34 ∨ i = 35 then X.2 i else S.2 i
def iA (g : Int → Int) : Nat → Int32 := fun j => iI (g j)
def lA (g : Int → Int64) : Nat → Int64 := fun j => g j
/-- what a field is: 1 a row of ints, 2 of booleans, 3 of longs -/
def mkind : Nat → Nat := fun i => match i with
  | 2 => 1
  | 3 => 1
  | 9 => 1
  | 10 => 1
  | 11 => 1
  | 12 => 1
  | 13 => 1
  | 14 => 1
  | 16 => 1
  | 18 => 1
  | 20 => 1
  | 21 => 1
  | 22 => 1
  | 23 => 1
  | 25 => 1
  | 28 => 1
  | 29 => 1
  | 30 => 1
  | 5 => 2
  | 6 => 2
  | 7 => 2
  | 15 => 2
  | 17 => 2
  | 19 => 2
  | 24 => 2
  | 33 => 2
  | 1 => 3
  | 4 => 3
  | 32 => 3
  | 34 => 3
  | 35 => 3
  | _ => 0
def mlen : Nat → Nat := fun i => match i with
  | 1 => 21
  | 2 => 18
  | 3 => 108
  | 4 => 108
  | 5 => 6
  | 6 => 3000
  | 7 => 20
  | 9 => 60
  | 10 => 60
  | 11 => 60
  | 12 => 60
  | 13 => 60
  | 14 => 60
  | 15 => 60
  | 16 => 60
  | 17 => 60
  | 18 => 60
  | 19 => 60
  | 20 => 60
  | 21 => 60
  | 22 => 60
  | 23 => 60
  | 24 => 60
  | 25 => 600
  | 28 => 60
  | 29 => 6
  | 30 => 6
  | 32 => 150000
  | 33 => 60
  | 34 => 21
  | 35 => 108
  | _ => 0
def mFs (ix : Nat → Nat) (S X : ST) : List Value := [.int (iI (S.1 0 0)), .ref (ix 101), .ref (ix 102), .ref (ix 103), .ref (ix 104), .ref (ix 105), .ref (ix 106), .ref (ix 107), .int (iI (S.1 8 0)), .ref (ix 109), .ref (ix 110), .ref (ix 111), .ref (ix 112), .ref (ix 113), .ref (ix 114), .ref (ix 115), .ref (ix 116), .ref (ix 117), .ref (ix 118), .ref (ix 119), .ref (ix 120), .ref (ix 121), .ref (ix 122), .ref (ix 123), .ref (ix 124), .ref (ix 125), .int (iI (S.1 26 0)), .int (iI (S.1 27 0)), .ref (ix 128), .ref (ix 129), .ref (ix 130), .int (iI (S.1 31 0)), .ref (ix 132), .ref (ix 133), .ref (ix 134), .ref (ix 135), .int (iI (X.1 36 0))]
def mC (cy : Nat → ClassId) (ix : Nat → Nat) (S X : ST) (i : Nat) : Option va_E :=
  if i = 0 then some (.inr (13, mFs ix S X)) else if mkind i = 1 then some (.inl (cy 0, mlen i, .inl (iA (mI S X i)))) else if mkind i = 2 then some (.inl (cy 2, mlen i, .inl (iA (mI S X i)))) else if mkind i = 3 then some (.inl (cy 1, mlen i, .inr (.inl (lA (mL S X i))))) else none
/-- the reference's world: places 0 to 99999 are its own (address ix (100 + i)), the others are G -/
def mW (cy : Nat → ClassId) (ix : Nat → Nat) (S X : ST) (G : gF) : gF := fun i => if i < 100000 then (mC cy ix S X i).map (fun e => (ix (i + 100), e)) else G i
theorem mW_0 (cy : Nat → ClassId) (ix : Nat → Nat) (S X : ST) (G : gF) : mW cy ix S X G 0 = some (ix 100, .inr (13, mFs ix S X)) := rfl
theorem mW_1 (cy : Nat → ClassId) (ix : Nat → Nat) (S X : ST) (G : gF) {i : Nat} (hi : i < 100000) (hk : mkind i = 1) : mW cy ix S X G i = some (ix (i + 100), .inl (cy 0, mlen i, .inl (iA (mI S X i)))) := by
  have h0 : i ≠ 0 := by rintro rfl; revert hk; decide
  simp [mW, mC, hi, hk, h0]
theorem mW_2 (cy : Nat → ClassId) (ix : Nat → Nat) (S X : ST) (G : gF) {i : Nat} (hi : i < 100000) (hk : mkind i = 2) : mW cy ix S X G i = some (ix (i + 100), .inl (cy 2, mlen i, .inl (iA (mI S X i)))) := by
  have h0 : i ≠ 0 := by rintro rfl; revert hk; decide
  simp [mW, mC, hi, hk, h0]
theorem mW_3 (cy : Nat → ClassId) (ix : Nat → Nat) (S X : ST) (G : gF) {i : Nat} (hi : i < 100000) (hk : mkind i = 3) : mW cy ix S X G i = some (ix (i + 100), .inl (cy 1, mlen i, .inr (.inl (lA (mL S X i))))) := by
  have h0 : i ≠ 0 := by rintro rfl; revert hk; decide
  simp [mW, mC, hi, hk, h0]
theorem mkind_sc {f : Nat} (h : mkind f ≠ 0) : f ≠ 0 ∧ f ≠ 8 ∧ f ≠ 26 ∧ f ≠ 27 ∧ f ≠ 31 ∧ f ≠ 36 := by
  refine ⟨?_, ?_, ?_, ?_, ?_, ?_⟩ <;> (rintro rfl; exact h (by decide))
/-- a world whose cells at the place f alone change -/
theorem mW_up {cy : Nat → ClassId} {ix : Nat → Nat} {S X S' X' : ST} {G : gF} {f : Nat} {e : va_E} (hf : f < 100000) (he : mC cy ix S' X' f = some e) (ho : ∀ i : Nat, i ≠ f → mC cy ix S' X' i = mC cy ix S X i) : gup (mW cy ix S X G) f (ix (f + 100)) e = mW cy ix S' X' G := by
  funext i
  by_cases h : i = f
  · subst h
    rw [gup_s]
    simp [mW, hf, he]
  · rw [gup_n _ _ _ h]
    unfold mW
    by_cases hi : i < 100000
    · rw [if_pos hi, if_pos hi, ho i h]
    · rw [if_neg hi, if_neg hi]
theorem mC_pI {cy : Nat → ClassId} {ix : Nat → Nat} {S X : ST} {f i : Nat} {k v : Int} (hi : i ≠ f) (hk : mkind f ≠ 0) : mC cy ix (pI S f k v) X i = mC cy ix S X i := by
  obtain ⟨h1, h2, h3, h4, h5, h6⟩ := mkind_sc hk
  have hF : mFs ix (pI S f k v) X = mFs ix S X := by
    unfold mFs
    rw [pI_f S k v (Ne.symm h1), pI_f S k v (Ne.symm h2), pI_f S k v (Ne.symm h3), pI_f S k v (Ne.symm h4), pI_f S k v (Ne.symm h5)]
  have hI : mI (pI S f k v) X i = mI S X i := by
    unfold mI
    rw [pI_f S k v hi]
  have hL : mL (pI S f k v) X i = mL S X i := rfl
  unfold mC
  rw [hF, hI, hL]
theorem mC_pX {cy : Nat → ClassId} {ix : Nat → Nat} {S X : ST} {f i : Nat} {k v : Int} (hi : i ≠ f) (hk : mkind f ≠ 0) : mC cy ix S (pI X f k v) i = mC cy ix S X i := by
  obtain ⟨h1, h2, h3, h4, h5, h6⟩ := mkind_sc hk
  have hF : mFs ix S (pI X f k v) = mFs ix S X := by
    unfold mFs
    rw [pI_f X k v (Ne.symm h6)]
  have hI : mI S (pI X f k v) i = mI S X i := by
    unfold mI
    rw [pI_f X k v hi]
  have hL : mL S (pI X f k v) i = mL S X i := rfl
  unfold mC
  rw [hF, hI, hL]
theorem mC_pL {cy : Nat → ClassId} {ix : Nat → Nat} {S X : ST} {f i : Nat} {k : Int} {v : Int64} (hi : i ≠ f) : mC cy ix (pL S f k v) X i = mC cy ix S X i := by
  have hF : mFs ix (pL S f k v) X = mFs ix S X := rfl
  have hI : mI (pL S f k v) X i = mI S X i := rfl
  have hL : mL (pL S f k v) X i = mL S X i := by
    unfold mL
    rw [pL_f S k v hi]
  unfold mC
  rw [hF, hI, hL]
theorem mC_pLX {cy : Nat → ClassId} {ix : Nat → Nat} {S X : ST} {f i : Nat} {k : Int} {v : Int64} (hi : i ≠ f) : mC cy ix S (pL X f k v) i = mC cy ix S X i := by
  have hF : mFs ix S (pL X f k v) = mFs ix S X := rfl
  have hI : mI S (pL X f k v) i = mI S X i := rfl
  have hL : mL S (pL X f k v) i = mL S X i := by
    unfold mL
    rw [pL_f X k v hi]
  unfold mC
  rw [hF, hI, hL]
theorem iA_up (g : Int → Int) {k v : Int} {n : Nat} (h0 : 0 ≤ k) (h1 : k < n) (hn : n ≤ 2147483648) : upd (iA g) (iI k).toNatClampNeg (iI v) = iA (fun j => if j = k then v else g j) := by
  rw [iI_clamp ⟨by omega, by omega⟩]
  funext j
  unfold upd iA
  dsimp only
  by_cases h : j = k.toNat
  · rw [if_pos h, if_pos (by omega)]
  · rw [if_neg h, if_neg (by omega)]
theorem lA_up (g : Int → Int64) {k : Int} {v : Int64} {n : Nat} (h0 : 0 ≤ k) (h1 : k < n) (hn : n ≤ 2147483648) : vp_updL (lA g) (iI k).toNatClampNeg v = lA (fun j => if j = k then v else g j) := by
  rw [iI_clamp ⟨by omega, by omega⟩]
  funext j
  unfold vp_updL lA
  dsimp only
  by_cases h : j = k.toNat
  · rw [if_pos h, if_pos (by omega)]
  · rw [if_neg h, if_neg (by omega)]
theorem mlen_le (i : Nat) : mlen i ≤ 150000 := by unfold mlen; split <;> omega
theorem iA_at (g : Int → Int) {k : Int} (h0 : 0 ≤ k) (h1 : k < 2147483648) : iA g (iI k).toNatClampNeg = iI (g k) := by
  rw [iI_clamp ⟨by omega, by omega⟩]
  unfold iA
  rw [Int.toNat_of_nonneg h0]
theorem lA_at (g : Int → Int64) {k : Int} (h0 : 0 ≤ k) (h1 : k < 2147483648) : lA g (iI k).toNatClampNeg = g k := by
  rw [iI_clamp ⟨by omega, by omega⟩]
  unfold lA
  rw [Int.toNat_of_nonneg h0]
theorem pI_fn (S : ST) (f : Nat) (k v : Int) : (pI S f k v).1 f = fun j => if j = k then v else S.1 f j := by
  funext j
  by_cases h : j = k <;> simp [pI, h]
theorem pL_fn (S : ST) (f : Nat) (k : Int) (v : Int64) : (pL S f k v).2 f = fun j => if j = k then v else S.2 f j := by
  funext j
  by_cases h : j = k <;> simp [pL, h]

/-- the reference's own working rows: who is in the set, what accounts and pairs have more by it, the exception's number -/
def mX (I : Int → Bool) (a q : Int → Int64) (t : Int) : ST := (fun f j => if f = 33 then bI (I j) else t, fun f j => if f = 34 then a j else q j)
def iup (I : Int → Bool) (k : Int) (v : Bool) : Int → Bool := fun j => if j = k then v else I j
def lup (a : Int → Int64) (k : Int) (v : Int64) : Int → Int64 := fun j => if j = k then v else a j
theorem iup_s (I : Int → Bool) (k : Int) (v : Bool) : iup I k v k = v := by simp [iup]
theorem iup_n (I : Int → Bool) {k j : Int} (v : Bool) (h : j ≠ k) : iup I k v j = I j := by simp [iup, h]
theorem lup_s (a : Int → Int64) (k : Int) (v : Int64) : lup a k v k = v := by simp [lup]
theorem lup_n (a : Int → Int64) {k j : Int} (v : Int64) (h : j ≠ k) : lup a k v j = a j := by simp [lup, h]
theorem mX_I (I : Int → Bool) (a q : Int → Int64) (t k : Int) (v : Bool) : pI (mX I a q t) 33 k (bI v) = mX (iup I k v) a q t := by
  have h : (pI (mX I a q t) 33 k (bI v)).1 = (mX (iup I k v) a q t).1 := by
    funext f j
    by_cases hf : f = 33
    · subst hf
      by_cases hj : j = k <;> simp [pI, mX, iup, hj]
    · simp [pI, mX, hf]
  exact Prod.ext h rfl
theorem mX_a (I : Int → Bool) (a q : Int → Int64) (t k : Int) (v : Int64) : pL (mX I a q t) 34 k v = mX I (lup a k v) q t := by
  have h : (pL (mX I a q t) 34 k v).2 = (mX I (lup a k v) q t).2 := by
    funext f j
    by_cases hf : f = 34
    · subst hf
      by_cases hj : j = k <;> simp [pL, mX, lup, hj]
    · simp [pL, mX, hf]
  exact Prod.ext rfl h
theorem mC_t {cy : Nat → ClassId} {ix : Nat → Nat} {S : ST} {I : Int → Bool} {a q : Int → Int64} {t t' : Int} {i : Nat} (h0 : i ≠ 0) : mC cy ix S (mX I a q t') i = mC cy ix S (mX I a q t) i := by
  have hL : mL S (mX I a q t') i = mL S (mX I a q t) i := rfl
  by_cases h : i = 36
  · subst h
    rfl
  · have hI : mI S (mX I a q t') i = mI S (mX I a q t) i := by
      unfold mI
      by_cases h3 : i = 33
      · subst h3
        rfl
      · rw [if_neg (by omega), if_neg (by omega)]
    unfold mC
    rw [if_neg h0, if_neg h0, hI, hL]
section MR
variable {p : Program} {l : Launch} {e : Env} {R : Room} {s : State} {m : MethodId} {args : Array Value} {below : List Frame} {meth : Method} {c : Code} {H : Heap} {locs : List Loc} {cells slots : Nat} {Q : State → Prop}
variable {cc : ByteArray} {pc nL : Nat} {ls : Array Slot} {rest : List Value} {Ts : List Cond}
variable {D : va_G} {cy : Nat → ClassId} {B0 : Nat} {H0 : Heap} {ix : Nat → Nat} {S X : ST} {G : gF} {I : Int → Bool} {aM qM : Int → Int64} {tM : Int}
theorem mr_get (K : CallFix p m c cc nL s args Ts RX12) (hK : gK D cy s) (hW : gW D B0 H0 (mW cy ix S X G) H locs) (hin : ∀ w ∈ wsX120, w ∈ Ts) (k : Nat) (hk : k < 37) {index : Nat} (hlink : Cond.fieldLink RX12 index RX12 (TX12 k).2.1 (TX12 k).2.2.1 ∈ Ts) {v : Value} (hv : (mFs ix S X)[k]? = some v) (hdg : decode cc pc = .ok (.getfield index, 3))
    (kk : W p l e R s m args below meth c H locs cells slots Q (F0 m (pc + 3) ls (v :: rest))) : W p l e R s m args below meth c H locs cells slots Q (F0 m (pc) ls (.ref (ix 100) :: rest)) := by
  obtain ⟨hx, hb, hml, hown, hts⟩ := K
  refine g_get (ref := RX12) (T := TX12) (N := 37) (ci := 13) hx hb hts hin hown hK hW 0 (mW_0 cy ix S X G) rfl k hk (hts _ hlink) (fun x h => ?_) hv hdg kk
  have e : (TX12 k).1 = RX12 := by
    unfold TX12
    split <;> rfl
  rwa [e] at h
theorem mr_put (K : CallFix p m c cc nL s args Ts RX12) (hK : gK D cy s) (hW : gW D B0 H0 (mW cy ix S X G) H locs) (hin : ∀ w ∈ wsX120, w ∈ Ts) (k : Nat) (hk : k < 37) {index : Nat} (hlink : Cond.fieldLink RX12 index RX12 (TX12 k).2.1 (TX12 k).2.2.1 ∈ Ts) (hfin : (TX12 k).2.2.2 = false) (hty : (TX12 k).2.2.1 = "I") {S' X' : ST} {v : Int} (hs : (mFs ix S X).set k (.int (iI v)) = mFs ix S' X') (hC : ∀ i : Nat, i ≠ 0 → mC cy ix S' X' i = mC cy ix S X i) (hdg : decode cc pc = .ok (.putfield index, 3))
    (kk : ∀ (H1 : Heap) (locs1 : List Loc), gW D B0 H0 (mW cy ix S' X' G) H1 locs1 → W p l e R s m args below meth c H1 locs1 cells slots Q (F0 m (pc + 3) ls (rest))) : W p l e R s m args below meth c H locs cells slots Q (F0 m (pc) ls (.int (iI v) :: .ref (ix 100) :: rest)) := by
  obtain ⟨hx, hb, hml, hown, hts⟩ := K
  refine g_put (ref := RX12) (T := TX12) (N := 37) (ci := 13) (ty := .int) hx hb hts hin tyX12 tyX12_ok nmX12 hown hK hW 0 (mW_0 cy ix S X G) rfl k hk (hts _ hlink) (fun x h => ?_) hfin (by rw [hty]; decide +kernel) rfl rfl (show k < 37 from hk) hdg (fun H1 locs1 hW1 => kk H1 locs1 ?_)
  · have e : (TX12 k).1 = RX12 := by
      unfold TX12
      split <;> rfl
    rwa [e] at h
  · rw [hs] at hW1
    rwa [mW_up (S' := S') (X' := X') (f := 0) (by decide) (by unfold mC; rw [if_pos rfl]) hC] at hW1
theorem mC_sc {cy : Nat → ClassId} {ix : Nat → Nat} {S X : ST} {f i : Nat} {v : Int} (hk : mkind f = 0) (h0 : i ≠ 0) (hf : f ≠ 33) : mC cy ix (pI S f 0 v) X i = mC cy ix S X i := by
  by_cases h : i = f
  · subst h
    unfold mC
    rw [if_neg h0, if_neg h0]
    simp [hk]
  · have hI : mI (pI S f 0 v) X i = mI S X i := by
      unfold mI
      rw [pI_f S 0 v h]
    have hL : mL (pI S f 0 v) X i = mL S X i := rfl
    unfold mC
    rw [if_neg h0, if_neg h0, hI, hL]
theorem mC_scX {cy : Nat → ClassId} {ix : Nat → Nat} {S X : ST} {i : Nat} {v : Int} (h0 : i ≠ 0) : mC cy ix S (pI X 36 0 v) i = mC cy ix S X i := by
  by_cases h : i = 36
  · subst h
    rfl
  · have hI : mI S (pI X 36 0 v) i = mI S X i := by
      unfold mI
      rw [pI_f X 0 v h]
    have hL : mL S (pI X 36 0 v) i = mL S X i := rfl
    unfold mC
    rw [if_neg h0, if_neg h0, hI, hL]
theorem mr_iald (K : CallFix p m c cc nL s args Ts RX12) (hK : gK D cy s) (hW : gW D B0 H0 (mW cy ix S X G) H locs) (i : Nat) (hi : i < 100000) (hk : mkind i = 1) {n : Nat} (hn : mlen i = n) {a : Nat} (ha : a = ix (i + 100)) {z v : Int} (hz : 0 ≤ z ∧ z < n) (hv : mI S X i z = v) (hdg : decode cc pc = .ok (.iaload, 1))
    (kk : W p l e R s m args below meth c H locs cells slots Q (F0 m (pc + 1) ls (.int (iI v) :: rest))) : W p l e R s m args below meth c H locs cells slots Q (F0 m (pc) ls (.int (iI z) :: .ref a :: rest)) := by
  obtain ⟨hx, hb, hml, hown, hts⟩ := K
  subst hn ha hv
  have h5 := mlen_le i
  refine g_iald hx hb hK hW i (mW_1 cy ix S X G hi hk) (iI_in hz.1 hz.2 (by omega)) hdg ?_
  rw [iA_at _ hz.1 (by omega)]
  exact kk
theorem mr_zald (K : CallFix p m c cc nL s args Ts RX12) (hK : gK D cy s) (hW : gW D B0 H0 (mW cy ix S X G) H locs) (i : Nat) (hi : i < 100000) (hk : mkind i = 2) {n : Nat} (hn : mlen i = n) {a : Nat} (ha : a = ix (i + 100)) {z v : Int} (hz : 0 ≤ z ∧ z < n) (hv : mI S X i z = v) (hdg : decode cc pc = .ok (.baload, 1))
    (kk : W p l e R s m args below meth c H locs cells slots Q (F0 m (pc + 1) ls (.int (iI v) :: rest))) : W p l e R s m args below meth c H locs cells slots Q (F0 m (pc) ls (.int (iI z) :: .ref a :: rest)) := by
  obtain ⟨hx, hb, hml, hown, hts⟩ := K
  subst hn ha hv
  have h5 := mlen_le i
  refine g_zald hx hb hK hW i (mW_2 cy ix S X G hi hk) (iI_in hz.1 hz.2 (by omega)) hdg ?_
  rw [iA_at _ hz.1 (by omega)]
  exact kk
theorem mr_lald (K : CallFix p m c cc nL s args Ts RX12) (hK : gK D cy s) (hW : gW D B0 H0 (mW cy ix S X G) H locs) (i : Nat) (hi : i < 100000) (hk : mkind i = 3) {n : Nat} (hn : mlen i = n) {a : Nat} (ha : a = ix (i + 100)) {z : Int} {v : Int64} (hz : 0 ≤ z ∧ z < n) (hv : mL S X i z = v) (hdg : decode cc pc = .ok (.laload, 1))
    (kk : W p l e R s m args below meth c H locs cells slots Q (F0 m (pc + 1) ls (.long v :: rest))) : W p l e R s m args below meth c H locs cells slots Q (F0 m (pc) ls (.int (iI z) :: .ref a :: rest)) := by
  obtain ⟨hx, hb, hml, hown, hts⟩ := K
  subst hn ha hv
  have h5 := mlen_le i
  refine g_lald hx hb hK hW i (mW_3 cy ix S X G hi hk) (iI_in hz.1 hz.2 (by omega)) hdg ?_
  rw [lA_at _ hz.1 (by omega)]
  exact kk
theorem mr_iast (K : CallFix p m c cc nL s args Ts RX12) (hK : gK D cy s) (hW : gW D B0 H0 (mW cy ix S X G) H locs) (i : Nat) (hi : i < 100000) (hk : mkind i = 1) {n : Nat} (hn : mlen i = n) {a : Nat} (ha : a = ix (i + 100)) {z v : Int} (hz : 0 ≤ z ∧ z < n) (hdg : decode cc pc = .ok (.iastore, 1))
    (kk : ∀ (H1 : Heap) (locs1 : List Loc), gW D B0 H0 (mW cy ix (pI S i z v) X G) H1 locs1 → W p l e R s m args below meth c H1 locs1 cells slots Q (F0 m (pc + 1) ls (rest))) : W p l e R s m args below meth c H locs cells slots Q (F0 m (pc) ls (.int (iI v) :: .int (iI z) :: .ref a :: rest)) := by
  obtain ⟨hx, hb, hml, hown, hts⟩ := K
  subst hn ha
  have h5 := mlen_le i
  have h6 : i ≠ 33 := by rintro rfl; revert hk; decide
  have h7 : i ≠ 36 := by rintro rfl; revert hk; decide
  have h8 : i ≠ 0 := by rintro rfl; revert hk; decide
  refine g_iast hx hb hK hW i (mW_1 cy ix S X G hi hk) (iI_in hz.1 hz.2 (by omega)) hdg (fun H1 locs1 hW1 => kk H1 locs1 ?_)
  rw [iA_up _ hz.1 hz.2 (by omega)] at hW1
  have e : mI S X i = S.1 i := by simp [mI, h6, h7]
  rw [e, ← pI_fn] at hW1
  rwa [mW_up (S' := pI S i z v) (X' := X) hi (by simp [mC, hk, h8, mI, h6, h7]) (fun j hj => mC_pI hj (by rw [hk]; decide))] at hW1
theorem mr_zast (K : CallFix p m c cc nL s args Ts RX12) (hK : gK D cy s) (hW : gW D B0 H0 (mW cy ix S X G) H locs) (i : Nat) (hi : i < 100000) (hk : mkind i = 2) (h6 : i ≠ 33) {n : Nat} (hn : mlen i = n) {a : Nat} (ha : a = ix (i + 100)) {z v : Int} (hz : 0 ≤ z ∧ z < n) (hv : v = 0 ∨ v = 1) (hdg : decode cc pc = .ok (.bastore, 1))
    (kk : ∀ (H1 : Heap) (locs1 : List Loc), gW D B0 H0 (mW cy ix (pI S i z v) X G) H1 locs1 → W p l e R s m args below meth c H1 locs1 cells slots Q (F0 m (pc + 1) ls (rest))) : W p l e R s m args below meth c H locs cells slots Q (F0 m (pc) ls (.int (iI v) :: .int (iI z) :: .ref a :: rest)) := by
  obtain ⟨hx, hb, hml, hown, hts⟩ := K
  subst hn ha
  have h5 := mlen_le i
  have h7 : i ≠ 36 := by rintro rfl; revert hk; decide
  have h8 : i ≠ 0 := by rintro rfl; revert hk; decide
  refine g_zast hx hb hK hW i (mW_2 cy ix S X G hi hk) (iI_in hz.1 hz.2 (by omega)) hdg (fun H1 locs1 hW1 => kk H1 locs1 ?_)
  rw [iI_nar v hv, iA_up _ hz.1 hz.2 (by omega)] at hW1
  have e : mI S X i = S.1 i := by simp [mI, h6, h7]
  rw [e, ← pI_fn] at hW1
  rwa [mW_up (S' := pI S i z v) (X' := X) hi (by simp [mC, hk, h8, mI, h6, h7]) (fun j hj => mC_pI hj (by rw [hk]; decide))] at hW1
theorem mr_zastX (K : CallFix p m c cc nL s args Ts RX12) (hK : gK D cy s) (hW : gW D B0 H0 (mW cy ix S X G) H locs) {a : Nat} (ha : a = ix 133) {z v : Int} (hz : 0 ≤ z ∧ z < (60 : Nat)) (hv : v = 0 ∨ v = 1) (hdg : decode cc pc = .ok (.bastore, 1))
    (kk : ∀ (H1 : Heap) (locs1 : List Loc), gW D B0 H0 (mW cy ix S (pI X 33 z v) G) H1 locs1 → W p l e R s m args below meth c H1 locs1 cells slots Q (F0 m (pc + 1) ls (rest))) : W p l e R s m args below meth c H locs cells slots Q (F0 m (pc) ls (.int (iI v) :: .int (iI z) :: .ref a :: rest)) := by
  obtain ⟨hx, hb, hml, hown, hts⟩ := K
  subst ha
  refine g_zast hx hb hK hW 33 (mW_2 cy ix S X G (by decide) (by decide)) (iI_in hz.1 hz.2 (by decide)) hdg (fun H1 locs1 hW1 => kk H1 locs1 ?_)
  rw [iI_nar v hv, iA_up _ hz.1 hz.2 (by decide)] at hW1
  have e : mI S X 33 = X.1 33 := rfl
  rw [e, ← pI_fn] at hW1
  rwa [mW_up (S' := S) (X' := pI X 33 z v) (f := 33) (by decide) (by simp [mC, mkind, mI]) (fun j hj => mC_pX hj (by decide))] at hW1
theorem mr_last (K : CallFix p m c cc nL s args Ts RX12) (hK : gK D cy s) (hW : gW D B0 H0 (mW cy ix S X G) H locs) (i : Nat) (hi : i < 100000) (hk : mkind i = 3) (h6 : i ≠ 34 ∧ i ≠ 35) {n : Nat} (hn : mlen i = n) {a : Nat} (ha : a = ix (i + 100)) {z : Int} {v : Int64} (hz : 0 ≤ z ∧ z < n) (hdg : decode cc pc = .ok (.lastore, 1))
    (kk : ∀ (H1 : Heap) (locs1 : List Loc), gW D B0 H0 (mW cy ix (pL S i z v) X G) H1 locs1 → W p l e R s m args below meth c H1 locs1 cells slots Q (F0 m (pc + 1) ls (rest))) : W p l e R s m args below meth c H locs cells slots Q (F0 m (pc) ls (.long v :: .int (iI z) :: .ref a :: rest)) := by
  obtain ⟨hx, hb, hml, hown, hts⟩ := K
  subst hn ha
  have h5 := mlen_le i
  have h8 : i ≠ 0 := by rintro rfl; revert hk; decide
  refine g_last hx hb hK hW i (mW_3 cy ix S X G hi hk) (iI_in hz.1 hz.2 (by omega)) hdg (fun H1 locs1 hW1 => kk H1 locs1 ?_)
  rw [lA_up _ hz.1 hz.2 (by omega)] at hW1
  have e : mL S X i = S.2 i := by simp [mL, h6.1, h6.2]
  rw [e, ← pL_fn] at hW1
  rwa [mW_up (S' := pL S i z v) (X' := X) hi (by simp [mC, hk, h8, mL, h6.1, h6.2]) (fun j hj => mC_pL hj)] at hW1
theorem mr_lastX (K : CallFix p m c cc nL s args Ts RX12) (hK : gK D cy s) (hW : gW D B0 H0 (mW cy ix S X G) H locs) (i : Nat) (hi : i < 100000) (hk : mkind i = 3) (h6 : i = 34 ∨ i = 35) {n : Nat} (hn : mlen i = n) {a : Nat} (ha : a = ix (i + 100)) {z : Int} {v : Int64} (hz : 0 ≤ z ∧ z < n) (hdg : decode cc pc = .ok (.lastore, 1))
    (kk : ∀ (H1 : Heap) (locs1 : List Loc), gW D B0 H0 (mW cy ix S (pL X i z v) G) H1 locs1 → W p l e R s m args below meth c H1 locs1 cells slots Q (F0 m (pc + 1) ls (rest))) : W p l e R s m args below meth c H locs cells slots Q (F0 m (pc) ls (.long v :: .int (iI z) :: .ref a :: rest)) := by
  obtain ⟨hx, hb, hml, hown, hts⟩ := K
  subst hn ha
  have h5 := mlen_le i
  have h8 : i ≠ 0 := by rintro rfl; revert hk; decide
  refine g_last hx hb hK hW i (mW_3 cy ix S X G hi hk) (iI_in hz.1 hz.2 (by omega)) hdg (fun H1 locs1 hW1 => kk H1 locs1 ?_)
  rw [lA_up _ hz.1 hz.2 (by omega)] at hW1
  have e : mL S X i = X.2 i := by simp [mL, h6]
  rw [e, ← pL_fn] at hW1
  rwa [mW_up (S' := S) (X' := pL X i z v) hi (by simp [mC, hk, h8, mL, h6]) (fun j hj => mC_pLX hj)] at hW1
theorem mr_zastI (K : CallFix p m c cc nL s args Ts RX12) (hK : gK D cy s) (hW : gW D B0 H0 (mW cy ix S (mX I aM qM tM) G) H locs) {a : Nat} (ha : a = ix 133) {z : Int} {v : Bool} (hz : 0 ≤ z ∧ z < (60 : Nat)) (hdg : decode cc pc = .ok (.bastore, 1))
    (kk : ∀ (H1 : Heap) (locs1 : List Loc), gW D B0 H0 (mW cy ix S (mX (iup I z v) aM qM tM) G) H1 locs1 → W p l e R s m args below meth c H1 locs1 cells slots Q (F0 m (pc + 1) ls (rest))) : W p l e R s m args below meth c H locs cells slots Q (F0 m (pc) ls (.int (iI (bI v)) :: .int (iI z) :: .ref a :: rest)) :=
  mr_zastX K hK hW ha hz (bI_01 v) hdg (fun H1 locs1 hW1 => kk H1 locs1 (by rw [← mX_I]; exact hW1))
theorem mr_last34 (K : CallFix p m c cc nL s args Ts RX12) (hK : gK D cy s) (hW : gW D B0 H0 (mW cy ix S (mX I aM qM tM) G) H locs) {a : Nat} (ha : a = ix 134) {z : Int} {v : Int64} (hz : 0 ≤ z ∧ z < (21 : Nat)) (hdg : decode cc pc = .ok (.lastore, 1))
    (kk : ∀ (H1 : Heap) (locs1 : List Loc), gW D B0 H0 (mW cy ix S (mX I (lup aM z v) qM tM) G) H1 locs1 → W p l e R s m args below meth c H1 locs1 cells slots Q (F0 m (pc + 1) ls (rest))) : W p l e R s m args below meth c H locs cells slots Q (F0 m (pc) ls (.long v :: .int (iI z) :: .ref a :: rest)) :=
  mr_lastX K hK hW 34 (by decide) rfl (Or.inl rfl) rfl ha hz hdg (fun H1 locs1 hW1 => kk H1 locs1 (by rw [← mX_a]; exact hW1))
theorem mX_q (I : Int → Bool) (a q : Int → Int64) (t k : Int) (v : Int64) : mC cy ix S (pL (mX I a q t) 35 k v) = mC cy ix S (mX I a (lup q k v) t) := by
  funext i
  have hF : mFs ix S (pL (mX I a q t) 35 k v) = mFs ix S (mX I a (lup q k v) t) := rfl
  have hI : mI S (pL (mX I a q t) 35 k v) i = mI S (mX I a (lup q k v) t) i := rfl
  have hL : mL S (pL (mX I a q t) 35 k v) i = mL S (mX I a (lup q k v) t) i := by
    unfold mL
    by_cases h : i = 34
    · subst h
      rfl
    · by_cases h5 : i = 35
      · subst h5
        rw [if_pos (Or.inr rfl), if_pos (Or.inr rfl)]
        funext j
        by_cases hj : j = k <;> simp [pL, mX, lup, hj]
      · rw [if_neg (by omega), if_neg (by omega)]
  unfold mC
  rw [hF, hI, hL]
theorem mr_last35 (K : CallFix p m c cc nL s args Ts RX12) (hK : gK D cy s) (hW : gW D B0 H0 (mW cy ix S (mX I aM qM tM) G) H locs) {a : Nat} (ha : a = ix 135) {z : Int} {v : Int64} (hz : 0 ≤ z ∧ z < (108 : Nat)) (hdg : decode cc pc = .ok (.lastore, 1))
    (kk : ∀ (H1 : Heap) (locs1 : List Loc), gW D B0 H0 (mW cy ix S (mX I aM (lup qM z v) tM) G) H1 locs1 → W p l e R s m args below meth c H1 locs1 cells slots Q (F0 m (pc + 1) ls (rest))) : W p l e R s m args below meth c H locs cells slots Q (F0 m (pc) ls (.long v :: .int (iI z) :: .ref a :: rest)) :=
  mr_lastX K hK hW 35 (by decide) rfl (Or.inr rfl) rfl ha hz hdg (fun H1 locs1 hW1 => kk H1 locs1 (by
    have e : mW cy ix S (mX I aM (lup qM z v) tM) G = mW cy ix S (pL (mX I aM qM tM) 35 z v) G := by
      unfold mW
      rw [mX_q]
    rw [e]
    exact hW1))
end MR
end
section
/-! the words of the reference's small methods -/
def sOpen (S : ST) (c d : Int) : Bool := decide (d % 7 < 5) && decide (S.1 6 (1000 * c + d) = 0)
def sEnds (S : ST) (k : Int) : Bool := decide (S.1 18 k = 4) || decide (S.1 18 k = 5)
def sIn (v a b : Int) : Bool := decide (a ≤ v) && decide (v ≤ b)
def sEnt (S : ST) (b o c : Int) (v : Int64) (k : Int) : ST := pI (pL (pL (pL (pL (pL S 32 (5 * S.1 31 0) (Int64.ofInt b)) 32 (5 * S.1 31 0 + 1) (Int64.ofInt o)) 32 (5 * S.1 31 0 + 2) (Int64.ofInt c)) 32 (5 * S.1 31 0 + 3) v) 32 (5 * S.1 31 0 + 4) (Int64.ofInt k)) 31 0 (S.1 31 0 + 1)
def sLess (S : ST) (b c : Int) (v : Int64) : ST := (S.1, if b = -1 then S.2 else (pL S 1 (3 * b + c) (S.2 1 (3 * b + c) - v)).2)
theorem sLess_t {S : ST} {b c : Int} {v : Int64} (h : b = -1) : sLess S b c v = S := by
  unfold sLess
  rw [if_pos h]
theorem sLess_f {S : ST} {b c : Int} {v : Int64} (h : ¬ b = -1) : sLess S b c v = pL S 1 (3 * b + c) (S.2 1 (3 * b + c) - v) := by
  unfold sLess
  rw [if_neg h]
  rfl
def sMore (S : ST) (o c : Int) (v : Int64) : ST := pL S 1 (3 * o + c) (S.2 1 (3 * o + c) + v)
/-- an entry of the book -/
def sBook (S : ST) (b o c : Int) (v : Int64) (k : Int) : ST := sMore (sLess (sEnt S b o c v k) b c v) o c v
/-- which exception a call throws -/
def sGo (a b d : Bool) : Int := if a = false then 1 else if b = false then 2 else if d = false then 3 else 0
set_option maxHeartbeats 4000000 in
set_option maxRecDepth 100000 in
theorem c_M_thrown {l : Launch} {D : va_G} {cy : Nat → ClassId} {B0 : Nat} {ix : Nat → Nat} {S : ST} {I : Int → Bool} {aM qM : Int → Int64} {tM : Int} {G : gF}   : gM l yX12_thrown vX12_thrown 0 0 D cy B0 [.ref (ix 100)] (mW cy ix S (mX I aM qM tM) G) (fun r g => r = some (.int (iI (tM))) ∧ g = mW cy ix S (mX I aM qM tM) G) 0 0 := by
  refine g_start (cc := cX12_thrown) (maxL := 1) (ret := (some .int)) (by decide) rfl (Nat.le_of_ble_eq_true rfl) ?_
  intro p_ e_ s_ m_ be_ me_ co_ ls H locs K hr hlk hnm hK hW hl
  have hin : ∀ w ∈ wsX120, w ∈ vX12_thrown := wsM_cls
  obtain ⟨hx, hb, hml, hown, hts⟩ := id K
  have hl : lv_has ls 1 [(0, .ref (ix 100))] := hl
  refine lv_aload_n hx hb dX12_thrown_0 rfl (lv_at hl 0 rfl) ?_
  refine mr_get K hK hW hin 36 (by decide) lM_thrown (v := .int (iI (tM))) rfl dX12_thrown_1 ?_
  exact g_iret hx hb hr hW ⟨rfl, rfl⟩ dX12_thrown_4 hlk
set_option maxHeartbeats 4000000 in
set_option maxRecDepth 100000 in
theorem c_M_in {l : Launch} {D : va_G} {cy : Nat → ClassId} {B0 : Nat} {f : gF} (v : Int) (a : Int) (b : Int) (hv : rI v) (ha : rI a) (hb0 : rI b) : gM l yX12_in vX12_in 0 0 D cy B0 [.int (iI v), .int (iI a), .int (iI b)] (f) (fun r g => r = some (.int (iI (bI (sIn v a b)))) ∧ g = f) 0 0 := by
  refine g_start (cc := cX12_in) (maxL := 3) (ret := (some .boolean)) (by decide) rfl (Nat.le_of_ble_eq_true rfl) ?_
  intro p_ e_ s_ m_ be_ me_ co_ ls H locs K hr hlk hnm hK hW hl
  obtain ⟨hx, hb, hml, hown, hts⟩ := id K
  have hl : lv_has ls 3 [(0, .int (iI (v))), (1, .int (iI (a))), (2, .int (iI (b)))] := hl
  refine lv_iload_n hx hb dX12_in_0 rfl (lv_at hl 0 rfl) ?_
  refine lv_iload_n hx hb dX12_in_1 rfl (lv_at hl 1 rfl) ?_
  refine xi_icmp_lt (tgt := 14) hx hb ⟨by omega, by omega⟩ ⟨by omega, by omega⟩ dX12_in_2 (by decide) (fun c_1 => ?_) (fun c_1 => ?_)
  · refine xi_iconst hx hb dX12_in_14 ?_
    exact g_zret hx hb hr (Or.inl rfl) hW ⟨congrArg (fun z => some (Value.int (iI z))) (bI_f (by simp only [sIn, Bool.and_eq_true, Bool.or_eq_true, Bool.and_eq_false_iff, Bool.or_eq_false_iff, decide_eq_true_eq, decide_eq_false_iff_not, Bool.not_eq_true, Bool.not_eq_false]; omega)), rfl⟩ dX12_in_15 hlk
  · refine lv_iload_n hx hb dX12_in_5 rfl (lv_at hl 0 rfl) ?_
    refine lv_iload_n hx hb dX12_in_6 rfl (lv_at hl 2 rfl) ?_
    refine xi_icmp_gt (tgt := 14) hx hb ⟨by omega, by omega⟩ ⟨by omega, by omega⟩ dX12_in_7 (by decide) (fun c_2 => ?_) (fun c_2 => ?_)
    · refine xi_iconst hx hb dX12_in_14 ?_
      exact g_zret hx hb hr (Or.inl rfl) hW ⟨congrArg (fun z => some (Value.int (iI z))) (bI_f (by simp only [sIn, Bool.and_eq_true, Bool.or_eq_true, Bool.and_eq_false_iff, Bool.or_eq_false_iff, decide_eq_true_eq, decide_eq_false_iff_not, Bool.not_eq_true, Bool.not_eq_false]; omega)), rfl⟩ dX12_in_15 hlk
    · refine xi_iconst hx hb dX12_in_10 ?_
      refine lv_goto (tgt := 15) hx hb dX12_in_11 (by decide) ?_
      exact g_zret hx hb hr (Or.inr rfl) hW ⟨congrArg (fun z => some (Value.int (iI z))) (bI_t (by simp only [sIn, Bool.and_eq_true, Bool.or_eq_true, Bool.and_eq_false_iff, Bool.or_eq_false_iff, decide_eq_true_eq, decide_eq_false_iff_not, Bool.not_eq_true, Bool.not_eq_false]; omega)), rfl⟩ dX12_in_15 hlk
set_option maxHeartbeats 4000000 in
set_option maxRecDepth 100000 in
theorem c_M_isBank {l : Launch} {D : va_G} {cy : Nat → ClassId} {B0 : Nat} {f : gF} (v : Int) (hv : rI v) : gM l yX12_isBank vX12_isBank 1 22 D cy B0 [.int (iI v)] (f) (fun r g => r = some (.int (iI (bI (sIn v 0 5)))) ∧ g = f) 0 0 := by
  refine g_start (cc := cX12_isBank) (maxL := 1) (ret := (some .boolean)) (by decide) rfl (Nat.le_of_ble_eq_true rfl) ?_
  intro p_ e_ s_ m_ be_ me_ co_ ls H locs K hr hlk hnm hK hW hl
  obtain ⟨hx, hb, hml, hown, hts⟩ := id K
  have hl : lv_has ls 1 [(0, .int (iI (v)))] := hl
  refine lv_iload_n hx hb dX12_isBank_0 rfl (lv_at hl 0 rfl) ?_
  refine xi_iconst hx hb dX12_isBank_1 ?_
  refine xi_iconst hx hb dX12_isBank_2 ?_
  refine g_callS (As := [.int (iI (v)), .int (iI (0)), .int (iI (5))]) (rest := []) K (c_M_in (v) (0) (5) hv ⟨by omega, by omega⟩ ⟨by omega, by omega⟩) (va_cwS 3 hts gM_X12_in rfl rfl rfl (by decide +kernel) ⟨Nat.le_of_ble_eq_true rfl, Nat.le_of_ble_eq_true rfl⟩) hK hW rfl hl.1 rfl (Nat.le_of_ble_eq_true rfl) dX12_isBank_3 ⟨Nat.le_refl _, Nat.le_refl _⟩ (fun v_ f_ H locs hp hW => ?_)
  obtain ⟨hpv, hpe⟩ := hp
  rw [hpe] at hW
  subst hpv
  exact g_zret hx hb hr (bI_01 _) hW ⟨by rfl, rfl⟩ dX12_isBank_6 hlk
set_option maxHeartbeats 4000000 in
set_option maxRecDepth 100000 in
theorem c_M_isCurrency {l : Launch} {D : va_G} {cy : Nat → ClassId} {B0 : Nat} {f : gF} (v : Int) (hv : rI v) : gM l yX12_isCurrency vX12_isCurrency 1 22 D cy B0 [.int (iI v)] (f) (fun r g => r = some (.int (iI (bI (sIn v 0 2)))) ∧ g = f) 0 0 := by
  refine g_start (cc := cX12_isCurrency) (maxL := 1) (ret := (some .boolean)) (by decide) rfl (Nat.le_of_ble_eq_true rfl) ?_
  intro p_ e_ s_ m_ be_ me_ co_ ls H locs K hr hlk hnm hK hW hl
  obtain ⟨hx, hb, hml, hown, hts⟩ := id K
  have hl : lv_has ls 1 [(0, .int (iI (v)))] := hl
  refine lv_iload_n hx hb dX12_isCurrency_0 rfl (lv_at hl 0 rfl) ?_
  refine xi_iconst hx hb dX12_isCurrency_1 ?_
  refine xi_iconst hx hb dX12_isCurrency_2 ?_
  refine g_callS (As := [.int (iI (v)), .int (iI (0)), .int (iI (2))]) (rest := []) K (c_M_in (v) (0) (2) hv ⟨by omega, by omega⟩ ⟨by omega, by omega⟩) (va_cwS 3 hts gM_X12_in rfl rfl rfl (by decide +kernel) ⟨Nat.le_of_ble_eq_true rfl, Nat.le_of_ble_eq_true rfl⟩) hK hW rfl hl.1 rfl (Nat.le_of_ble_eq_true rfl) dX12_isCurrency_3 ⟨Nat.le_refl _, Nat.le_refl _⟩ (fun v_ f_ H locs hp hW => ?_)
  obtain ⟨hpv, hpe⟩ := hp
  rw [hpe] at hW
  subst hpv
  exact g_zret hx hb hr (bI_01 _) hW ⟨by rfl, rfl⟩ dX12_isCurrency_6 hlk
set_option maxHeartbeats 4000000 in
set_option maxRecDepth 100000 in
theorem c_M_isName {l : Launch} {D : va_G} {cy : Nat → ClassId} {B0 : Nat} {f : gF} (v : Int) (hv : rI v) : gM l yX12_isName vX12_isName 1 22 D cy B0 [.int (iI v)] (f) (fun r g => r = some (.int (iI (bI (sIn v 0 19)))) ∧ g = f) 0 0 := by
  refine g_start (cc := cX12_isName) (maxL := 1) (ret := (some .boolean)) (by decide) rfl (Nat.le_of_ble_eq_true rfl) ?_
  intro p_ e_ s_ m_ be_ me_ co_ ls H locs K hr hlk hnm hK hW hl
  obtain ⟨hx, hb, hml, hown, hts⟩ := id K
  have hl : lv_has ls 1 [(0, .int (iI (v)))] := hl
  refine lv_iload_n hx hb dX12_isName_0 rfl (lv_at hl 0 rfl) ?_
  refine xi_iconst hx hb dX12_isName_1 ?_
  refine xi_bipush hx hb dX12_isName_2 (by decide) ?_
  refine g_callS (As := [.int (iI (v)), .int (iI (0)), .int (iI (19))]) (rest := []) K (c_M_in (v) (0) (19) hv ⟨by omega, by omega⟩ ⟨by omega, by omega⟩) (va_cwS 3 hts gM_X12_in rfl rfl rfl (by decide +kernel) ⟨Nat.le_of_ble_eq_true rfl, Nat.le_of_ble_eq_true rfl⟩) hK hW rfl hl.1 rfl (Nat.le_of_ble_eq_true rfl) dX12_isName_4 ⟨Nat.le_refl _, Nat.le_refl _⟩ (fun v_ f_ H locs hp hW => ?_)
  obtain ⟨hpv, hpe⟩ := hp
  rw [hpe] at hW
  subst hpv
  exact g_zret hx hb hr (bI_01 _) hW ⟨by rfl, rfl⟩ dX12_isName_7 hlk
set_option maxHeartbeats 4000000 in
set_option maxRecDepth 100000 in
theorem c_M_isAccount {l : Launch} {D : va_G} {cy : Nat → ClassId} {B0 : Nat} {f : gF} (v : Int) (hv : rI v) : gM l yX12_isAccount vX12_isAccount 1 22 D cy B0 [.int (iI v)] (f) (fun r g => r = some (.int (iI (bI (sIn v 0 6)))) ∧ g = f) 0 0 := by
  refine g_start (cc := cX12_isAccount) (maxL := 1) (ret := (some .boolean)) (by decide) rfl (Nat.le_of_ble_eq_true rfl) ?_
  intro p_ e_ s_ m_ be_ me_ co_ ls H locs K hr hlk hnm hK hW hl
  obtain ⟨hx, hb, hml, hown, hts⟩ := id K
  have hl : lv_has ls 1 [(0, .int (iI (v)))] := hl
  refine lv_iload_n hx hb dX12_isAccount_0 rfl (lv_at hl 0 rfl) ?_
  refine xi_iconst hx hb dX12_isAccount_1 ?_
  refine xi_bipush hx hb dX12_isAccount_2 (by decide) ?_
  refine g_callS (As := [.int (iI (v)), .int (iI (0)), .int (iI (6))]) (rest := []) K (c_M_in (v) (0) (6) hv ⟨by omega, by omega⟩ ⟨by omega, by omega⟩) (va_cwS 3 hts gM_X12_in rfl rfl rfl (by decide +kernel) ⟨Nat.le_of_ble_eq_true rfl, Nat.le_of_ble_eq_true rfl⟩) hK hW rfl hl.1 rfl (Nat.le_of_ble_eq_true rfl) dX12_isAccount_4 ⟨Nat.le_refl _, Nat.le_refl _⟩ (fun v_ f_ H locs hp hW => ?_)
  obtain ⟨hpv, hpe⟩ := hp
  rw [hpe] at hW
  subst hpv
  exact g_zret hx hb hr (bI_01 _) hW ⟨by rfl, rfl⟩ dX12_isAccount_7 hlk
set_option maxHeartbeats 4000000 in
set_option maxRecDepth 100000 in
theorem c_M_isPayment {l : Launch} {D : va_G} {cy : Nat → ClassId} {B0 : Nat} {ix : Nat → Nat} {S : ST} {I : Int → Bool} {aM qM : Int → Int64} {tM : Int} {G : gF} (v : Int) (hv : rI v) (hwf : wf S) : gM l yX12_isPayment vX12_isPayment 1 22 D cy B0 [.ref (ix 100), .int (iI v)] (mW cy ix S (mX I aM qM tM) G) (fun r g => r = some (.int (iI (bI (sIn v 0 (S.1 8 0 - 1))))) ∧ g = mW cy ix S (mX I aM qM tM) G) 0 0 := by
  refine g_start (cc := cX12_isPayment) (maxL := 2) (ret := (some .boolean)) (by decide) rfl (Nat.le_of_ble_eq_true rfl) ?_
  intro p_ e_ s_ m_ be_ me_ co_ ls H locs K hr hlk hnm hK hW hl
  have hin : ∀ w ∈ wsX120, w ∈ vX12_isPayment := wsM_cls
  obtain ⟨hx, hb, hml, hown, hts⟩ := id K
  have hl : lv_has ls 2 [(0, .ref (ix 100)), (1, .int (iI (v)))] := hl
  refine lv_iload_n hx hb dX12_isPayment_0 rfl (lv_at hl 1 rfl) ?_
  refine xi_iconst hx hb dX12_isPayment_1 ?_
  refine lv_aload_n hx hb dX12_isPayment_2 rfl (lv_at hl 0 rfl) ?_
  refine mr_get K hK hW hin 8 (by decide) lM_payments (v := .int (iI (S.1 8 (0)))) rfl dX12_isPayment_3 ?_
  have w_w_1 := wf_8 hwf 0
  refine xi_iconst hx hb dX12_isPayment_6 ?_
  refine xi_isub hx hb dX12_isPayment_7 ?_
  refine g_callS (As := [.int (iI (v)), .int (iI (0)), .int (iI ((S.1 8 (0)) - 1))]) (rest := []) K (c_M_in (v) (0) ((S.1 8 (0)) - 1) hv ⟨by omega, by omega⟩ ⟨by omega, by omega⟩) (va_cwS 3 hts gM_X12_in rfl rfl rfl (by decide +kernel) ⟨Nat.le_of_ble_eq_true rfl, Nat.le_of_ble_eq_true rfl⟩) hK hW rfl hl.1 rfl (Nat.le_of_ble_eq_true rfl) dX12_isPayment_8 ⟨Nat.le_refl _, Nat.le_refl _⟩ (fun v_ f_ H locs hp hW => ?_)
  obtain ⟨hpv, hpe⟩ := hp
  rw [hpe] at hW
  subst hpv
  exact g_zret hx hb hr (bI_01 _) hW ⟨by rfl, rfl⟩ dX12_isPayment_11 hlk
set_option maxHeartbeats 4000000 in
set_option maxRecDepth 100000 in
theorem c_M_of {l : Launch} {D : va_G} {cy : Nat → ClassId} {B0 : Nat} {f : gF} (b : Int) (c : Int)  : gM l yX12_of vX12_of 0 0 D cy B0 [.int (iI b), .int (iI c)] (f) (fun r g => r = some (.int (iI (3 * b + c))) ∧ g = f) 0 0 := by
  refine g_start (cc := cX12_of) (maxL := 2) (ret := (some .int)) (by decide) rfl (Nat.le_of_ble_eq_true rfl) ?_
  intro p_ e_ s_ m_ be_ me_ co_ ls H locs K hr hlk hnm hK hW hl
  obtain ⟨hx, hb, hml, hown, hts⟩ := id K
  have hl : lv_has ls 2 [(0, .int (iI (b))), (1, .int (iI (c)))] := hl
  refine xi_iconst hx hb dX12_of_0 ?_
  refine lv_iload_n hx hb dX12_of_1 rfl (lv_at hl 0 rfl) ?_
  refine xi_imul hx hb dX12_of_2 ?_
  refine lv_iload_n hx hb dX12_of_3 rfl (lv_at hl 1 rfl) ?_
  refine xi_iadd hx hb dX12_of_4 ?_
  exact g_iret hx hb hr hW ⟨rfl, rfl⟩ dX12_of_5 hlk
set_option maxHeartbeats 4000000 in
set_option maxRecDepth 100000 in
theorem c_M_pair {l : Launch} {D : va_G} {cy : Nat → ClassId} {B0 : Nat} {f : gF} (b : Int) (o : Int) (c : Int)  : gM l yX12_pair vX12_pair 0 0 D cy B0 [.int (iI b), .int (iI o), .int (iI c)] (f) (fun r g => r = some (.int (iI (3 * (6 * b + o) + c))) ∧ g = f) 0 0 := by
  refine g_start (cc := cX12_pair) (maxL := 3) (ret := (some .int)) (by decide) rfl (Nat.le_of_ble_eq_true rfl) ?_
  intro p_ e_ s_ m_ be_ me_ co_ ls H locs K hr hlk hnm hK hW hl
  obtain ⟨hx, hb, hml, hown, hts⟩ := id K
  have hl : lv_has ls 3 [(0, .int (iI (b))), (1, .int (iI (o))), (2, .int (iI (c)))] := hl
  refine xi_iconst hx hb dX12_pair_0 ?_
  refine xi_bipush hx hb dX12_pair_1 (by decide) ?_
  refine lv_iload_n hx hb dX12_pair_3 rfl (lv_at hl 0 rfl) ?_
  refine xi_imul hx hb dX12_pair_4 ?_
  refine lv_iload_n hx hb dX12_pair_5 rfl (lv_at hl 1 rfl) ?_
  refine xi_iadd hx hb dX12_pair_6 ?_
  refine xi_imul hx hb dX12_pair_7 ?_
  refine lv_iload_n hx hb dX12_pair_8 rfl (lv_at hl 2 rfl) ?_
  refine xi_iadd hx hb dX12_pair_9 ?_
  exact g_iret hx hb hr hW ⟨rfl, rfl⟩ dX12_pair_10 hlk
set_option maxHeartbeats 4000000 in
set_option maxRecDepth 100000 in
theorem c_M_isOpen {l : Launch} {D : va_G} {cy : Nat → ClassId} {B0 : Nat} {ix : Nat → Nat} {S : ST} {I : Int → Bool} {aM qM : Int → Int64} {tM : Int} {G : gF} (c : Int) (d : Int) (hc : 0 ≤ c ∧ c ≤ 2) (hd : 0 ≤ d ∧ d ≤ 999) (hwf : wf S) : gM l yX12_isOpen vX12_isOpen 0 0 D cy B0 [.ref (ix 100), .int (iI c), .int (iI d)] (mW cy ix S (mX I aM qM tM) G) (fun r g => r = some (.int (iI (bI (sOpen S c d)))) ∧ g = mW cy ix S (mX I aM qM tM) G) 0 0 := by
  refine g_start (cc := cX12_isOpen) (maxL := 3) (ret := (some .boolean)) (by decide) rfl (Nat.le_of_ble_eq_true rfl) ?_
  intro p_ e_ s_ m_ be_ me_ co_ ls H locs K hr hlk hnm hK hW hl
  have hin : ∀ w ∈ wsX120, w ∈ vX12_isOpen := wsM_cls
  obtain ⟨hx, hb, hml, hown, hts⟩ := id K
  have hl : lv_has ls 3 [(0, .ref (ix 100)), (1, .int (iI (c))), (2, .int (iI (d)))] := hl
  refine lv_iload_n hx hb dX12_isOpen_0 rfl (lv_at hl 2 rfl) ?_
  refine xi_bipush hx hb dX12_isOpen_1 (by decide) ?_
  refine xi_irem hx hb ⟨by omega, by omega⟩ ⟨by omega, by omega⟩ dX12_isOpen_3 ?_
  refine xi_iconst hx hb dX12_isOpen_4 ?_
  refine xi_icmp_ge (tgt := 27) hx hb ⟨by omega, by omega⟩ ⟨by omega, by omega⟩ dX12_isOpen_5 (by decide) (fun c_1 => ?_) (fun c_1 => ?_)
  · refine xi_iconst hx hb dX12_isOpen_27 ?_
    exact g_zret hx hb hr (Or.inl rfl) hW ⟨congrArg (fun z => some (Value.int (iI z))) (bI_f (by simp only [sOpen, Bool.and_eq_true, Bool.or_eq_true, Bool.and_eq_false_iff, Bool.or_eq_false_iff, decide_eq_true_eq, decide_eq_false_iff_not, Bool.not_eq_true, Bool.not_eq_false]; omega)), rfl⟩ dX12_isOpen_28 hlk
  · refine lv_aload_n hx hb dX12_isOpen_8 rfl (lv_at hl 0 rfl) ?_
    refine mr_get K hK hW hin 6 (by decide) lM_isHoliday (v := .ref (ix 106)) rfl dX12_isOpen_9 ?_
    refine xi_sipush hx hb dX12_isOpen_12 (by decide) ?_
    refine lv_iload_n hx hb dX12_isOpen_15 rfl (lv_at hl 1 rfl) ?_
    refine xi_imul hx hb dX12_isOpen_16 ?_
    refine lv_iload_n hx hb dX12_isOpen_17 rfl (lv_at hl 2 rfl) ?_
    refine xi_iadd hx hb dX12_isOpen_18 ?_
    refine mr_zald K hK hW 6 (by decide) rfl (n := 3000) rfl rfl ⟨by omega, by omega⟩ (v := S.1 6 ((1000 * c) + d)) rfl dX12_isOpen_19 ?_
    have w_2 := wf_6 hwf ((1000 * c) + d)
    refine xi_if_ne (tgt := 27) hx hb ⟨by omega, by omega⟩ dX12_isOpen_20 (by decide) (fun c_3 => ?_) (fun c_3 => ?_)
    · refine xi_iconst hx hb dX12_isOpen_27 ?_
      exact g_zret hx hb hr (Or.inl rfl) hW ⟨congrArg (fun z => some (Value.int (iI z))) (bI_f (by simp only [sOpen, Bool.and_eq_true, Bool.or_eq_true, Bool.and_eq_false_iff, Bool.or_eq_false_iff, decide_eq_true_eq, decide_eq_false_iff_not, Bool.not_eq_true, Bool.not_eq_false]; omega)), rfl⟩ dX12_isOpen_28 hlk
    · refine xi_iconst hx hb dX12_isOpen_23 ?_
      refine lv_goto (tgt := 28) hx hb dX12_isOpen_24 (by decide) ?_
      exact g_zret hx hb hr (Or.inr rfl) hW ⟨congrArg (fun z => some (Value.int (iI z))) (bI_t (by simp only [sOpen, Bool.and_eq_true, Bool.or_eq_true, Bool.and_eq_false_iff, Bool.or_eq_false_iff, decide_eq_true_eq, decide_eq_false_iff_not, Bool.not_eq_true, Bool.not_eq_false]; omega)), rfl⟩ dX12_isOpen_28 hlk
set_option maxHeartbeats 4000000 in
set_option maxRecDepth 100000 in
theorem c_M_ends {l : Launch} {D : va_G} {cy : Nat → ClassId} {B0 : Nat} {ix : Nat → Nat} {S : ST} {I : Int → Bool} {aM qM : Int → Int64} {tM : Int} {G : gF} (k : Int) (hk : 0 ≤ k ∧ k ≤ 59) (hwf : wf S) : gM l yX12_ends vX12_ends 0 0 D cy B0 [.ref (ix 100), .int (iI k)] (mW cy ix S (mX I aM qM tM) G) (fun r g => r = some (.int (iI (bI (sEnds S k)))) ∧ g = mW cy ix S (mX I aM qM tM) G) 0 0 := by
  refine g_start (cc := cX12_ends) (maxL := 2) (ret := (some .boolean)) (by decide) rfl (Nat.le_of_ble_eq_true rfl) ?_
  intro p_ e_ s_ m_ be_ me_ co_ ls H locs K hr hlk hnm hK hW hl
  have hin : ∀ w ∈ wsX120, w ∈ vX12_ends := wsM_cls
  obtain ⟨hx, hb, hml, hown, hts⟩ := id K
  have hl : lv_has ls 2 [(0, .ref (ix 100)), (1, .int (iI (k)))] := hl
  refine lv_aload_n hx hb dX12_ends_0 rfl (lv_at hl 0 rfl) ?_
  refine mr_get K hK hW hin 18 (by decide) lM_state (v := .ref (ix 118)) rfl dX12_ends_1 ?_
  refine lv_iload_n hx hb dX12_ends_4 rfl (lv_at hl 1 rfl) ?_
  refine mr_iald K hK hW 18 (by decide) rfl (n := 60) rfl rfl ⟨by omega, by omega⟩ (v := S.1 18 (k)) rfl dX12_ends_5 ?_
  have w_1 := wf_18 hwf (k)
  refine xi_iconst hx hb dX12_ends_6 ?_
  refine xi_icmp_eq (tgt := 20) hx hb ⟨by omega, by omega⟩ ⟨by omega, by omega⟩ dX12_ends_7 (by decide) (fun c_2 => ?_) (fun c_2 => ?_)
  · refine xi_iconst hx hb dX12_ends_20 ?_
    refine lv_goto (tgt := 25) hx hb dX12_ends_21 (by decide) ?_
    exact g_zret hx hb hr (Or.inr rfl) hW ⟨congrArg (fun z => some (Value.int (iI z))) (bI_t (by simp only [sEnds, Bool.and_eq_true, Bool.or_eq_true, Bool.and_eq_false_iff, Bool.or_eq_false_iff, decide_eq_true_eq, decide_eq_false_iff_not, Bool.not_eq_true, Bool.not_eq_false]; omega)), rfl⟩ dX12_ends_25 hlk
  · refine lv_aload_n hx hb dX12_ends_10 rfl (lv_at hl 0 rfl) ?_
    refine mr_get K hK hW hin 18 (by decide) lM_state (v := .ref (ix 118)) rfl dX12_ends_11 ?_
    refine lv_iload_n hx hb dX12_ends_14 rfl (lv_at hl 1 rfl) ?_
    refine mr_iald K hK hW 18 (by decide) rfl (n := 60) rfl rfl ⟨by omega, by omega⟩ (v := S.1 18 (k)) rfl dX12_ends_15 ?_
    have w_3 := wf_18 hwf (k)
    refine xi_iconst hx hb dX12_ends_16 ?_
    refine xi_icmp_ne (tgt := 24) hx hb ⟨by omega, by omega⟩ ⟨by omega, by omega⟩ dX12_ends_17 (by decide) (fun c_4 => ?_) (fun c_4 => ?_)
    · refine xi_iconst hx hb dX12_ends_24 ?_
      exact g_zret hx hb hr (Or.inl rfl) hW ⟨congrArg (fun z => some (Value.int (iI z))) (bI_f (by simp only [sEnds, Bool.and_eq_true, Bool.or_eq_true, Bool.and_eq_false_iff, Bool.or_eq_false_iff, decide_eq_true_eq, decide_eq_false_iff_not, Bool.not_eq_true, Bool.not_eq_false]; omega)), rfl⟩ dX12_ends_25 hlk
    · refine xi_iconst hx hb dX12_ends_20 ?_
      refine lv_goto (tgt := 25) hx hb dX12_ends_21 (by decide) ?_
      exact g_zret hx hb hr (Or.inr rfl) hW ⟨congrArg (fun z => some (Value.int (iI z))) (bI_t (by simp only [sEnds, Bool.and_eq_true, Bool.or_eq_true, Bool.and_eq_false_iff, Bool.or_eq_false_iff, decide_eq_true_eq, decide_eq_false_iff_not, Bool.not_eq_true, Bool.not_eq_false]; omega)), rfl⟩ dX12_ends_25 hlk
set_option maxHeartbeats 4000000 in
set_option maxRecDepth 100000 in
theorem c_M_books {l : Launch} {D : va_G} {cy : Nat → ClassId} {B0 : Nat} {ix : Nat → Nat} {S : ST} {I : Int → Bool} {aM qM : Int → Int64} {tM : Int} {G : gF} (b : Int) (o : Int) (c : Int) (v : Int64) (k : Int) (hb0 : -1 ≤ b ∧ b ≤ 6) (ho : 0 ≤ o ∧ o ≤ 6) (hc : 0 ≤ c ∧ c ≤ 2) (hk : -1 ≤ k ∧ k ≤ 59) (hwf : wf S) : gM l yX12_books vX12_books 1 21 D cy B0 [.ref (ix 100), .int (iI b), .int (iI o), .int (iI c), .long v, .int (iI k)] (mW cy ix S (mX I aM qM tM) G) (fun r g => r = none ∧ g = mW cy ix (sBook S b o c v k) (mX I aM qM tM) G) 0 0 := by
  refine g_start (cc := cX12_books) (maxL := 7) (ret := none) (by decide) rfl (Nat.le_of_ble_eq_true rfl) ?_
  intro p_ e_ s_ m_ be_ me_ co_ ls H locs K hr hlk hnm hK hW hl
  have hin : ∀ w ∈ wsX120, w ∈ vX12_books := wsM_cls
  obtain ⟨hx, hb, hml, hown, hts⟩ := id K
  have hl : lv_has ls 7 [(0, .ref (ix 100)), (1, .int (iI (b))), (2, .int (iI (o))), (3, .int (iI (c))), (4, .long (v)), (6, .int (iI (k)))] := hl
  refine lv_aload_n hx hb dX12_books_0 rfl (lv_at hl 0 rfl) ?_
  refine mr_get K hK hW hin 32 (by decide) lM_entry (v := .ref (ix 132)) rfl dX12_books_1 ?_
  refine xi_iconst hx hb dX12_books_4 ?_
  refine lv_aload_n hx hb dX12_books_5 rfl (lv_at hl 0 rfl) ?_
  refine mr_get K hK hW hin 31 (by decide) lM_entries (v := .int (iI (S.1 31 (0)))) rfl dX12_books_6 ?_
  have w_w_1 := wf_31 hwf 0
  refine xi_imul hx hb dX12_books_9 ?_
  refine lv_iload_n hx hb dX12_books_10 rfl (lv_at hl 1 rfl) ?_
  refine xi_i2l hx hb ⟨by omega, by omega⟩ dX12_books_11 ?_
  refine mr_last K hK hW 32 (by decide) rfl (by decide) (n := 150000) rfl rfl ⟨by omega, by omega⟩ dX12_books_12 (fun H locs hW => ?_)
  refine lv_aload_n hx hb dX12_books_13 rfl (lv_at hl 0 rfl) ?_
  refine mr_get K hK hW hin 32 (by decide) lM_entry (v := .ref (ix 132)) rfl dX12_books_14 ?_
  refine xi_iconst hx hb dX12_books_17 ?_
  refine lv_aload_n hx hb dX12_books_18 rfl (lv_at hl 0 rfl) ?_
  refine mr_get K hK hW hin 31 (by decide) lM_entries (v := .int (iI (S.1 31 (0)))) rfl dX12_books_19 ?_
  have w_w_2 := wf_31 hwf 0
  refine xi_imul hx hb dX12_books_22 ?_
  refine xi_iconst hx hb dX12_books_23 ?_
  refine xi_iadd hx hb dX12_books_24 ?_
  refine lv_iload_n hx hb dX12_books_25 rfl (lv_at hl 2 rfl) ?_
  refine xi_i2l hx hb ⟨by omega, by omega⟩ dX12_books_26 ?_
  refine mr_last K hK hW 32 (by decide) rfl (by decide) (n := 150000) rfl rfl ⟨by omega, by omega⟩ dX12_books_27 (fun H locs hW => ?_)
  refine lv_aload_n hx hb dX12_books_28 rfl (lv_at hl 0 rfl) ?_
  refine mr_get K hK hW hin 32 (by decide) lM_entry (v := .ref (ix 132)) rfl dX12_books_29 ?_
  refine xi_iconst hx hb dX12_books_32 ?_
  refine lv_aload_n hx hb dX12_books_33 rfl (lv_at hl 0 rfl) ?_
  refine mr_get K hK hW hin 31 (by decide) lM_entries (v := .int (iI (S.1 31 (0)))) rfl dX12_books_34 ?_
  have w_w_3 := wf_31 hwf 0
  refine xi_imul hx hb dX12_books_37 ?_
  refine xi_iconst hx hb dX12_books_38 ?_
  refine xi_iadd hx hb dX12_books_39 ?_
  refine lv_iload_n hx hb dX12_books_40 rfl (lv_at hl 3 rfl) ?_
  refine xi_i2l hx hb ⟨by omega, by omega⟩ dX12_books_41 ?_
  refine mr_last K hK hW 32 (by decide) rfl (by decide) (n := 150000) rfl rfl ⟨by omega, by omega⟩ dX12_books_42 (fun H locs hW => ?_)
  refine lv_aload_n hx hb dX12_books_43 rfl (lv_at hl 0 rfl) ?_
  refine mr_get K hK hW hin 32 (by decide) lM_entry (v := .ref (ix 132)) rfl dX12_books_44 ?_
  refine xi_iconst hx hb dX12_books_47 ?_
  refine lv_aload_n hx hb dX12_books_48 rfl (lv_at hl 0 rfl) ?_
  refine mr_get K hK hW hin 31 (by decide) lM_entries (v := .int (iI (S.1 31 (0)))) rfl dX12_books_49 ?_
  have w_w_4 := wf_31 hwf 0
  refine xi_imul hx hb dX12_books_52 ?_
  refine xi_iconst hx hb dX12_books_53 ?_
  refine xi_iadd hx hb dX12_books_54 ?_
  refine lv_lload hx hb dX12_books_55 (lv_at hl 4 rfl) ?_
  refine mr_last K hK hW 32 (by decide) rfl (by decide) (n := 150000) rfl rfl ⟨by omega, by omega⟩ dX12_books_57 (fun H locs hW => ?_)
  refine lv_aload_n hx hb dX12_books_58 rfl (lv_at hl 0 rfl) ?_
  refine mr_get K hK hW hin 32 (by decide) lM_entry (v := .ref (ix 132)) rfl dX12_books_59 ?_
  refine xi_iconst hx hb dX12_books_62 ?_
  refine lv_aload_n hx hb dX12_books_63 rfl (lv_at hl 0 rfl) ?_
  refine mr_get K hK hW hin 31 (by decide) lM_entries (v := .int (iI (S.1 31 (0)))) rfl dX12_books_64 ?_
  have w_w_5 := wf_31 hwf 0
  refine xi_imul hx hb dX12_books_67 ?_
  refine xi_iconst hx hb dX12_books_68 ?_
  refine xi_iadd hx hb dX12_books_69 ?_
  refine lv_iload hx hb dX12_books_70 (lv_at hl 5 rfl) ?_
  refine xi_i2l hx hb ⟨by omega, by omega⟩ dX12_books_72 ?_
  refine mr_last K hK hW 32 (by decide) rfl (by decide) (n := 150000) rfl rfl ⟨by omega, by omega⟩ dX12_books_73 (fun H locs hW => ?_)
  refine lv_aload_n hx hb dX12_books_74 rfl (lv_at hl 0 rfl) ?_
  refine lv_dup hx hb dX12_books_75 rfl ?_
  refine mr_get K hK hW hin 31 (by decide) lM_entries (v := .int (iI (S.1 31 (0)))) rfl dX12_books_76 ?_
  have w_w_6 := wf_31 hwf 0
  refine xi_iconst hx hb dX12_books_79 ?_
  refine xi_iadd hx hb dX12_books_80 ?_
  refine mr_put K hK hW hin 31 (by decide) lM_entries rfl rfl (S' := (pI (pL (pL (pL (pL (pL S 32 (5 * (S.1 31 (0))) (Int64.ofInt (b))) 32 ((5 * (S.1 31 (0))) + 1) (Int64.ofInt (o))) 32 ((5 * (S.1 31 (0))) + 2) (Int64.ofInt (c))) 32 ((5 * (S.1 31 (0))) + 3) (v)) 32 ((5 * (S.1 31 (0))) + 4) (Int64.ofInt (k))) 31 (0) ((S.1 31 (0)) + 1))) (X' := (mX (I) (aM) (qM) (tM))) rfl (fun i hi => mC_sc rfl hi (by decide)) dX12_books_81 (fun H locs hW => ?_)
  refine lv_iload_n hx hb dX12_books_84 rfl (lv_at hl 1 rfl) ?_
  refine xi_iconst hx hb dX12_books_85 ?_
  refine xi_icmp_eq (tgt := 104) hx hb ⟨by omega, by omega⟩ ⟨by omega, by omega⟩ dX12_books_86 (by decide) (fun c_7 => ?_) (fun c_7 => ?_)
  · refine lv_aload_n hx hb dX12_books_104 rfl (lv_at hl 0 rfl) ?_
    refine mr_get K hK hW hin 1 (by decide) lM_account (v := .ref (ix 101)) rfl dX12_books_105 ?_
    refine lv_iload_n hx hb dX12_books_108 rfl (lv_at hl 2 rfl) ?_
    refine lv_iload_n hx hb dX12_books_109 rfl (lv_at hl 3 rfl) ?_
    refine g_callS (As := [.int (iI (o)), .int (iI (c))]) (rest := [.ref (ix 101)]) K (c_M_of (o) (c)) (va_cwS 2 hts gM_X12_of rfl rfl rfl (by decide +kernel) ⟨Nat.le_of_ble_eq_true rfl, Nat.le_of_ble_eq_true rfl⟩) hK hW rfl hl.1 rfl (Nat.le_of_ble_eq_true rfl) dX12_books_110 ⟨Nat.le_refl _, Nat.le_refl _⟩ (fun v_ f_ H locs hp hW => ?_)
    obtain ⟨hpv, hpe⟩ := hp
    rw [hpe] at hW
    subst hpv
    refine lv_dup2_11 hx hb dX12_books_113 rfl rfl ?_
    refine mr_lald K hK hW 1 (by decide) rfl (n := 21) rfl rfl ⟨by omega, by omega⟩ (v := S.2 1 (3 * o + c)) rfl dX12_books_114 ?_
    refine lv_lload hx hb dX12_books_115 (lv_at hl 4 rfl) ?_
    refine lv_ladd hx hb dX12_books_117 ?_
    refine mr_last K hK hW 1 (by decide) rfl (by decide) (n := 21) rfl rfl ⟨by omega, by omega⟩ dX12_books_118 (fun H locs hW => ?_)
    exact g_vret hx hb hr hW ⟨rfl, by unfold sBook; rw [sLess_t c_7]; rfl⟩ dX12_books_119 hlk
  · refine lv_aload_n hx hb dX12_books_89 rfl (lv_at hl 0 rfl) ?_
    refine mr_get K hK hW hin 1 (by decide) lM_account (v := .ref (ix 101)) rfl dX12_books_90 ?_
    refine lv_iload_n hx hb dX12_books_93 rfl (lv_at hl 1 rfl) ?_
    refine lv_iload_n hx hb dX12_books_94 rfl (lv_at hl 3 rfl) ?_
    refine g_callS (As := [.int (iI (b)), .int (iI (c))]) (rest := [.ref (ix 101)]) K (c_M_of (b) (c)) (va_cwS 2 hts gM_X12_of rfl rfl rfl (by decide +kernel) ⟨Nat.le_of_ble_eq_true rfl, Nat.le_of_ble_eq_true rfl⟩) hK hW rfl hl.1 rfl (Nat.le_of_ble_eq_true rfl) dX12_books_95 ⟨Nat.le_refl _, Nat.le_refl _⟩ (fun v_ f_ H locs hp hW => ?_)
    obtain ⟨hpv, hpe⟩ := hp
    rw [hpe] at hW
    subst hpv
    refine lv_dup2_11 hx hb dX12_books_98 rfl rfl ?_
    refine mr_lald K hK hW 1 (by decide) rfl (n := 21) rfl rfl ⟨by omega, by omega⟩ (v := S.2 1 (3 * b + c)) rfl dX12_books_99 ?_
    refine lv_lload hx hb dX12_books_100 (lv_at hl 4 rfl) ?_
    refine lv_lsub hx hb dX12_books_102 ?_
    refine mr_last K hK hW 1 (by decide) rfl (by decide) (n := 21) rfl rfl ⟨by omega, by omega⟩ dX12_books_103 (fun H locs hW => ?_)
    refine lv_aload_n hx hb dX12_books_104 rfl (lv_at hl 0 rfl) ?_
    refine mr_get K hK hW hin 1 (by decide) lM_account (v := .ref (ix 101)) rfl dX12_books_105 ?_
    refine lv_iload_n hx hb dX12_books_108 rfl (lv_at hl 2 rfl) ?_
    refine lv_iload_n hx hb dX12_books_109 rfl (lv_at hl 3 rfl) ?_
    refine g_callS (As := [.int (iI (o)), .int (iI (c))]) (rest := [.ref (ix 101)]) K (c_M_of (o) (c)) (va_cwS 2 hts gM_X12_of rfl rfl rfl (by decide +kernel) ⟨Nat.le_of_ble_eq_true rfl, Nat.le_of_ble_eq_true rfl⟩) hK hW rfl hl.1 rfl (Nat.le_of_ble_eq_true rfl) dX12_books_110 ⟨Nat.le_refl _, Nat.le_refl _⟩ (fun v_ f_ H locs hp hW => ?_)
    obtain ⟨hpv, hpe⟩ := hp
    rw [hpe] at hW
    subst hpv
    refine lv_dup2_11 hx hb dX12_books_113 rfl rfl ?_
    refine mr_lald K hK hW 1 (by decide) rfl (n := 21) rfl rfl ⟨by omega, by omega⟩ (v := (pL S 1 (3 * b + c) ((S.2 1 (3 * b + c)) - v)).2 1 (3 * o + c)) rfl dX12_books_114 ?_
    refine lv_lload hx hb dX12_books_115 (lv_at hl 4 rfl) ?_
    refine lv_ladd hx hb dX12_books_117 ?_
    refine mr_last K hK hW 1 (by decide) rfl (by decide) (n := 21) rfl rfl ⟨by omega, by omega⟩ dX12_books_118 (fun H locs hW => ?_)
    exact g_vret hx hb hr hW ⟨rfl, by unfold sBook; rw [sLess_f c_7]; rfl⟩ dX12_books_119 hlk
end
section
/-! sums over a set -/
theorem l_an (a u : Int64) : a - u + u = a := by rw [Int64.sub_eq_add_neg, Int64.add_assoc, Int64.add_left_neg, Int64.add_zero]
theorem lup2 (a : Int → Int64) (i j : Int) (u : Int64) (x : Int) : lup (lup a i (a i - u)) j (lup a i (a i - u) j + u) x = a x + ((if x = i then -u else 0) + (if x = j then u else 0)) := by
  by_cases hj : x = j
  · subst hj
    by_cases hi : x = i
    · subst hi
      simp [lup, Int64.sub_eq_add_neg, Int64.add_assoc]
    · simp [lup, hi]
  · by_cases hi : x = i
    · subst hi
      simp [lup, hj, Int64.sub_eq_add_neg]
    · simp [lup, hi, hj]
theorem lup2' (a : Int → Int64) (i j : Int) (u : Int64) (x : Int) : lup (lup a i (a i + u)) j (lup a i (a i + u) j - u) x = a x + ((if x = i then u else 0) + (if x = j then -u else 0)) := by
  by_cases hj : x = j
  · subst hj
    by_cases hi : x = i
    · subst hi
      simp [lup, Int64.sub_eq_add_neg, Int64.add_assoc]
    · simp [lup, hi, Int64.sub_eq_add_neg]
  · by_cases hi : x = i
    · subst hi
      simp [lup, hj]
    · simp [lup, hi, hj]
/-- what the account x has more by the payment k; what the pair y has more -/
def dK (S : ST) (k x : Int) : Int64 := (if x = 3 * S.1 9 k + S.1 11 k then -Int64.ofInt (S.1 12 k) else 0) + (if x = 3 * S.1 10 k + S.1 11 k then Int64.ofInt (S.1 12 k) else 0)
def pK (S : ST) (k y : Int) : Int64 := (if y = 3 * (6 * S.1 9 k + S.1 10 k) + S.1 11 k then Int64.ofInt (S.1 12 k) else 0) + (if y = 3 * (6 * S.1 10 k + S.1 9 k) + S.1 11 k then -Int64.ofInt (S.1 12 k) else 0)
def dS (S : ST) (I : Int → Bool) (n : Nat) (x : Int) : Int64 := suL (fun k => if I k = true then dK S k x else 0) n
def pS (S : ST) (I : Int → Bool) (n : Nat) (y : Int) : Int64 := suL (fun k => if I k = true then pK S k y else 0) n
theorem dS_s (S : ST) (I : Int → Bool) (n : Nat) (x : Int) : dS S I (n + 1) x = dS S I n x + (if I n = true then dK S n x else 0) := rfl
theorem pS_s (S : ST) (I : Int → Bool) (n : Nat) (x : Int) : pS S I (n + 1) x = pS S I n x + (if I n = true then pK S n x else 0) := rfl
theorem alB_s (q : Int → Bool) (n : Nat) : alB q (n + 1) = (alB q n && q n) := rfl
def shX (S : ST) (a : Int → Int64) (b c : Int) : Bool := decide (a (3 * b + c) < 0) && decide (S.2 1 (3 * b + c) + a (3 * b + c) < Int64.ofInt (-(S.1 2 (3 * b + c))))
def paX (S : ST) (q : Int → Int64) (b o c : Int) : Bool := decide (0 < q (3 * (6 * b + o) + c)) && !decide (S.1 3 (3 * (6 * b + o) + c) = -1) && decide (Int64.ofInt (S.1 3 (3 * (6 * b + o) + c)) < S.2 4 (3 * (6 * b + o) + c) + q (3 * (6 * b + o) + c))
def fiX (S : ST) (a q : Int → Int64) (c : Int) : Bool := alB (fun b => !shX S a b c && alB (fun o => !paX S q b o c) 6) 6
/-- a payment that may move today -/
def moves (S : ST) (k : Int) : Bool := sOpen S (S.1 11 k) (S.1 0 0) && decide (S.1 5 (S.1 9 k) = 0) && decide (S.1 5 (S.1 10 k) = 0)
def wrkS (S : ST) (I : Int → Bool) : Nat → Bool := alB (fun k => !I k || moves S k)
set_option maxHeartbeats 4000000 in
set_option maxRecDepth 100000 in
theorem c_M_clears {l : Launch} {D : va_G} {cy : Nat → ClassId} {B0 : Nat} {ix : Nat → Nat} {S : ST} {I : Int → Bool} {aM qM : Int → Int64} {tM : Int} {G : gF}   : gM l yX12_clears vX12_clears 0 0 D cy B0 [.ref (ix 100)] (mW cy ix S (mX I aM qM tM) G) (fun r g => r = none ∧ ∃ J : Int → Bool, (∀ j : Int, 0 ≤ j → j < 60 → J j = false) ∧ g = mW cy ix S (mX J aM qM tM) G) 0 0 := by
  refine g_start (cc := cX12_clears) (maxL := 2) (ret := none) (by decide) rfl (Nat.le_of_ble_eq_true rfl) ?_
  intro p_ e_ s_ m_ be_ me_ co_ ls H locs K hr hlk hnm hK hW hl
  have hin : ∀ w ∈ wsX120, w ∈ vX12_clears := wsM_cls
  obtain ⟨hx, hb, hml, hown, hts⟩ := id K
  have hl : lv_has ls 2 [(0, .ref (ix 100))] := hl
  refine xi_iconst hx hb dX12_clears_0 ?_
  refine lv_istore_n (lv' := [(1, .int (iI (0))), (0, .ref (ix 100))]) hx hb dX12_clears_1 rfl hl (by decide) rfl (fun ls hl => ?_)
  refine lp_w2 (Wg := fun (H : Heap) (locs : List Loc) (ls : Array Slot) => W p_ l e_ { frames := 0, cells := 0, slots := 0, locals := 0 } s_ m_ ([.ref (ix 100)] : List Value).toArray be_ me_ co_ H locs 0 0 (MQ be_ (gQ D B0 (fun (r : Option Value) (g : gF) => r = none ∧ ∃ J : Int → Bool, (∀ j : Int, 0 ≤ j → j < 60 → J j = false) ∧ g = mW cy ix S (mX J aM qM tM) G)) ([.ref (ix 100)] : List Value).toArray s_ 0 0 (fun q : Nat => B0 ≤ q)) (F0 m_ 2 ls [])) (fun (k : Int) (J : Int → Bool) (H : Heap) (locs : List Loc) (ls : Array Slot) => ((0 ≤ k ∧ k ≤ 60) ∧ ∀ j : Int, 0 ≤ j → j < k → J j = false) ∧ gW D B0 s_.heap (mW cy ix S (mX (J) (aM) (qM) (tM)) G) H locs ∧ lv_has ls 2 [(1, .int (iI (k))), (0, .ref (ix 100))]) (fun (k : Int) (J : Int → Bool) => (60 - k).toNat) (fun k J H locs ls hI ih_lp_1 => ?_) (0) (I) _ _ _ ⟨⟨⟨by omega, by omega⟩, fun j h1 h2 => by omega⟩, hW, lv_sub hl [0, 1] rfl⟩
  obtain ⟨hI_lp_1, hW, hl⟩ := hI
  obtain ⟨hk, hJ⟩ := hI_lp_1
  refine lv_iload_n hx hb dX12_clears_2 rfl (lv_at hl 0 rfl) ?_
  refine xi_bipush hx hb dX12_clears_3 (by decide) ?_
  refine xi_icmp_ge (tgt := 21) hx hb ⟨by omega, by omega⟩ ⟨by omega, by omega⟩ dX12_clears_5 (by decide) (fun c_2 => ?_) (fun c_2 => ?_)
  · exact g_vret hx hb hr hW ⟨rfl, J, fun j h1 h2 => hJ j h1 (by omega), rfl⟩ dX12_clears_21 hlk
  · refine lv_aload_n hx hb dX12_clears_8 rfl (lv_at hl 1 rfl) ?_
    refine mr_get K hK hW hin 33 (by decide) lM_isIn (v := .ref (ix 133)) rfl dX12_clears_9 ?_
    refine lv_iload_n hx hb dX12_clears_12 rfl (lv_at hl 0 rfl) ?_
    refine xi_iconst hx hb dX12_clears_13 ?_
    refine mr_zastI K hK hW rfl (v := false) ⟨by omega, by omega⟩ dX12_clears_14 (fun H locs hW => ?_)
    refine xi_iinc (lv' := [(1, .int (iI (k + 1))), (0, .ref (ix 100))]) hx hb dX12_clears_15 hl (k := 0) rfl (by decide) rfl (fun ls hl => ?_)
    refine lv_goto (tgt := 2) hx hb dX12_clears_18 (by decide) ?_
    exact ih_lp_1 (k + 1) (iup J (k) (false)) _ _ _ (by first | omega | (dsimp only; omega)) ⟨⟨⟨by omega, by omega⟩, fun j h1 h2 => by
        by_cases h : j = k
        · rw [h]; exact iup_s _ _ _
        · rw [iup_n _ _ h]; exact hJ j h1 (by omega)⟩, hW, lv_sub hl [0, 1] rfl⟩
set_option maxHeartbeats 4000000 in
set_option maxRecDepth 100000 in
theorem c_M_sums {l : Launch} {D : va_G} {cy : Nat → ClassId} {B0 : Nat} {ix : Nat → Nat} {S : ST} {I : Int → Bool} {aM qM : Int → Int64} {tM : Int} {G : gF}  (hwf : wf S) : gM l yX12_sums vX12_sums 1 22 D cy B0 [.ref (ix 100)] (mW cy ix S (mX I aM qM tM) G) (fun r g => r = none ∧ ∃ a q : Int → Int64, (∀ x : Int, 0 ≤ x → x < 21 → a x = dS S I (S.1 8 0).toNat x) ∧ (∀ x : Int, 0 ≤ x → x < 108 → q x = pS S I (S.1 8 0).toNat x) ∧ g = mW cy ix S (mX I a q tM) G) 0 0 := by
  refine g_start (cc := cX12_sums) (maxL := 2) (ret := none) (by decide) rfl (Nat.le_of_ble_eq_true rfl) ?_
  intro p_ e_ s_ m_ be_ me_ co_ ls H locs K hr hlk hnm hK hW hl
  have hin : ∀ w ∈ wsX120, w ∈ vX12_sums := wsM_cls
  obtain ⟨hx, hb, hml, hown, hts⟩ := id K
  have hl : lv_has ls 2 [(0, .ref (ix 100))] := hl
  refine xi_iconst hx hb dX12_sums_0 ?_
  refine lv_istore_n (lv' := [(1, .int (iI (0))), (0, .ref (ix 100))]) hx hb dX12_sums_1 rfl hl (by decide) rfl (fun ls hl => ?_)
  refine lp_w2 (Wg := fun (H : Heap) (locs : List Loc) (ls : Array Slot) => W p_ l e_ { frames := 1, cells := 0, slots := 0, locals := 22 } s_ m_ ([.ref (ix 100)] : List Value).toArray be_ me_ co_ H locs 0 0 (MQ be_ (gQ D B0 (fun (r : Option Value) (g : gF) => r = none ∧ ∃ a q : Int → Int64, (∀ x : Int, 0 ≤ x → x < 21 → a x = dS S I (S.1 8 0).toNat x) ∧ (∀ x : Int, 0 ≤ x → x < 108 → q x = pS S I (S.1 8 0).toNat x) ∧ g = mW cy ix S (mX I a q tM) G)) ([.ref (ix 100)] : List Value).toArray s_ 0 0 (fun q : Nat => B0 ≤ q)) (F0 m_ 2 ls [])) (fun (k : Int) (a : Int → Int64) (H : Heap) (locs : List Loc) (ls : Array Slot) => ((0 ≤ k ∧ k ≤ 21) ∧ ∀ j : Int, 0 ≤ j → j < k → a j = 0) ∧ gW D B0 s_.heap (mW cy ix S (mX (I) (a) (qM) (tM)) G) H locs ∧ lv_has ls 2 [(1, .int (iI (k))), (0, .ref (ix 100))]) (fun (k : Int) (a : Int → Int64) => (21 - k).toNat) (fun k a H locs ls hI ih_lp_1 => ?_) (0) (aM) _ _ _ ⟨⟨⟨by omega, by omega⟩, fun j h1 h2 => by omega⟩, hW, lv_sub hl [0, 1] rfl⟩
  obtain ⟨hI_lp_1, hW, hl⟩ := hI
  obtain ⟨hk, hA⟩ := hI_lp_1
  refine lv_iload_n hx hb dX12_sums_2 rfl (lv_at hl 0 rfl) ?_
  refine xi_bipush hx hb dX12_sums_3 (by decide) ?_
  refine xi_icmp_ge (tgt := 21) hx hb ⟨by omega, by omega⟩ ⟨by omega, by omega⟩ dX12_sums_5 (by decide) (fun c_2 => ?_) (fun c_2 => ?_)
  · refine xi_iconst hx hb dX12_sums_21 ?_
    refine lv_istore_n (lv' := [(1, .int (iI (0))), (0, .ref (ix 100))]) hx hb dX12_sums_22 rfl hl (by decide) rfl (fun ls hl => ?_)
    refine lp_w2 (Wg := fun (H : Heap) (locs : List Loc) (ls : Array Slot) => W p_ l e_ { frames := 1, cells := 0, slots := 0, locals := 22 } s_ m_ ([.ref (ix 100)] : List Value).toArray be_ me_ co_ H locs 0 0 (MQ be_ (gQ D B0 (fun (r : Option Value) (g : gF) => r = none ∧ ∃ a q : Int → Int64, (∀ x : Int, 0 ≤ x → x < 21 → a x = dS S I (S.1 8 0).toNat x) ∧ (∀ x : Int, 0 ≤ x → x < 108 → q x = pS S I (S.1 8 0).toNat x) ∧ g = mW cy ix S (mX I a q tM) G)) ([.ref (ix 100)] : List Value).toArray s_ 0 0 (fun q : Nat => B0 ≤ q)) (F0 m_ 23 ls [])) (fun (k1 : Int) (q : Int → Int64) (H : Heap) (locs : List Loc) (ls : Array Slot) => ((0 ≤ k1 ∧ k1 ≤ 108) ∧ ∀ j : Int, 0 ≤ j → j < k1 → q j = 0) ∧ gW D B0 s_.heap (mW cy ix S (mX (I) (a) (q) (tM)) G) H locs ∧ lv_has ls 2 [(1, .int (iI (k1))), (0, .ref (ix 100))]) (fun (k1 : Int) (q : Int → Int64) => (108 - k1).toNat) (fun k1 q H locs ls hI ih_lp_3 => ?_) (0) (qM) _ _ _ ⟨⟨⟨by omega, by omega⟩, fun j h1 h2 => by omega⟩, hW, lv_sub hl [0, 1] rfl⟩
    obtain ⟨hI_lp_3, hW, hl⟩ := hI
    obtain ⟨hk1, hQ⟩ := hI_lp_3
    refine lv_iload_n hx hb dX12_sums_23 rfl (lv_at hl 0 rfl) ?_
    refine xi_bipush hx hb dX12_sums_24 (by decide) ?_
    refine xi_icmp_ge (tgt := 42) hx hb ⟨by omega, by omega⟩ ⟨by omega, by omega⟩ dX12_sums_26 (by decide) (fun c_4 => ?_) (fun c_4 => ?_)
    · refine xi_iconst hx hb dX12_sums_42 ?_
      refine lv_istore_n (lv' := [(1, .int (iI (0))), (0, .ref (ix 100))]) hx hb dX12_sums_43 rfl hl (by decide) rfl (fun ls hl => ?_)
      refine lp_w3 (Wg := fun (H : Heap) (locs : List Loc) (ls : Array Slot) => W p_ l e_ { frames := 1, cells := 0, slots := 0, locals := 22 } s_ m_ ([.ref (ix 100)] : List Value).toArray be_ me_ co_ H locs 0 0 (MQ be_ (gQ D B0 (fun (r : Option Value) (g : gF) => r = none ∧ ∃ a q : Int → Int64, (∀ x : Int, 0 ≤ x → x < 21 → a x = dS S I (S.1 8 0).toNat x) ∧ (∀ x : Int, 0 ≤ x → x < 108 → q x = pS S I (S.1 8 0).toNat x) ∧ g = mW cy ix S (mX I a q tM) G)) ([.ref (ix 100)] : List Value).toArray s_ 0 0 (fun q : Nat => B0 ≤ q)) (F0 m_ 44 ls [])) (fun (k2 : Int) (a2 : Int → Int64) (q2 : Int → Int64) (H : Heap) (locs : List Loc) (ls : Array Slot) => ((0 ≤ k2 ∧ k2 ≤ S.1 8 0) ∧ (∀ x : Int, 0 ≤ x → x < 21 → a2 x = dS S I k2.toNat x) ∧ ∀ x : Int, 0 ≤ x → x < 108 → q2 x = pS S I k2.toNat x) ∧ gW D B0 s_.heap (mW cy ix S (mX (I) (a2) (q2) (tM)) G) H locs ∧ lv_has ls 2 [(1, .int (iI (k2))), (0, .ref (ix 100))]) (fun (k2 : Int) (a2 : Int → Int64) (q2 : Int → Int64) => (60 - k2).toNat) (fun k2 a2 q2 H locs ls hI ih_lp_5 => ?_) (0) (a) (q) _ _ _ ⟨⟨⟨by omega, by have := wf_8 hwf 0; omega⟩, fun x h1 h2 => hA x h1 (by omega), fun x h1 h2 => hQ x h1 (by omega)⟩, hW, lv_sub hl [0, 1] rfl⟩
      obtain ⟨hI_lp_5, hW, hl⟩ := hI
      obtain ⟨hk2, hA2, hQ2⟩ := hI_lp_5
      refine lv_iload_n hx hb dX12_sums_44 rfl (lv_at hl 0 rfl) ?_
      refine lv_aload_n hx hb dX12_sums_45 rfl (lv_at hl 1 rfl) ?_
      refine mr_get K hK hW hin 8 (by decide) lM_payments (v := .int (iI (S.1 8 (0)))) rfl dX12_sums_46 ?_
      have w_w_6 := wf_8 hwf 0
      refine xi_icmp_ge (tgt := 199) hx hb ⟨by omega, by omega⟩ ⟨by omega, by omega⟩ dX12_sums_49 (by decide) (fun c_7 => ?_) (fun c_7 => ?_)
      · exact g_vret hx hb hr hW ⟨rfl, a2, q2, by rw [show S.1 8 0 = k2 by omega]; exact hA2, by rw [show S.1 8 0 = k2 by omega]; exact hQ2, rfl⟩ dX12_sums_199 hlk
      · refine lv_aload_n hx hb dX12_sums_52 rfl (lv_at hl 1 rfl) ?_
        refine mr_get K hK hW hin 33 (by decide) lM_isIn (v := .ref (ix 133)) rfl dX12_sums_53 ?_
        refine lv_iload_n hx hb dX12_sums_56 rfl (lv_at hl 0 rfl) ?_
        refine mr_zald K hK hW 33 (by decide) rfl (n := 60) rfl rfl ⟨by omega, by omega⟩ (v := bI (I (k2))) rfl dX12_sums_57 ?_
        refine xi_ifb_eq (tgt := 193) hx hb dX12_sums_58 (by decide) (fun c_8 => ?_) (fun c_8 => ?_)
        · refine xi_iinc (lv' := [(1, .int (iI (k2 + 1))), (0, .ref (ix 100))]) hx hb dX12_sums_193 hl (k := 0) rfl (by decide) rfl (fun ls hl => ?_)
          refine lv_goto (tgt := 44) hx hb dX12_sums_196 (by decide) ?_
          exact ih_lp_5 (k2 + 1) (a2) (q2) _ _ _ (by have := wf_8 hwf 0; first | omega | (dsimp only; omega)) ⟨⟨⟨by omega, by omega⟩, fun x h1 h2 => by
            rw [show (k2 + 1).toNat = k2.toNat + 1 by omega, dS_s, show ((k2.toNat : Nat) : Int) = k2 by omega, if_neg (by rw [c_8]; decide), Int64.add_zero]
            exact hA2 x h1 h2, fun x h1 h2 => by
            rw [show (k2 + 1).toNat = k2.toNat + 1 by omega, pS_s, show ((k2.toNat : Nat) : Int) = k2 by omega, if_neg (by rw [c_8]; decide), Int64.add_zero]
            exact hQ2 x h1 h2⟩, hW, lv_sub hl [0, 1] rfl⟩
        · refine lv_aload_n hx hb dX12_sums_61 rfl (lv_at hl 1 rfl) ?_
          refine mr_get K hK hW hin 34 (by decide) lM_more (v := .ref (ix 134)) rfl dX12_sums_62 ?_
          refine lv_aload_n hx hb dX12_sums_65 rfl (lv_at hl 1 rfl) ?_
          refine mr_get K hK hW hin 9 (by decide) lM_from (v := .ref (ix 109)) rfl dX12_sums_66 ?_
          refine lv_iload_n hx hb dX12_sums_69 rfl (lv_at hl 0 rfl) ?_
          refine mr_iald K hK hW 9 (by decide) rfl (n := 60) rfl rfl ⟨by omega, by omega⟩ (v := S.1 9 (k2)) rfl dX12_sums_70 ?_
          have w_9 := wf_9 hwf (k2)
          refine lv_aload_n hx hb dX12_sums_71 rfl (lv_at hl 1 rfl) ?_
          refine mr_get K hK hW hin 11 (by decide) lM_currency (v := .ref (ix 111)) rfl dX12_sums_72 ?_
          refine lv_iload_n hx hb dX12_sums_75 rfl (lv_at hl 0 rfl) ?_
          refine mr_iald K hK hW 11 (by decide) rfl (n := 60) rfl rfl ⟨by omega, by omega⟩ (v := S.1 11 (k2)) rfl dX12_sums_76 ?_
          have w_10 := wf_11 hwf (k2)
          refine g_callS (As := [.int (iI (S.1 9 (k2))), .int (iI (S.1 11 (k2)))]) (rest := [.ref (ix 134)]) K (c_M_of (S.1 9 (k2)) (S.1 11 (k2))) (va_cwS 2 hts gM_X12_of rfl rfl rfl (by decide +kernel) ⟨Nat.le_of_ble_eq_true rfl, Nat.le_of_ble_eq_true rfl⟩) hK hW rfl hl.1 rfl (Nat.le_of_ble_eq_true rfl) dX12_sums_77 ⟨Nat.le_refl _, Nat.le_refl _⟩ (fun v_ f_ H locs hp hW => ?_)
          obtain ⟨hpv, hpe⟩ := hp
          rw [hpe] at hW
          subst hpv
          refine lv_dup2_11 hx hb dX12_sums_80 rfl rfl ?_
          refine mr_lald K hK hW 34 (by decide) rfl (n := 21) rfl rfl ⟨by omega, by omega⟩ (v := a2 (3 * (S.1 9 (k2)) + (S.1 11 (k2)))) rfl dX12_sums_81 ?_
          refine lv_aload_n hx hb dX12_sums_82 rfl (lv_at hl 1 rfl) ?_
          refine mr_get K hK hW hin 12 (by decide) lM_amount (v := .ref (ix 112)) rfl dX12_sums_83 ?_
          refine lv_iload_n hx hb dX12_sums_86 rfl (lv_at hl 0 rfl) ?_
          refine mr_iald K hK hW 12 (by decide) rfl (n := 60) rfl rfl ⟨by omega, by omega⟩ (v := S.1 12 (k2)) rfl dX12_sums_87 ?_
          have w_11 := wf_12 hwf (k2)
          refine xi_i2l hx hb ⟨by omega, by omega⟩ dX12_sums_88 ?_
          refine lv_lsub hx hb dX12_sums_89 ?_
          refine mr_last34 K hK hW rfl ⟨by omega, by omega⟩ dX12_sums_90 (fun H locs hW => ?_)
          refine lv_aload_n hx hb dX12_sums_91 rfl (lv_at hl 1 rfl) ?_
          refine mr_get K hK hW hin 34 (by decide) lM_more (v := .ref (ix 134)) rfl dX12_sums_92 ?_
          refine lv_aload_n hx hb dX12_sums_95 rfl (lv_at hl 1 rfl) ?_
          refine mr_get K hK hW hin 10 (by decide) lM_to (v := .ref (ix 110)) rfl dX12_sums_96 ?_
          refine lv_iload_n hx hb dX12_sums_99 rfl (lv_at hl 0 rfl) ?_
          refine mr_iald K hK hW 10 (by decide) rfl (n := 60) rfl rfl ⟨by omega, by omega⟩ (v := S.1 10 (k2)) rfl dX12_sums_100 ?_
          have w_12 := wf_10 hwf (k2)
          refine lv_aload_n hx hb dX12_sums_101 rfl (lv_at hl 1 rfl) ?_
          refine mr_get K hK hW hin 11 (by decide) lM_currency (v := .ref (ix 111)) rfl dX12_sums_102 ?_
          refine lv_iload_n hx hb dX12_sums_105 rfl (lv_at hl 0 rfl) ?_
          refine mr_iald K hK hW 11 (by decide) rfl (n := 60) rfl rfl ⟨by omega, by omega⟩ (v := S.1 11 (k2)) rfl dX12_sums_106 ?_
          have w_13 := wf_11 hwf (k2)
          refine g_callS (As := [.int (iI (S.1 10 (k2))), .int (iI (S.1 11 (k2)))]) (rest := [.ref (ix 134)]) K (c_M_of (S.1 10 (k2)) (S.1 11 (k2))) (va_cwS 2 hts gM_X12_of rfl rfl rfl (by decide +kernel) ⟨Nat.le_of_ble_eq_true rfl, Nat.le_of_ble_eq_true rfl⟩) hK hW rfl hl.1 rfl (Nat.le_of_ble_eq_true rfl) dX12_sums_107 ⟨Nat.le_refl _, Nat.le_refl _⟩ (fun v_ f_ H locs hp hW => ?_)
          obtain ⟨hpv, hpe⟩ := hp
          rw [hpe] at hW
          subst hpv
          refine lv_dup2_11 hx hb dX12_sums_110 rfl rfl ?_
          refine mr_lald K hK hW 34 (by decide) rfl (n := 21) rfl rfl ⟨by omega, by omega⟩ (v := (lup a2 (3 * (S.1 9 (k2)) + (S.1 11 (k2))) ((a2 (3 * (S.1 9 (k2)) + (S.1 11 (k2)))) - (Int64.ofInt (S.1 12 (k2))))) (3 * (S.1 10 (k2)) + (S.1 11 (k2)))) rfl dX12_sums_111 ?_
          refine lv_aload_n hx hb dX12_sums_112 rfl (lv_at hl 1 rfl) ?_
          refine mr_get K hK hW hin 12 (by decide) lM_amount (v := .ref (ix 112)) rfl dX12_sums_113 ?_
          refine lv_iload_n hx hb dX12_sums_116 rfl (lv_at hl 0 rfl) ?_
          refine mr_iald K hK hW 12 (by decide) rfl (n := 60) rfl rfl ⟨by omega, by omega⟩ (v := S.1 12 (k2)) rfl dX12_sums_117 ?_
          have w_14 := wf_12 hwf (k2)
          refine xi_i2l hx hb ⟨by omega, by omega⟩ dX12_sums_118 ?_
          refine lv_ladd hx hb dX12_sums_119 ?_
          refine mr_last34 K hK hW rfl ⟨by omega, by omega⟩ dX12_sums_120 (fun H locs hW => ?_)
          refine lv_aload_n hx hb dX12_sums_121 rfl (lv_at hl 1 rfl) ?_
          refine mr_get K hK hW hin 35 (by decide) lM_morePaid (v := .ref (ix 135)) rfl dX12_sums_122 ?_
          refine lv_aload_n hx hb dX12_sums_125 rfl (lv_at hl 1 rfl) ?_
          refine mr_get K hK hW hin 9 (by decide) lM_from (v := .ref (ix 109)) rfl dX12_sums_126 ?_
          refine lv_iload_n hx hb dX12_sums_129 rfl (lv_at hl 0 rfl) ?_
          refine mr_iald K hK hW 9 (by decide) rfl (n := 60) rfl rfl ⟨by omega, by omega⟩ (v := S.1 9 (k2)) rfl dX12_sums_130 ?_
          have w_15 := wf_9 hwf (k2)
          refine lv_aload_n hx hb dX12_sums_131 rfl (lv_at hl 1 rfl) ?_
          refine mr_get K hK hW hin 10 (by decide) lM_to (v := .ref (ix 110)) rfl dX12_sums_132 ?_
          refine lv_iload_n hx hb dX12_sums_135 rfl (lv_at hl 0 rfl) ?_
          refine mr_iald K hK hW 10 (by decide) rfl (n := 60) rfl rfl ⟨by omega, by omega⟩ (v := S.1 10 (k2)) rfl dX12_sums_136 ?_
          have w_16 := wf_10 hwf (k2)
          refine lv_aload_n hx hb dX12_sums_137 rfl (lv_at hl 1 rfl) ?_
          refine mr_get K hK hW hin 11 (by decide) lM_currency (v := .ref (ix 111)) rfl dX12_sums_138 ?_
          refine lv_iload_n hx hb dX12_sums_141 rfl (lv_at hl 0 rfl) ?_
          refine mr_iald K hK hW 11 (by decide) rfl (n := 60) rfl rfl ⟨by omega, by omega⟩ (v := S.1 11 (k2)) rfl dX12_sums_142 ?_
          have w_17 := wf_11 hwf (k2)
          refine g_callS (As := [.int (iI (S.1 9 (k2))), .int (iI (S.1 10 (k2))), .int (iI (S.1 11 (k2)))]) (rest := [.ref (ix 135)]) K (c_M_pair (S.1 9 (k2)) (S.1 10 (k2)) (S.1 11 (k2))) (va_cwS 3 hts gM_X12_pair rfl rfl rfl (by decide +kernel) ⟨Nat.le_of_ble_eq_true rfl, Nat.le_of_ble_eq_true rfl⟩) hK hW rfl hl.1 rfl (Nat.le_of_ble_eq_true rfl) dX12_sums_143 ⟨Nat.le_refl _, Nat.le_refl _⟩ (fun v_ f_ H locs hp hW => ?_)
          obtain ⟨hpv, hpe⟩ := hp
          rw [hpe] at hW
          subst hpv
          refine lv_dup2_11 hx hb dX12_sums_146 rfl rfl ?_
          refine mr_lald K hK hW 35 (by decide) rfl (n := 108) rfl rfl ⟨by omega, by omega⟩ (v := q2 (3 * (6 * (S.1 9 (k2)) + (S.1 10 (k2))) + (S.1 11 (k2)))) rfl dX12_sums_147 ?_
          refine lv_aload_n hx hb dX12_sums_148 rfl (lv_at hl 1 rfl) ?_
          refine mr_get K hK hW hin 12 (by decide) lM_amount (v := .ref (ix 112)) rfl dX12_sums_149 ?_
          refine lv_iload_n hx hb dX12_sums_152 rfl (lv_at hl 0 rfl) ?_
          refine mr_iald K hK hW 12 (by decide) rfl (n := 60) rfl rfl ⟨by omega, by omega⟩ (v := S.1 12 (k2)) rfl dX12_sums_153 ?_
          have w_18 := wf_12 hwf (k2)
          refine xi_i2l hx hb ⟨by omega, by omega⟩ dX12_sums_154 ?_
          refine lv_ladd hx hb dX12_sums_155 ?_
          refine mr_last35 K hK hW rfl ⟨by omega, by omega⟩ dX12_sums_156 (fun H locs hW => ?_)
          refine lv_aload_n hx hb dX12_sums_157 rfl (lv_at hl 1 rfl) ?_
          refine mr_get K hK hW hin 35 (by decide) lM_morePaid (v := .ref (ix 135)) rfl dX12_sums_158 ?_
          refine lv_aload_n hx hb dX12_sums_161 rfl (lv_at hl 1 rfl) ?_
          refine mr_get K hK hW hin 10 (by decide) lM_to (v := .ref (ix 110)) rfl dX12_sums_162 ?_
          refine lv_iload_n hx hb dX12_sums_165 rfl (lv_at hl 0 rfl) ?_
          refine mr_iald K hK hW 10 (by decide) rfl (n := 60) rfl rfl ⟨by omega, by omega⟩ (v := S.1 10 (k2)) rfl dX12_sums_166 ?_
          have w_19 := wf_10 hwf (k2)
          refine lv_aload_n hx hb dX12_sums_167 rfl (lv_at hl 1 rfl) ?_
          refine mr_get K hK hW hin 9 (by decide) lM_from (v := .ref (ix 109)) rfl dX12_sums_168 ?_
          refine lv_iload_n hx hb dX12_sums_171 rfl (lv_at hl 0 rfl) ?_
          refine mr_iald K hK hW 9 (by decide) rfl (n := 60) rfl rfl ⟨by omega, by omega⟩ (v := S.1 9 (k2)) rfl dX12_sums_172 ?_
          have w_20 := wf_9 hwf (k2)
          refine lv_aload_n hx hb dX12_sums_173 rfl (lv_at hl 1 rfl) ?_
          refine mr_get K hK hW hin 11 (by decide) lM_currency (v := .ref (ix 111)) rfl dX12_sums_174 ?_
          refine lv_iload_n hx hb dX12_sums_177 rfl (lv_at hl 0 rfl) ?_
          refine mr_iald K hK hW 11 (by decide) rfl (n := 60) rfl rfl ⟨by omega, by omega⟩ (v := S.1 11 (k2)) rfl dX12_sums_178 ?_
          have w_21 := wf_11 hwf (k2)
          refine g_callS (As := [.int (iI (S.1 10 (k2))), .int (iI (S.1 9 (k2))), .int (iI (S.1 11 (k2)))]) (rest := [.ref (ix 135)]) K (c_M_pair (S.1 10 (k2)) (S.1 9 (k2)) (S.1 11 (k2))) (va_cwS 3 hts gM_X12_pair rfl rfl rfl (by decide +kernel) ⟨Nat.le_of_ble_eq_true rfl, Nat.le_of_ble_eq_true rfl⟩) hK hW rfl hl.1 rfl (Nat.le_of_ble_eq_true rfl) dX12_sums_179 ⟨Nat.le_refl _, Nat.le_refl _⟩ (fun v_ f_ H locs hp hW => ?_)
          obtain ⟨hpv, hpe⟩ := hp
          rw [hpe] at hW
          subst hpv
          refine lv_dup2_11 hx hb dX12_sums_182 rfl rfl ?_
          refine mr_lald K hK hW 35 (by decide) rfl (n := 108) rfl rfl ⟨by omega, by omega⟩ (v := (lup q2 (3 * (6 * (S.1 9 (k2)) + (S.1 10 (k2))) + (S.1 11 (k2))) ((q2 (3 * (6 * (S.1 9 (k2)) + (S.1 10 (k2))) + (S.1 11 (k2)))) + (Int64.ofInt (S.1 12 (k2))))) (3 * (6 * (S.1 10 (k2)) + (S.1 9 (k2))) + (S.1 11 (k2)))) rfl dX12_sums_183 ?_
          refine lv_aload_n hx hb dX12_sums_184 rfl (lv_at hl 1 rfl) ?_
          refine mr_get K hK hW hin 12 (by decide) lM_amount (v := .ref (ix 112)) rfl dX12_sums_185 ?_
          refine lv_iload_n hx hb dX12_sums_188 rfl (lv_at hl 0 rfl) ?_
          refine mr_iald K hK hW 12 (by decide) rfl (n := 60) rfl rfl ⟨by omega, by omega⟩ (v := S.1 12 (k2)) rfl dX12_sums_189 ?_
          have w_22 := wf_12 hwf (k2)
          refine xi_i2l hx hb ⟨by omega, by omega⟩ dX12_sums_190 ?_
          refine lv_lsub hx hb dX12_sums_191 ?_
          refine mr_last35 K hK hW rfl ⟨by omega, by omega⟩ dX12_sums_192 (fun H locs hW => ?_)
          refine xi_iinc (lv' := [(1, .int (iI (k2 + 1))), (0, .ref (ix 100))]) hx hb dX12_sums_193 hl (k := 0) rfl (by decide) rfl (fun ls hl => ?_)
          refine lv_goto (tgt := 44) hx hb dX12_sums_196 (by decide) ?_
          exact ih_lp_5 (k2 + 1) (lup (lup a2 (3 * (S.1 9 (k2)) + (S.1 11 (k2))) ((a2 (3 * (S.1 9 (k2)) + (S.1 11 (k2)))) - (Int64.ofInt (S.1 12 (k2))))) (3 * (S.1 10 (k2)) + (S.1 11 (k2))) (((lup a2 (3 * (S.1 9 (k2)) + (S.1 11 (k2))) ((a2 (3 * (S.1 9 (k2)) + (S.1 11 (k2)))) - (Int64.ofInt (S.1 12 (k2))))) (3 * (S.1 10 (k2)) + (S.1 11 (k2)))) + (Int64.ofInt (S.1 12 (k2))))) (lup (lup q2 (3 * (6 * (S.1 9 (k2)) + (S.1 10 (k2))) + (S.1 11 (k2))) ((q2 (3 * (6 * (S.1 9 (k2)) + (S.1 10 (k2))) + (S.1 11 (k2)))) + (Int64.ofInt (S.1 12 (k2))))) (3 * (6 * (S.1 10 (k2)) + (S.1 9 (k2))) + (S.1 11 (k2))) (((lup q2 (3 * (6 * (S.1 9 (k2)) + (S.1 10 (k2))) + (S.1 11 (k2))) ((q2 (3 * (6 * (S.1 9 (k2)) + (S.1 10 (k2))) + (S.1 11 (k2)))) + (Int64.ofInt (S.1 12 (k2))))) (3 * (6 * (S.1 10 (k2)) + (S.1 9 (k2))) + (S.1 11 (k2)))) - (Int64.ofInt (S.1 12 (k2))))) _ _ _ (by have := wf_8 hwf 0; first | omega | (dsimp only; omega)) ⟨⟨⟨by omega, by omega⟩, fun x h1 h2 => by
            rw [show (k2 + 1).toNat = k2.toNat + 1 by omega, dS_s, show ((k2.toNat : Nat) : Int) = k2 by omega, if_pos c_8, ← hA2 x h1 h2]
            exact lup2 a2 _ _ _ x, fun x h1 h2 => by
            rw [show (k2 + 1).toNat = k2.toNat + 1 by omega, pS_s, show ((k2.toNat : Nat) : Int) = k2 by omega, if_pos c_8, ← hQ2 x h1 h2]
            exact lup2' q2 _ _ _ x⟩, hW, lv_sub hl [0, 1] rfl⟩
    · refine lv_aload_n hx hb dX12_sums_29 rfl (lv_at hl 1 rfl) ?_
      refine mr_get K hK hW hin 35 (by decide) lM_morePaid (v := .ref (ix 135)) rfl dX12_sums_30 ?_
      refine lv_iload_n hx hb dX12_sums_33 rfl (lv_at hl 0 rfl) ?_
      refine lv_lconst (v := 0) hx hb dX12_sums_34 (by decide) ?_
      refine mr_last35 K hK hW rfl ⟨by omega, by omega⟩ dX12_sums_35 (fun H locs hW => ?_)
      refine xi_iinc (lv' := [(1, .int (iI (k1 + 1))), (0, .ref (ix 100))]) hx hb dX12_sums_36 hl (k := 0) rfl (by decide) rfl (fun ls hl => ?_)
      refine lv_goto (tgt := 23) hx hb dX12_sums_39 (by decide) ?_
      exact ih_lp_3 (k1 + 1) (lup q (k1) (0)) _ _ _ (by first | omega | (dsimp only; omega)) ⟨⟨⟨by omega, by omega⟩, fun j h1 h2 => by
          by_cases h : j = k1
          · rw [h]; exact lup_s _ _ _
          · rw [lup_n _ _ h]; exact hQ j h1 (by omega)⟩, hW, lv_sub hl [0, 1] rfl⟩
  · refine lv_aload_n hx hb dX12_sums_8 rfl (lv_at hl 1 rfl) ?_
    refine mr_get K hK hW hin 34 (by decide) lM_more (v := .ref (ix 134)) rfl dX12_sums_9 ?_
    refine lv_iload_n hx hb dX12_sums_12 rfl (lv_at hl 0 rfl) ?_
    refine lv_lconst (v := 0) hx hb dX12_sums_13 (by decide) ?_
    refine mr_last34 K hK hW rfl ⟨by omega, by omega⟩ dX12_sums_14 (fun H locs hW => ?_)
    refine xi_iinc (lv' := [(1, .int (iI (k + 1))), (0, .ref (ix 100))]) hx hb dX12_sums_15 hl (k := 0) rfl (by decide) rfl (fun ls hl => ?_)
    refine lv_goto (tgt := 2) hx hb dX12_sums_18 (by decide) ?_
    exact ih_lp_1 (k + 1) (lup a (k) (0)) _ _ _ (by first | omega | (dsimp only; omega)) ⟨⟨⟨by omega, by omega⟩, fun j h1 h2 => by
        by_cases h : j = k
        · rw [h]; exact lup_s _ _ _
        · rw [lup_n _ _ h]; exact hA j h1 (by omega)⟩, hW, lv_sub hl [0, 1] rfl⟩
set_option maxHeartbeats 4000000 in
set_option maxRecDepth 100000 in
theorem c_M_isShort {l : Launch} {D : va_G} {cy : Nat → ClassId} {B0 : Nat} {ix : Nat → Nat} {S : ST} {I : Int → Bool} {aM qM : Int → Int64} {tM : Int} {G : gF} (b : Int) (c : Int) (hb0 : 0 ≤ b ∧ b ≤ 5) (hc : 0 ≤ c ∧ c ≤ 2) (hwf : wf S) : gM l yX12_isShort vX12_isShort 1 21 D cy B0 [.ref (ix 100), .int (iI b), .int (iI c)] (mW cy ix S (mX I aM qM tM) G) (fun r g => r = some (.int (iI (bI (shX S aM b c)))) ∧ g = mW cy ix S (mX I aM qM tM) G) 0 0 := by
  refine g_start (cc := cX12_isShort) (maxL := 4) (ret := (some .boolean)) (by decide) rfl (Nat.le_of_ble_eq_true rfl) ?_
  intro p_ e_ s_ m_ be_ me_ co_ ls H locs K hr hlk hnm hK hW hl
  have hin : ∀ w ∈ wsX120, w ∈ vX12_isShort := wsM_cls
  obtain ⟨hx, hb, hml, hown, hts⟩ := id K
  have hl : lv_has ls 4 [(0, .ref (ix 100)), (1, .int (iI (b))), (2, .int (iI (c)))] := hl
  refine lv_iload_n hx hb dX12_isShort_0 rfl (lv_at hl 1 rfl) ?_
  refine lv_iload_n hx hb dX12_isShort_1 rfl (lv_at hl 2 rfl) ?_
  refine g_callS (As := [.int (iI (b)), .int (iI (c))]) (rest := []) K (c_M_of (b) (c)) (va_cwS 2 hts gM_X12_of rfl rfl rfl (by decide +kernel) ⟨Nat.le_of_ble_eq_true rfl, Nat.le_of_ble_eq_true rfl⟩) hK hW rfl hl.1 rfl (Nat.le_of_ble_eq_true rfl) dX12_isShort_2 ⟨Nat.le_refl _, Nat.le_refl _⟩ (fun v_ f_ H locs hp hW => ?_)
  obtain ⟨hpv, hpe⟩ := hp
  rw [hpe] at hW
  subst hpv
  refine lv_istore_n (lv' := [(3, .int (iI (3 * b + c))), (0, .ref (ix 100)), (1, .int (iI (b))), (2, .int (iI (c)))]) hx hb dX12_isShort_5 rfl hl (by decide) rfl (fun ls hl => ?_)
  refine lv_aload_n hx hb dX12_isShort_6 rfl (lv_at hl 1 rfl) ?_
  refine mr_get K hK hW hin 34 (by decide) lM_more (v := .ref (ix 134)) rfl dX12_isShort_7 ?_
  refine lv_iload_n hx hb dX12_isShort_10 rfl (lv_at hl 0 rfl) ?_
  refine mr_lald K hK hW 34 (by decide) rfl (n := 21) rfl rfl ⟨by omega, by omega⟩ (v := aM (3 * b + c)) rfl dX12_isShort_11 ?_
  refine lv_lconst (v := 0) hx hb dX12_isShort_12 (by decide) ?_
  refine xi_lcmp_ge (tgt := 46) hx hb dX12_isShort_13 dX12_isShort_14 (by decide) (fun c_1 => ?_) (fun c_1 => ?_)
  · refine xi_iconst hx hb dX12_isShort_46 ?_
    exact g_zret hx hb hr (Or.inl rfl) hW ⟨congrArg (fun z => some (Value.int (iI z))) (bI_f (by simp only [shX, c_1, decide_true, decide_false, Bool.true_and, Bool.and_true, Bool.false_and, Bool.and_false, Bool.true_or, Bool.or_true, Bool.false_or, Bool.or_false, Bool.not_true, Bool.not_false, eq_self])), rfl⟩ dX12_isShort_47 hlk
  · refine lv_aload_n hx hb dX12_isShort_17 rfl (lv_at hl 1 rfl) ?_
    refine mr_get K hK hW hin 1 (by decide) lM_account (v := .ref (ix 101)) rfl dX12_isShort_18 ?_
    refine lv_iload_n hx hb dX12_isShort_21 rfl (lv_at hl 0 rfl) ?_
    refine mr_lald K hK hW 1 (by decide) rfl (n := 21) rfl rfl ⟨by omega, by omega⟩ (v := S.2 1 (3 * b + c)) rfl dX12_isShort_22 ?_
    refine lv_aload_n hx hb dX12_isShort_23 rfl (lv_at hl 1 rfl) ?_
    refine mr_get K hK hW hin 34 (by decide) lM_more (v := .ref (ix 134)) rfl dX12_isShort_24 ?_
    refine lv_iload_n hx hb dX12_isShort_27 rfl (lv_at hl 0 rfl) ?_
    refine mr_lald K hK hW 34 (by decide) rfl (n := 21) rfl rfl ⟨by omega, by omega⟩ (v := aM (3 * b + c)) rfl dX12_isShort_28 ?_
    refine lv_ladd hx hb dX12_isShort_29 ?_
    refine lv_aload_n hx hb dX12_isShort_30 rfl (lv_at hl 1 rfl) ?_
    refine mr_get K hK hW hin 2 (by decide) lM_line (v := .ref (ix 102)) rfl dX12_isShort_31 ?_
    refine lv_iload_n hx hb dX12_isShort_34 rfl (lv_at hl 0 rfl) ?_
    refine mr_iald K hK hW 2 (by decide) rfl (n := 18) rfl rfl ⟨by omega, by omega⟩ (v := S.1 2 (3 * b + c)) rfl dX12_isShort_35 ?_
    have w_2 := wf_2 hwf (3 * b + c)
    refine xi_ineg hx hb dX12_isShort_36 ?_
    refine xi_i2l hx hb ⟨by omega, by omega⟩ dX12_isShort_37 ?_
    refine xi_lcmp_ge (tgt := 46) hx hb dX12_isShort_38 dX12_isShort_39 (by decide) (fun c_3 => ?_) (fun c_3 => ?_)
    · refine xi_iconst hx hb dX12_isShort_46 ?_
      exact g_zret hx hb hr (Or.inl rfl) hW ⟨congrArg (fun z => some (Value.int (iI z))) (bI_f (by simp only [shX, c_1, c_3, decide_true, decide_false, Bool.true_and, Bool.and_true, Bool.false_and, Bool.and_false, Bool.true_or, Bool.or_true, Bool.false_or, Bool.or_false, Bool.not_true, Bool.not_false, eq_self])), rfl⟩ dX12_isShort_47 hlk
    · refine xi_iconst hx hb dX12_isShort_42 ?_
      refine lv_goto (tgt := 47) hx hb dX12_isShort_43 (by decide) ?_
      exact g_zret hx hb hr (Or.inr rfl) hW ⟨congrArg (fun z => some (Value.int (iI z))) (bI_t (by simp only [shX, c_1, c_3, decide_true, decide_false, Bool.true_and, Bool.and_true, Bool.false_and, Bool.and_false, Bool.true_or, Bool.or_true, Bool.false_or, Bool.or_false, Bool.not_true, Bool.not_false, eq_self])), rfl⟩ dX12_isShort_47 hlk
set_option maxHeartbeats 4000000 in
set_option maxRecDepth 100000 in
theorem c_M_isPassed {l : Launch} {D : va_G} {cy : Nat → ClassId} {B0 : Nat} {ix : Nat → Nat} {S : ST} {I : Int → Bool} {aM qM : Int → Int64} {tM : Int} {G : gF} (b : Int) (u : Int) (c : Int) (hb0 : 0 ≤ b ∧ b ≤ 5) (hu : 0 ≤ u ∧ u ≤ 5) (hc : 0 ≤ c ∧ c ≤ 2) (hwf : wf S) : gM l yX12_isPassed vX12_isPassed 1 22 D cy B0 [.ref (ix 100), .int (iI b), .int (iI u), .int (iI c)] (mW cy ix S (mX I aM qM tM) G) (fun r g => r = some (.int (iI (bI (paX S qM b u c)))) ∧ g = mW cy ix S (mX I aM qM tM) G) 0 0 := by
  refine g_start (cc := cX12_isPassed) (maxL := 5) (ret := (some .boolean)) (by decide) rfl (Nat.le_of_ble_eq_true rfl) ?_
  intro p_ e_ s_ m_ be_ me_ co_ ls H locs K hr hlk hnm hK hW hl
  have hin : ∀ w ∈ wsX120, w ∈ vX12_isPassed := wsM_cls
  obtain ⟨hx, hb, hml, hown, hts⟩ := id K
  have hl : lv_has ls 5 [(0, .ref (ix 100)), (1, .int (iI (b))), (2, .int (iI (u))), (3, .int (iI (c)))] := hl
  refine lv_iload_n hx hb dX12_isPassed_0 rfl (lv_at hl 1 rfl) ?_
  refine lv_iload_n hx hb dX12_isPassed_1 rfl (lv_at hl 2 rfl) ?_
  refine lv_iload_n hx hb dX12_isPassed_2 rfl (lv_at hl 3 rfl) ?_
  refine g_callS (As := [.int (iI (b)), .int (iI (u)), .int (iI (c))]) (rest := []) K (c_M_pair (b) (u) (c)) (va_cwS 3 hts gM_X12_pair rfl rfl rfl (by decide +kernel) ⟨Nat.le_of_ble_eq_true rfl, Nat.le_of_ble_eq_true rfl⟩) hK hW rfl hl.1 rfl (Nat.le_of_ble_eq_true rfl) dX12_isPassed_3 ⟨Nat.le_refl _, Nat.le_refl _⟩ (fun v_ f_ H locs hp hW => ?_)
  obtain ⟨hpv, hpe⟩ := hp
  rw [hpe] at hW
  subst hpv
  refine lv_istore (lv' := [(4, .int (iI (3 * (6 * b + u) + c))), (0, .ref (ix 100)), (1, .int (iI (b))), (2, .int (iI (u))), (3, .int (iI (c)))]) hx hb dX12_isPassed_6 hl (by decide) rfl (fun ls hl => ?_)
  refine lv_aload_n hx hb dX12_isPassed_8 rfl (lv_at hl 1 rfl) ?_
  refine mr_get K hK hW hin 35 (by decide) lM_morePaid (v := .ref (ix 135)) rfl dX12_isPassed_9 ?_
  refine lv_iload hx hb dX12_isPassed_12 (lv_at hl 0 rfl) ?_
  refine mr_lald K hK hW 35 (by decide) rfl (n := 108) rfl rfl ⟨by omega, by omega⟩ (v := qM (3 * (6 * b + u) + c)) rfl dX12_isPassed_14 ?_
  refine lv_lconst (v := 0) hx hb dX12_isPassed_15 (by decide) ?_
  refine xi_lcmp_le (tgt := 62) hx hb dX12_isPassed_16 dX12_isPassed_17 (by decide) (fun c_1 => ?_) (fun c_1 => ?_)
  · refine xi_iconst hx hb dX12_isPassed_62 ?_
    exact g_zret hx hb hr (Or.inl rfl) hW ⟨congrArg (fun z => some (Value.int (iI z))) (bI_f (by simp only [paX, c_1, decide_true, decide_false, Bool.true_and, Bool.and_true, Bool.false_and, Bool.and_false, Bool.true_or, Bool.or_true, Bool.false_or, Bool.or_false, Bool.not_true, Bool.not_false, eq_self])), rfl⟩ dX12_isPassed_63 hlk
  · refine lv_aload_n hx hb dX12_isPassed_20 rfl (lv_at hl 1 rfl) ?_
    refine mr_get K hK hW hin 3 (by decide) lM_limit (v := .ref (ix 103)) rfl dX12_isPassed_21 ?_
    refine lv_iload hx hb dX12_isPassed_24 (lv_at hl 0 rfl) ?_
    refine mr_iald K hK hW 3 (by decide) rfl (n := 108) rfl rfl ⟨by omega, by omega⟩ (v := S.1 3 (3 * (6 * b + u) + c)) rfl dX12_isPassed_26 ?_
    have w_2 := wf_3 hwf (3 * (6 * b + u) + c)
    refine xi_iconst hx hb dX12_isPassed_27 ?_
    refine xi_icmp_eq (tgt := 62) hx hb ⟨by omega, by omega⟩ ⟨by omega, by omega⟩ dX12_isPassed_28 (by decide) (fun c_3 => ?_) (fun c_3 => ?_)
    · refine xi_iconst hx hb dX12_isPassed_62 ?_
      exact g_zret hx hb hr (Or.inl rfl) hW ⟨congrArg (fun z => some (Value.int (iI z))) (bI_f (by simp only [paX, c_1, c_3, decide_true, decide_false, Bool.true_and, Bool.and_true, Bool.false_and, Bool.and_false, Bool.true_or, Bool.or_true, Bool.false_or, Bool.or_false, Bool.not_true, Bool.not_false, eq_self])), rfl⟩ dX12_isPassed_63 hlk
    · refine lv_aload_n hx hb dX12_isPassed_31 rfl (lv_at hl 1 rfl) ?_
      refine mr_get K hK hW hin 4 (by decide) lM_paid (v := .ref (ix 104)) rfl dX12_isPassed_32 ?_
      refine lv_iload hx hb dX12_isPassed_35 (lv_at hl 0 rfl) ?_
      refine mr_lald K hK hW 4 (by decide) rfl (n := 108) rfl rfl ⟨by omega, by omega⟩ (v := S.2 4 (3 * (6 * b + u) + c)) rfl dX12_isPassed_37 ?_
      refine lv_aload_n hx hb dX12_isPassed_38 rfl (lv_at hl 1 rfl) ?_
      refine mr_get K hK hW hin 35 (by decide) lM_morePaid (v := .ref (ix 135)) rfl dX12_isPassed_39 ?_
      refine lv_iload hx hb dX12_isPassed_42 (lv_at hl 0 rfl) ?_
      refine mr_lald K hK hW 35 (by decide) rfl (n := 108) rfl rfl ⟨by omega, by omega⟩ (v := qM (3 * (6 * b + u) + c)) rfl dX12_isPassed_44 ?_
      refine lv_ladd hx hb dX12_isPassed_45 ?_
      refine lv_aload_n hx hb dX12_isPassed_46 rfl (lv_at hl 1 rfl) ?_
      refine mr_get K hK hW hin 3 (by decide) lM_limit (v := .ref (ix 103)) rfl dX12_isPassed_47 ?_
      refine lv_iload hx hb dX12_isPassed_50 (lv_at hl 0 rfl) ?_
      refine mr_iald K hK hW 3 (by decide) rfl (n := 108) rfl rfl ⟨by omega, by omega⟩ (v := S.1 3 (3 * (6 * b + u) + c)) rfl dX12_isPassed_52 ?_
      have w_4 := wf_3 hwf (3 * (6 * b + u) + c)
      refine xi_i2l hx hb ⟨by omega, by omega⟩ dX12_isPassed_53 ?_
      refine xi_lcmp_le (tgt := 62) hx hb dX12_isPassed_54 dX12_isPassed_55 (by decide) (fun c_5 => ?_) (fun c_5 => ?_)
      · refine xi_iconst hx hb dX12_isPassed_62 ?_
        exact g_zret hx hb hr (Or.inl rfl) hW ⟨congrArg (fun z => some (Value.int (iI z))) (bI_f (by simp only [paX, c_1, c_3, c_5, decide_true, decide_false, Bool.true_and, Bool.and_true, Bool.false_and, Bool.and_false, Bool.true_or, Bool.or_true, Bool.false_or, Bool.or_false, Bool.not_true, Bool.not_false, eq_self])), rfl⟩ dX12_isPassed_63 hlk
      · refine xi_iconst hx hb dX12_isPassed_58 ?_
        refine lv_goto (tgt := 63) hx hb dX12_isPassed_59 (by decide) ?_
        exact g_zret hx hb hr (Or.inr rfl) hW ⟨congrArg (fun z => some (Value.int (iI z))) (bI_t (by simp only [paX, c_1, c_3, c_5, decide_true, decide_false, Bool.true_and, Bool.and_true, Bool.false_and, Bool.and_false, Bool.true_or, Bool.or_true, Bool.false_or, Bool.or_false, Bool.not_true, Bool.not_false, eq_self])), rfl⟩ dX12_isPassed_63 hlk
set_option maxHeartbeats 4000000 in
set_option maxRecDepth 100000 in
theorem c_M_fits {l : Launch} {D : va_G} {cy : Nat → ClassId} {B0 : Nat} {ix : Nat → Nat} {S : ST} {I : Int → Bool} {aM qM : Int → Int64} {tM : Int} {G : gF} (c : Int) (hc : 0 ≤ c ∧ c ≤ 2) (hwf : wf S) : gM l yX12_fits vX12_fits 2 46 D cy B0 [.ref (ix 100), .int (iI c)] (mW cy ix S (mX I aM qM tM) G) (fun r g => r = some (.int (iI (bI (fiX S aM qM c)))) ∧ g = mW cy ix S (mX I aM qM tM) G) 0 0 := by
  refine g_start (cc := cX12_fits) (maxL := 5) (ret := (some .boolean)) (by decide) rfl (Nat.le_of_ble_eq_true rfl) ?_
  intro p_ e_ s_ m_ be_ me_ co_ ls H locs K hr hlk hnm hK hW hl
  have hin : ∀ w ∈ wsX120, w ∈ vX12_fits := wsM_cls
  obtain ⟨hx, hb, hml, hown, hts⟩ := id K
  have hl : lv_has ls 5 [(0, .ref (ix 100)), (1, .int (iI (c)))] := hl
  refine xi_iconst hx hb dX12_fits_0 ?_
  refine lv_istore_n (lv' := [(2, .int (iI (1))), (0, .ref (ix 100)), (1, .int (iI (c)))]) hx hb dX12_fits_1 rfl hl (by decide) rfl (fun ls hl => ?_)
  refine xi_iconst hx hb dX12_fits_2 ?_
  refine lv_istore_n (lv' := [(3, .int (iI (0))), (2, .int (iI (1))), (0, .ref (ix 100)), (1, .int (iI (c)))]) hx hb dX12_fits_3 rfl hl (by decide) rfl (fun ls hl => ?_)
  refine lp_w1 (Wg := fun (H : Heap) (locs : List Loc) (ls : Array Slot) => W p_ l e_ { frames := 2, cells := 0, slots := 0, locals := 46 } s_ m_ ([.ref (ix 100), .int (iI c)] : List Value).toArray be_ me_ co_ H locs 0 0 (MQ be_ (gQ D B0 (fun (r : Option Value) (g : gF) => r = some (.int (iI (bI (fiX S aM qM c)))) ∧ g = mW cy ix S (mX I aM qM tM) G)) ([.ref (ix 100), .int (iI c)] : List Value).toArray s_ 0 0 (fun q : Nat => B0 ≤ q)) (F0 m_ 4 ls [])) (fun (k : Int) (H : Heap) (locs : List Loc) (ls : Array Slot) => (0 ≤ k ∧ k ≤ 6) ∧ gW D B0 s_.heap (mW cy ix S (mX (I) (aM) (qM) (tM)) G) H locs ∧ lv_has ls 5 [(3, .int (iI (k))), (2, .int (iI (bI (alB (fun b => !shX S aM b c && alB (fun o => !paX S qM b o c) 6) k.toNat)))), (1, .int (iI (c))), (0, .ref (ix 100))]) (fun (k : Int) => (6 - k).toNat) (fun k H locs ls hI ih_lp_1 => ?_) (0) _ _ _ ⟨⟨by omega, by omega⟩, hW, lv_sub hl [0, 1, 3, 2] rfl⟩
  obtain ⟨hI_lp_1, hW, hl⟩ := hI
  refine lv_iload_n hx hb dX12_fits_4 rfl (lv_at hl 0 rfl) ?_
  refine xi_bipush hx hb dX12_fits_5 (by decide) ?_
  refine xi_icmp_ge (tgt := 72) hx hb ⟨by omega, by omega⟩ ⟨by omega, by omega⟩ dX12_fits_7 (by decide) (fun c_2 => ?_) (fun c_2 => ?_)
  · refine lv_iload_n hx hb dX12_fits_72 rfl (lv_at hl 1 rfl) ?_
    exact g_zret hx hb hr (bI_01 _) hW ⟨by rw [show k = 6 by omega]; rfl, rfl⟩ dX12_fits_73 hlk
  · have j_3 : ∀ (z : Bool) (H : Heap) (locs : List Loc), z = (alB (fun b => !shX S aM b c && alB (fun o => !paX S qM b o c) 6) k.toNat && !shX S aM k c) → gW D B0 s_.heap (mW cy ix S (mX (I) (aM) (qM) (tM)) G) H locs → W p_ l e_ { frames := 2, cells := 0, slots := 0, locals := 46 } s_ m_ ([.ref (ix 100), .int (iI c)] : List Value).toArray be_ me_ co_ H locs 0 0 (MQ be_ (gQ D B0 (fun (r : Option Value) (g : gF) => r = some (.int (iI (bI (fiX S aM qM c)))) ∧ g = mW cy ix S (mX I aM qM tM) G)) ([.ref (ix 100), .int (iI c)] : List Value).toArray s_ 0 0 (fun q : Nat => B0 ≤ q)) (F0 m_ 28 ls [.int (iI (bI (z)))]) := by
      intro z H locs hz hW
      subst hz
      refine lv_istore_n (lv' := [(2, .int (iI (bI (alB (fun b => !shX S aM b c && alB (fun o => !paX S qM b o c) 6) k.toNat && !shX S aM k c)))), (3, .int (iI (k))), (1, .int (iI (c))), (0, .ref (ix 100))]) hx hb dX12_fits_28 rfl hl (by decide) rfl (fun ls hl => ?_)
      refine xi_iconst hx hb dX12_fits_29 ?_
      have hl : lv_has ls 5 [(2, .int (iI (bI (alB (fun b => !shX S aM b c && alB (fun o => !paX S qM b o c) 6) k.toNat && !shX S aM k c && alB (fun o => !paX S qM k o c) (0 : Int).toNat)))), (3, .int (iI (k))), (1, .int (iI (c))), (0, .ref (ix 100))] := by
        have hbe : (alB (fun b => !shX S aM b c && alB (fun o => !paX S qM b o c) 6) k.toNat && !shX S aM k c) = (alB (fun b => !shX S aM b c && alB (fun o => !paX S qM b o c) 6) k.toNat && !shX S aM k c && alB (fun o => !paX S qM k o c) (0 : Int).toNat) := by simp [alB]
        rw [← hbe]; exact hl
      refine lv_istore (lv' := [(4, .int (iI (0))), (2, .int (iI (bI (alB (fun b => !shX S aM b c && alB (fun o => !paX S qM b o c) 6) k.toNat && !shX S aM k c && alB (fun o => !paX S qM k o c) (0 : Int).toNat)))), (3, .int (iI (k))), (1, .int (iI (c))), (0, .ref (ix 100))]) hx hb dX12_fits_30 hl (by decide) rfl (fun ls hl => ?_)
      refine lp_w1 (Wg := fun (H : Heap) (locs : List Loc) (ls : Array Slot) => W p_ l e_ { frames := 2, cells := 0, slots := 0, locals := 46 } s_ m_ ([.ref (ix 100), .int (iI c)] : List Value).toArray be_ me_ co_ H locs 0 0 (MQ be_ (gQ D B0 (fun (r : Option Value) (g : gF) => r = some (.int (iI (bI (fiX S aM qM c)))) ∧ g = mW cy ix S (mX I aM qM tM) G)) ([.ref (ix 100), .int (iI c)] : List Value).toArray s_ 0 0 (fun q : Nat => B0 ≤ q)) (F0 m_ 32 ls [])) (fun (u : Int) (H : Heap) (locs : List Loc) (ls : Array Slot) => (0 ≤ u ∧ u ≤ 6) ∧ gW D B0 s_.heap (mW cy ix S (mX (I) (aM) (qM) (tM)) G) H locs ∧ lv_has ls 5 [(4, .int (iI (u))), (3, .int (iI (k))), (2, .int (iI (bI (alB (fun b => !shX S aM b c && alB (fun o => !paX S qM b o c) 6) k.toNat && !shX S aM k c && alB (fun o => !paX S qM k o c) u.toNat)))), (1, .int (iI (c))), (0, .ref (ix 100))]) (fun (u : Int) => (6 - u).toNat) (fun u H locs ls hI ih_lp_4 => ?_) (0) _ _ _ ⟨⟨by omega, by omega⟩, hW, lv_sub hl [0, 2, 1, 3, 4] rfl⟩
      obtain ⟨hI_lp_4, hW, hl⟩ := hI
      refine lv_iload hx hb dX12_fits_32 (lv_at hl 0 rfl) ?_
      refine xi_bipush hx hb dX12_fits_34 (by decide) ?_
      refine xi_icmp_ge (tgt := 66) hx hb ⟨by omega, by omega⟩ ⟨by omega, by omega⟩ dX12_fits_36 (by decide) (fun c_5 => ?_) (fun c_5 => ?_)
      · have hl : lv_has ls 5 [(4, .int (iI (u))), (3, .int (iI (k))), (2, .int (iI (bI (alB (fun b => !shX S aM b c && alB (fun o => !paX S qM b o c) 6) (k + 1).toNat)))), (1, .int (iI (c))), (0, .ref (ix 100))] := by
          have hbe : (alB (fun b => !shX S aM b c && alB (fun o => !paX S qM b o c) 6) k.toNat && !shX S aM k c && alB (fun o => !paX S qM k o c) u.toNat) = (alB (fun b => !shX S aM b c && alB (fun o => !paX S qM b o c) 6) (k + 1).toNat) := by rw [show (k + 1).toNat = k.toNat + 1 by omega, show u = 6 by omega, alB_s _ k.toNat, show ((k.toNat : Nat) : Int) = k by omega, Bool.and_assoc]; rfl
          rw [← hbe]; exact hl
        refine xi_iinc (lv' := [(3, .int (iI (k + 1))), (4, .int (iI (u))), (2, .int (iI (bI (alB (fun b => !shX S aM b c && alB (fun o => !paX S qM b o c) 6) (k + 1).toNat)))), (1, .int (iI (c))), (0, .ref (ix 100))]) hx hb dX12_fits_66 hl (k := 1) rfl (by decide) rfl (fun ls hl => ?_)
        refine lv_goto (tgt := 4) hx hb dX12_fits_69 (by decide) ?_
        exact ih_lp_1 (k + 1) _ _ _ (by first | omega | (dsimp only; omega)) ⟨⟨by omega, by omega⟩, hW, lv_sub hl [0, 2, 3, 4] rfl⟩
      · have j_6 : ∀ (z : Bool) (H : Heap) (locs : List Loc), z = (alB (fun b => !shX S aM b c && alB (fun o => !paX S qM b o c) 6) k.toNat && !shX S aM k c && alB (fun o => !paX S qM k o c) u.toNat && !paX S qM k u c) → gW D B0 s_.heap (mW cy ix S (mX (I) (aM) (qM) (tM)) G) H locs → W p_ l e_ { frames := 2, cells := 0, slots := 0, locals := 46 } s_ m_ ([.ref (ix 100), .int (iI c)] : List Value).toArray be_ me_ co_ H locs 0 0 (MQ be_ (gQ D B0 (fun (r : Option Value) (g : gF) => r = some (.int (iI (bI (fiX S aM qM c)))) ∧ g = mW cy ix S (mX I aM qM tM) G)) ([.ref (ix 100), .int (iI c)] : List Value).toArray s_ 0 0 (fun q : Nat => B0 ≤ q)) (F0 m_ 59 ls [.int (iI (bI (z)))]) := by
          intro z H locs hz hW
          subst hz
          refine lv_istore_n (lv' := [(2, .int (iI (bI (alB (fun b => !shX S aM b c && alB (fun o => !paX S qM b o c) 6) k.toNat && !shX S aM k c && alB (fun o => !paX S qM k o c) u.toNat && !paX S qM k u c)))), (4, .int (iI (u))), (3, .int (iI (k))), (1, .int (iI (c))), (0, .ref (ix 100))]) hx hb dX12_fits_59 rfl hl (by decide) rfl (fun ls hl => ?_)
          have hl : lv_has ls 5 [(2, .int (iI (bI (alB (fun b => !shX S aM b c && alB (fun o => !paX S qM b o c) 6) k.toNat && !shX S aM k c && alB (fun o => !paX S qM k o c) (u + 1).toNat)))), (4, .int (iI (u))), (3, .int (iI (k))), (1, .int (iI (c))), (0, .ref (ix 100))] := by
            have hbe : (alB (fun b => !shX S aM b c && alB (fun o => !paX S qM b o c) 6) k.toNat && !shX S aM k c && alB (fun o => !paX S qM k o c) u.toNat && !paX S qM k u c) = (alB (fun b => !shX S aM b c && alB (fun o => !paX S qM b o c) 6) k.toNat && !shX S aM k c && alB (fun o => !paX S qM k o c) (u + 1).toNat) := by rw [show (u + 1).toNat = u.toNat + 1 by omega, alB_s _ u.toNat, show ((u.toNat : Nat) : Int) = u by omega, ← Bool.and_assoc]
            rw [← hbe]; exact hl
          refine xi_iinc (lv' := [(4, .int (iI (u + 1))), (2, .int (iI (bI (alB (fun b => !shX S aM b c && alB (fun o => !paX S qM b o c) 6) k.toNat && !shX S aM k c && alB (fun o => !paX S qM k o c) (u + 1).toNat)))), (3, .int (iI (k))), (1, .int (iI (c))), (0, .ref (ix 100))]) hx hb dX12_fits_60 hl (k := 1) rfl (by decide) rfl (fun ls hl => ?_)
          refine lv_goto (tgt := 32) hx hb dX12_fits_63 (by decide) ?_
          exact ih_lp_4 (u + 1) _ _ _ (by first | omega | (dsimp only; omega)) ⟨⟨by omega, by omega⟩, hW, lv_sub hl [0, 2, 1, 3, 4] rfl⟩
        refine lv_iload_n hx hb dX12_fits_39 rfl (lv_at hl 2 rfl) ?_
        refine xi_ifb_eq (tgt := 58) hx hb dX12_fits_40 (by decide) (fun c_7 => ?_) (fun c_7 => ?_)
        · refine xi_iconst hx hb dX12_fits_58 ?_
          exact xi_eq (bI_f (by simp only [c_2, c_5, c_7, decide_true, decide_false, Bool.true_and, Bool.and_true, Bool.false_and, Bool.and_false, Bool.true_or, Bool.or_true, Bool.false_or, Bool.or_false, Bool.not_true, Bool.not_false, eq_self])) (j_6 _ _ _ rfl hW)
        · refine lv_aload_n hx hb dX12_fits_43 rfl (lv_at hl 4 rfl) ?_
          refine lv_iload_n hx hb dX12_fits_44 rfl (lv_at hl 1 rfl) ?_
          refine lv_iload hx hb dX12_fits_45 (lv_at hl 0 rfl) ?_
          refine lv_iload_n hx hb dX12_fits_47 rfl (lv_at hl 3 rfl) ?_
          refine g_callV (i := 0) (As := [.int (iI (k)), .int (iI (u)), .int (iI (c))]) (rest := []) K (c_M_isPassed (k) (u) (c) ⟨by omega, by omega⟩ ⟨by omega, by omega⟩ ⟨by omega, by omega⟩ hwf) (cwV 3 hts gM_X12_isPassed rfl rfl rfl (by decide +kernel) ⟨Nat.le_of_ble_eq_true rfl, Nat.le_of_ble_eq_true rfl⟩) hK hW (mW_0 _ _ _ _ _) rfl rfl hl.1 rfl (Nat.le_of_ble_eq_true rfl) dX12_fits_48 ⟨Nat.le_refl _, Nat.le_refl _⟩ (fun v_ f_ H locs hp hW => ?_)
          obtain ⟨hpv, hpe⟩ := hp
          rw [hpe] at hW
          subst hpv
          refine xi_ifb_ne (tgt := 58) hx hb dX12_fits_51 (by decide) (fun c_8 => ?_) (fun c_8 => ?_)
          · refine xi_iconst hx hb dX12_fits_58 ?_
            exact xi_eq (bI_f (by simp only [c_2, c_5, c_7, c_8, decide_true, decide_false, Bool.true_and, Bool.and_true, Bool.false_and, Bool.and_false, Bool.true_or, Bool.or_true, Bool.false_or, Bool.or_false, Bool.not_true, Bool.not_false, eq_self])) (j_6 _ _ _ rfl hW)
          · refine xi_iconst hx hb dX12_fits_54 ?_
            refine lv_goto (tgt := 59) hx hb dX12_fits_55 (by decide) ?_
            exact xi_eq (bI_t (by simp only [c_2, c_5, c_7, c_8, decide_true, decide_false, Bool.true_and, Bool.and_true, Bool.false_and, Bool.and_false, Bool.true_or, Bool.or_true, Bool.false_or, Bool.or_false, Bool.not_true, Bool.not_false, eq_self])) (j_6 _ _ _ rfl hW)
    refine lv_iload_n hx hb dX12_fits_10 rfl (lv_at hl 1 rfl) ?_
    refine xi_ifb_eq (tgt := 27) hx hb dX12_fits_11 (by decide) (fun c_9 => ?_) (fun c_9 => ?_)
    · refine xi_iconst hx hb dX12_fits_27 ?_
      exact xi_eq (bI_f (by simp only [c_2, c_9, decide_true, decide_false, Bool.true_and, Bool.and_true, Bool.false_and, Bool.and_false, Bool.true_or, Bool.or_true, Bool.false_or, Bool.or_false, Bool.not_true, Bool.not_false, eq_self])) (j_3 _ _ _ rfl hW)
    · refine lv_aload_n hx hb dX12_fits_14 rfl (lv_at hl 3 rfl) ?_
      refine lv_iload_n hx hb dX12_fits_15 rfl (lv_at hl 0 rfl) ?_
      refine lv_iload_n hx hb dX12_fits_16 rfl (lv_at hl 2 rfl) ?_
      refine g_callV (i := 0) (As := [.int (iI (k)), .int (iI (c))]) (rest := []) K (c_M_isShort (k) (c) ⟨by omega, by omega⟩ ⟨by omega, by omega⟩ hwf) (cwV 2 hts gM_X12_isShort rfl rfl rfl (by decide +kernel) ⟨Nat.le_of_ble_eq_true rfl, Nat.le_of_ble_eq_true rfl⟩) hK hW (mW_0 _ _ _ _ _) rfl rfl hl.1 rfl (Nat.le_of_ble_eq_true rfl) dX12_fits_17 ⟨Nat.le_refl _, Nat.le_refl _⟩ (fun v_ f_ H locs hp hW => ?_)
      obtain ⟨hpv, hpe⟩ := hp
      rw [hpe] at hW
      subst hpv
      refine xi_ifb_ne (tgt := 27) hx hb dX12_fits_20 (by decide) (fun c_10 => ?_) (fun c_10 => ?_)
      · refine xi_iconst hx hb dX12_fits_27 ?_
        exact xi_eq (bI_f (by simp only [c_2, c_9, c_10, decide_true, decide_false, Bool.true_and, Bool.and_true, Bool.false_and, Bool.and_false, Bool.true_or, Bool.or_true, Bool.false_or, Bool.or_false, Bool.not_true, Bool.not_false, eq_self])) (j_3 _ _ _ rfl hW)
      · refine xi_iconst hx hb dX12_fits_23 ?_
        refine lv_goto (tgt := 28) hx hb dX12_fits_24 (by decide) ?_
        exact xi_eq (bI_t (by simp only [c_2, c_9, c_10, decide_true, decide_false, Bool.true_and, Bool.and_true, Bool.false_and, Bool.and_false, Bool.true_or, Bool.or_true, Bool.false_or, Bool.or_false, Bool.not_true, Bool.not_false, eq_self])) (j_3 _ _ _ rfl hW)
end
section
/-! one payment becomes FINAL; a set of them -/
def sBk (S : ST) (k : Int) : ST := sBook (pI (pI S 18 k 4) 22 k (S.1 0 0)) (S.1 9 k) (S.1 10 k) (S.1 11 k) (Int64.ofInt (S.1 12 k)) k
def sPd (S : ST) (k : Int) : ST := pL (sBk S k) 4 (3 * (6 * S.1 9 k + S.1 10 k) + S.1 11 k) ((sBk S k).2 4 (3 * (6 * S.1 9 k + S.1 10 k) + S.1 11 k) + Int64.ofInt (S.1 12 k))
def sFinM (S : ST) (k : Int) : ST := pI (pI (pL (sPd S k) 4 (3 * (6 * S.1 10 k + S.1 9 k) + S.1 11 k) ((sPd S k).2 4 (3 * (6 * S.1 10 k + S.1 9 k) + S.1 11 k) - Int64.ofInt (S.1 12 k))) 28 (S.1 27 0) k) 27 0 (S.1 27 0 + 1)
/-- with what the class holds of it: the day, the bank's advice -/
def sFin (S : ST) (k : Int) : ST := pI (pI (pI (sFinM S k) 41 k (S.1 0 0)) 43 (60 * S.1 10 k + S.1 44 (S.1 10 k)) k) 44 (S.1 10 k) (S.1 44 (S.1 10 k) + 1)
def sSets (S : ST) (I : Int → Bool) (n : Nat) : ST := foS (fun k S => if I k = true then sFin S k else S) S n
def cnB (I : Int → Bool) (n : Nat) : Int := suI (fun k => bI (I k)) n
theorem sSets_s (S : ST) (I : Int → Bool) (n : Nat) : sSets S I (n + 1) = if I n = true then sFin (sSets S I n) n else sSets S I n := rfl
theorem cnB_s (I : Int → Bool) (n : Nat) : cnB I (n + 1) = cnB I n + bI (I n) := rfl
theorem mW_g {cy : Nat → ClassId} {ix : Nat → Nat} {S X : ST} {G : gF} {f : Nat} {k v : Int} (hf : 37 ≤ f) (hk : mkind f = 0) : mW cy ix (pI S f k v) X G = mW cy ix S X G := by
  have hC : ∀ i : Nat, mC cy ix (pI S f k v) X i = mC cy ix S X i := by
    intro i
    have hF : mFs ix (pI S f k v) X = mFs ix S X := by
      unfold mFs
      rw [pI_f S k v (show (0 : Nat) ≠ f by omega), pI_f S k v (show (8 : Nat) ≠ f by omega), pI_f S k v (show (26 : Nat) ≠ f by omega), pI_f S k v (show (27 : Nat) ≠ f by omega), pI_f S k v (show (31 : Nat) ≠ f by omega)]
    have hL : mL (pI S f k v) X i = mL S X i := rfl
    by_cases h : i = f
    · subst h
      unfold mC
      rw [hF]
      simp [hk]
    · have hI : mI (pI S f k v) X i = mI S X i := by
        unfold mI
        rw [pI_f S k v h]
      unfold mC
      rw [hF, hI, hL]
  funext i
  unfold mW
  rw [hC]
theorem mW_fin {cy : Nat → ClassId} {ix : Nat → Nat} {S X : ST} {G : gF} {k : Int} : mW cy ix (sFin S k) X G = mW cy ix (sFinM S k) X G := by
  unfold sFin
  rw [mW_g (by decide) rfl, mW_g (by decide) rfl, mW_g (by decide) rfl]
/-- how many are not FINAL -/
def cNF (S : ST) : Int := suI (fun k => if S.1 18 k = 4 then 0 else 1) 60
theorem suI_at {f g : Int → Int} {k : Int} : ∀ {n : Nat}, 0 ≤ k → k < n → (∀ j : Int, j ≠ k → g j = f j) → suI g n = suI f n + (g k - f k)
  | 0, h1, h2, _ => by omega
  | n + 1, h1, h2, h => by
    rw [suI, suI]
    by_cases hk : k = n
    · subst hk
      rw [suI_congr (f := g) (g := f) (n := n) (fun j a b => h j (by omega))]
      omega
    · rw [suI_at h1 (by omega) h, h n (by omega)]
      omega
theorem suI_nn {f : Int → Int} : ∀ {n : Nat}, (∀ j : Int, 0 ≤ j → j < n → 0 ≤ f j) → 0 ≤ suI f n
  | 0, _ => by simp [suI]
  | n + 1, h => by
    have h1 := suI_nn (f := f) (n := n) (fun j a b => h j a (by omega))
    have h2 := h n (by omega) (by omega)
    rw [suI]
    omega
theorem suI_le {f g : Int → Int} : ∀ {n : Nat}, (∀ j : Int, 0 ≤ j → j < n → f j ≤ g j) → suI f n ≤ suI g n
  | 0, _ => by simp [suI]
  | n + 1, h => by
    have h1 := suI_le (f := f) (g := g) (n := n) (fun j a b => h j a (by omega))
    have h2 := h n (by omega) (by omega)
    rw [suI, suI]
    omega
theorem cNF_nn (S : ST) : 0 ≤ cNF S := suI_nn (fun j _ _ => by split <;> omega)
theorem cNF_pos {S : ST} {k : Int} (h0 : 0 ≤ k) (h1 : k < 60) (h : S.1 18 k ≠ 4) : 1 ≤ cNF S := by
  have e := suI_at (f := fun j => if j = k then 0 else if S.1 18 j = 4 then 0 else 1) (g := fun k => if S.1 18 k = 4 then 0 else 1) (k := k) (n := 60) h0 (by omega) (fun j hj => by simp [hj])
  have n1 := suI_nn (f := fun j => if j = k then 0 else if S.1 18 j = 4 then 0 else 1) (n := 60) (fun j _ _ => by split <;> (try split) <;> omega)
  simp only [h, if_false, if_true] at e
  unfold cNF
  omega
/-- what holds of the state at every point: ranges; who is FINAL is counted; the book has room; advices have room -/
def okS (S : ST) : Prop := wf S ∧ S.1 27 0 + cNF S = 60 ∧ S.1 31 0 + cNF S ≤ 29000 ∧ ∀ b : Int, 0 ≤ b → b ≤ 5 → S.1 44 b + cNF S ≤ 60
theorem sFin_1 (S : ST) (k : Int) : (sFin S k).1 = (pI (pI (pI (pI (pI (pI (pI (pI S 18 k 4) 22 k (S.1 0 0)) 31 0 (S.1 31 0 + 1)) 28 (S.1 27 0) k) 27 0 (S.1 27 0 + 1)) 41 k (S.1 0 0)) 43 (60 * S.1 10 k + S.1 44 (S.1 10 k)) k) 44 (S.1 10 k) (S.1 44 (S.1 10 k) + 1)).1 := rfl
theorem sFin_18 (S : ST) (k j : Int) : (sFin S k).1 18 j = if j = k then 4 else S.1 18 j := by
  rw [sFin_1]
  simp [pI]
theorem sFin_f (S : ST) (k : Int) {f : Nat} (h : f ≠ 18 ∧ f ≠ 22 ∧ f ≠ 31 ∧ f ≠ 28 ∧ f ≠ 27 ∧ f ≠ 41 ∧ f ≠ 43 ∧ f ≠ 44) : (sFin S k).1 f = S.1 f := by
  obtain ⟨h1, h2, h3, h4, h5, h6, h7, h8⟩ := h
  rw [sFin_1, pI_f _ _ _ h8, pI_f _ _ _ h7, pI_f _ _ _ h6, pI_f _ _ _ h5, pI_f _ _ _ h4, pI_f _ _ _ h3, pI_f _ _ _ h2, pI_f _ _ _ h1]
theorem cNF_sFin {S : ST} {k : Int} (h0 : 0 ≤ k) (h1 : k < 60) (h : S.1 18 k ≠ 4) : cNF (sFin S k) = cNF S - 1 := by
  have e := suI_at (f := fun k => if S.1 18 k = 4 then 0 else 1) (g := fun j => if (sFin S k).1 18 j = 4 then 0 else 1) (k := k) (n := 60) h0 (by omega) (fun j hj => by rw [sFin_18, if_neg hj])
  simp only [sFin_18, h, if_false, if_true] at e
  unfold cNF
  simp only [sFin_18]
  omega
theorem sFin_ok {S : ST} (ho : okS S) {k : Int} (h0 : 0 ≤ k) (h1 : k < 60) (h : S.1 18 k ≠ 4) : okS (sFin S k) := by
  obtain ⟨hw, hf, he, hc⟩ := ho
  have hp := cNF_pos h0 h1 h
  have hn := cNF_sFin h0 h1 h
  have r10 := wf_10 hw k
  have hcb := hc (S.1 10 k) r10.1 r10.2
  have r44 := wf_44 hw (S.1 10 k)
  have r0 := wf_0 hw 0
  have r27 := wf_27 hw 0
  have r31 := wf_31 hw 0
  have hw' : wf (sFin S k) := by
    have q : wf (pI (pI (pI (pI (pI (pI (pI (pI S 18 k 4) 22 k (S.1 0 0)) 31 0 (S.1 31 0 + 1)) 28 (S.1 27 0) k) 27 0 (S.1 27 0 + 1)) 41 k (S.1 0 0)) 43 (60 * S.1 10 k + S.1 44 (S.1 10 k)) k) 44 (S.1 10 k) (S.1 44 (S.1 10 k) + 1)) := by
      refine wf_pI (wf_pI (wf_pI (wf_pI (wf_pI (wf_pI (wf_pI (wf_pI hw _ _ ?_) _ _ ?_) _ _ ?_) _ _ ?_) _ _ ?_) _ _ ?_) _ _ ?_) _ _ ?_ <;> (simp only [rLo, rHi]; omega)
    exact q
  refine ⟨hw', ?_, ?_, fun b hb0 hb1 => ?_⟩
  · rw [hn, sFin_1]
    simp [pI]
    omega
  · rw [hn, sFin_1]
    simp [pI]
    omega
  · rw [hn, sFin_1]
    have hb := hc b hb0 hb1
    by_cases hbe : b = S.1 10 k
    · simp [pI, hbe]
      omega
    · simp [pI, hbe]
      omega
def cht (f : Nat) : Prop := f ≠ 18 ∧ f ≠ 22 ∧ f ≠ 31 ∧ f ≠ 28 ∧ f ≠ 27 ∧ f ≠ 41 ∧ f ≠ 43 ∧ f ≠ 44
theorem sSets_inv {S : ST} {I : Int → Bool} (ho : okS S) : ∀ (n : Nat), n ≤ 60 → (∀ j : Int, 0 ≤ j → j < n → I j = true → S.1 18 j ≠ 4) → okS (sSets S I n) ∧ (∀ f : Nat, cht f → (sSets S I n).1 f = S.1 f) ∧ (∀ j : Int, n ≤ j → (sSets S I n).1 18 j = S.1 18 j) ∧ cNF (sSets S I n) = cNF S - cnB I n
  | 0, _, _ => ⟨ho, fun _ _ => rfl, fun _ _ => rfl, by simp [sSets, foS, cnB, suI]⟩
  | n + 1, hn, h => by
    obtain ⟨h1, h2, h3, h4⟩ := sSets_inv (I := I) ho n (by omega) (fun j a b => h j a (by omega))
    rw [sSets_s, cnB_s]
    by_cases hI : I n = true
    · rw [if_pos hI, hI]
      have h18 : (sSets S I n).1 18 n ≠ 4 := by
        rw [h3 n (by omega)]
        exact h n (by omega) (by omega) hI
      refine ⟨sFin_ok h1 (by omega) (by omega) h18, fun f hf => by rw [sFin_f _ _ hf, h2 f hf], fun j hj => by rw [sFin_18, if_neg (by omega), h3 j (by omega)], ?_⟩
      rw [cNF_sFin (by omega) (by omega) h18, h4]
      simp [bI]
      omega
    · have hf : I n = false := by simpa using hI
      rw [if_neg hI, hf]
      refine ⟨h1, h2, fun j hj => h3 j (by omega), ?_⟩
      rw [h4]
      simp [bI]
end
section
/-! the words of: who is last, the queue, what comes, what is returned -/
def laN (S : ST) (I : Int → Bool) (b u : Int) (q : Bool) (l n : Int) : Int := if (I n && decide (S.1 9 n = b) && (decide (u = -1) || decide (S.1 10 n = u)) && (decide (l = -1) || !q || decide (S.1 14 n ≤ S.1 14 l))) = true then n else l
def laS (S : ST) (I : Int → Bool) (b u : Int) (q : Bool) : Nat → Int
  | 0 => -1
  | n + 1 => laN S I b u q (laS S I b u q n) n
theorem laS_s (S : ST) (I : Int → Bool) (b u : Int) (q : Bool) (n : Nat) : laS S I b u q (n + 1) = laN S I b u q (laS S I b u q n) n := rfl
theorem laN_r {S : ST} {I : Int → Bool} {b u : Int} {q : Bool} {l n m : Int} (hl : -1 ≤ l ∧ l < n) (hn : 0 ≤ n ∧ n < m) : -1 ≤ laN S I b u q l n ∧ laN S I b u q l n < m := by
  unfold laN
  split <;> omega
def isQ (S : ST) (b c h k : Int) : Bool := decide (S.1 18 k = 2) && decide (S.1 9 k = b) && decide (S.1 11 k = c) && decide (S.1 14 k = h)
def qR (S : ST) (b c h : Int) : Nat → List Int
  | 0 => []
  | n + 1 => qR S b c h n ++ (if isQ S b c h n = true then [(n : Int)] else [])
theorem qR_s (S : ST) (b c h : Int) (n : Nat) : qR S b c h (n + 1) = qR S b c h n ++ (if isQ S b c h n = true then [(n : Int)] else []) := rfl
theorem qR_pre (S : ST) (b c h : Int) (n m : Nat) : ∃ r, qR S b c h (n + m) = qR S b c h n ++ r := by
  induction m with
  | zero => exact ⟨[], by simp⟩
  | succ m ih =>
    obtain ⟨r, hr⟩ := ih
    refine ⟨r ++ (if isQ S b c h (n + m : Nat) = true then [((n + m : Nat) : Int)] else []), ?_⟩
    show qR S b c h (n + m + 1) = _
    rw [qR_s, hr, List.append_assoc]
/-- the queue of a bank in a currency: by falling ranks, then by rising numbers -/
def qL (S : ST) (b c : Int) : List Int := qR S b c 2 (S.1 8 0).toNat ++ (qR S b c 1 (S.1 8 0).toNat ++ qR S b c 0 (S.1 8 0).toNat)
def qAt (S : ST) (b c p : Int) : Int := (qL S b c).getD p.toNat (-1)
/-- what stands in it ahead of the number k of the rank h -/
def qP (S : ST) (b c h : Int) (k : Nat) : List Int := (if h < 2 then qR S b c 2 (S.1 8 0).toNat else []) ++ ((if h < 1 then qR S b c 1 (S.1 8 0).toNat else []) ++ ((if h < 0 then qR S b c 0 (S.1 8 0).toNat else []) ++ (if h < 0 then [] else qR S b c h k)))
theorem qP_0 (S : ST) (b c : Int) : qP S b c 2 0 = [] := by simp [qP, qR]
theorem qP_s (S : ST) (b c h : Int) (k : Nat) (h0 : 0 ≤ h) : qP S b c h (k + 1) = qP S b c h k ++ (if isQ S b c h k = true then [(k : Int)] else []) := by
  unfold qP
  rw [qR_s, if_neg (show ¬ h < 0 by omega), if_neg (show ¬ h < 0 by omega), if_neg (show ¬ h < 0 by omega)]
  simp only [List.append_assoc, List.nil_append]
theorem qP_n (S : ST) (b c h : Int) (h0 : 0 ≤ h ∧ h ≤ 2) : qP S b c h (S.1 8 0).toNat = qP S b c (h - 1) 0 := by
  rcases (show h = 0 ∨ h = 1 ∨ h = 2 by omega) with rfl | rfl | rfl <;> simp [qP, qR]
theorem qP_end (S : ST) (b c : Int) (k : Nat) : qP S b c (-1) k = qL S b c := by simp [qP, qL]
theorem qP_pre (S : ST) (b c h : Int) (k : Nat) (h0 : 0 ≤ h ∧ h ≤ 2) (hk : k ≤ (S.1 8 0).toNat) : ∃ r, qL S b c = qP S b c h k ++ r := by
  obtain ⟨m, hm⟩ : ∃ m, (S.1 8 0).toNat = k + m := ⟨(S.1 8 0).toNat - k, by omega⟩
  obtain ⟨r, hr⟩ := qR_pre S b c h k m
  rw [← hm] at hr
  rcases (show h = 0 ∨ h = 1 ∨ h = 2 by omega) with rfl | rfl | rfl
  · exact ⟨r, by simp [qP, qL, hr]⟩
  · exact ⟨r ++ qR S b c 0 (S.1 8 0).toNat, by simp [qP, qL, hr]⟩
  · exact ⟨r ++ (qR S b c 1 (S.1 8 0).toNat ++ qR S b c 0 (S.1 8 0).toNat), by simp [qP, qL, hr]⟩
theorem qP_hit {S : ST} {b c h k p : Int} (h0 : 0 ≤ h ∧ h ≤ 2) (hk : 0 ≤ k ∧ k < S.1 8 0) (hq : isQ S b c h k = true) (hp : p = (qP S b c h k.toNat).length) : k = qAt S b c p := by
  obtain ⟨r, hr⟩ := qP_pre S b c h (k.toNat + 1) h0 (by omega)
  rw [qP_s _ _ _ _ _ h0.1, show ((k.toNat : Nat) : Int) = k by omega, if_pos hq] at hr
  unfold qAt
  rw [hr, hp, List.getD_eq_getElem?_getD, Int.toNat_natCast, List.append_assoc, List.getElem?_append_right (Nat.le_refl _)]
  simp
theorem qP_miss {S : ST} {b c p : Int} (hp : ((qL S b c).length : Int) ≤ p) : -1 = qAt S b c p := by
  unfold qAt
  rw [List.getD_eq_getElem?_getD, List.getElem?_eq_none (by omega)]
  rfl
def sEntV (S : ST) (k : Int) : Int := if (!decide (S.1 7 (S.1 13 k) = 0) && decide (S.1 19 k = 0)) = true then 1 else if S.1 15 k = 0 then 3 else 2
def sEnter (S : ST) (k : Int) : ST := pI S 18 k (sEntV S k)
def sCom1 (S : ST) (b u c v nm h : Int) (rl : Bool) (d : Int) (st : Bool) : ST := pI (pI (pI (pI (pI (pI (pI (pI (pI (pI (pI (pI (pI (pI S 8 0 (S.1 8 0 + 1)) 9 (S.1 8 0) b) 10 (S.1 8 0) u) 11 (S.1 8 0) c) 12 (S.1 8 0) v) 13 (S.1 8 0) nm) 14 (S.1 8 0) h) 15 (S.1 8 0) (bI rl)) 16 (S.1 8 0) d) 17 (S.1 8 0) (bI st)) 20 (S.1 8 0) (-1)) 21 (S.1 8 0) (-1)) 23 (S.1 8 0) (-1)) 18 (S.1 8 0) 0
def gCome (S : ST) (k : Int) : ST := pI (pI (pI S 40 k (-1)) 41 k (-1)) 42 k (-1)
/-- a payment comes: it waits, or enters -/
def sCome (S : ST) (b u c v nm h : Int) (rl : Bool) (d : Int) (st : Bool) : ST := gCome (if (decide (d ≤ S.1 0 0) && sOpen S c (S.1 0 0)) = true then sEnter (sCom1 S b u c v nm h rl d st) (S.1 8 0) else sCom1 S b u c v nm h rl d st) (S.1 8 0)
theorem mW_gCome {cy : Nat → ClassId} {ix : Nat → Nat} {S X : ST} {G : gF} {k : Int} : mW cy ix (gCome S k) X G = mW cy ix S X G := by
  unfold gCome
  rw [mW_g (by decide) rfl, mW_g (by decide) rfl, mW_g (by decide) rfl]
def sAlk (S : ST) (k u c v nm h : Int) (rl : Bool) (d : Int) (st : Bool) : Bool := decide (S.1 10 k = u) && decide (S.1 11 k = c) && decide (S.1 12 k = v) && decide (S.1 13 k = nm) && decide (S.1 14 k = h) && decide (S.1 15 k = bI rl) && decide (S.1 16 k = d) && decide (S.1 17 k = bI st)
def sJ1 (S : ST) (k u : Int) : Bool := !decide (k = u) && !sEnds S k && !sEnds S u && !decide (S.1 15 k = 0) && !decide (S.1 15 u = 0) && !decide (S.1 11 k = S.1 11 u)
def sJoin (S : ST) (k u : Int) : Bool := sJ1 S k u && decide (S.1 9 k = S.1 10 u) && decide (S.1 10 k = S.1 9 u) && decide (S.1 21 k = -1) && decide (S.1 21 u = -1)
def sRe1 (S : ST) (k : Int) : Bool := !decide (S.1 21 k = -1) && !decide ((pI S 18 k 5).1 18 (S.1 21 k) = 5)
def sRet (S : ST) (k : Int) : ST := if sRe1 S k = true then pI (pI S 18 k 5) 18 (S.1 21 k) 5 else pI S 18 k 5
def sRetN (S : ST) (k : Int) : Int := if sRe1 S k = true then 2 else 1
/-- the advices of a bank, in the order of what became FINAL -/
def aL (S : ST) (b : Int) : Nat → List Int
  | 0 => []
  | n + 1 => aL S b n ++ (if S.1 10 (S.1 28 n) = b then [S.1 28 n] else [])
theorem aL_s (S : ST) (b : Int) (n : Nat) : aL S b (n + 1) = aL S b n ++ (if S.1 10 (S.1 28 n) = b then [S.1 28 n] else []) := rfl
theorem aL_pre (S : ST) (b : Int) (n m : Nat) : ∃ r, aL S b (n + m) = aL S b n ++ r := by
  induction m with
  | zero => exact ⟨[], by simp⟩
  | succ m ih =>
    obtain ⟨r, hr⟩ := ih
    refine ⟨r ++ (if S.1 10 (S.1 28 (n + m : Nat)) = b then [S.1 28 (n + m : Nat)] else []), ?_⟩
    show aL S b (n + m + 1) = _
    rw [aL_s, hr, List.append_assoc]
def aAt (S : ST) (b p : Int) : Int := (aL S b (S.1 27 0).toNat).getD p.toNat (-1)
theorem aL_hit {S : ST} {b k p : Int} (hk : 0 ≤ k ∧ k < S.1 27 0) (hq : S.1 10 (S.1 28 k) = b) (hp : p = (aL S b k.toNat).length) : S.1 28 k = aAt S b p := by
  obtain ⟨m, hm⟩ : ∃ m, (S.1 27 0).toNat = (k.toNat + 1) + m := ⟨(S.1 27 0).toNat - (k.toNat + 1), by omega⟩
  obtain ⟨r, hr⟩ := aL_pre S b (k.toNat + 1) m
  rw [← hm, aL_s, show ((k.toNat : Nat) : Int) = k by omega, if_pos hq] at hr
  unfold aAt
  rw [hr, hp, List.getD_eq_getElem?_getD, Int.toNat_natCast, List.append_assoc, List.getElem?_append_right (Nat.le_refl _)]
  simp
theorem aL_miss {S : ST} {b p : Int} (hp : ((aL S b (S.1 27 0).toNat).length : Int) ≤ p) : -1 = aAt S b p := by
  unfold aAt
  rw [List.getD_eq_getElem?_getD, List.getElem?_eq_none (by omega)]
  rfl
theorem anB_s (q : Int → Bool) (n : Nat) : anB q (n + 1) = (anB q n || q n) := rfl
set_option maxHeartbeats 4000000 in
set_option maxRecDepth 100000 in
theorem c_M_isShortAny {l : Launch} {D : va_G} {cy : Nat → ClassId} {B0 : Nat} {ix : Nat → Nat} {S : ST} {I : Int → Bool} {aM qM : Int → Int64} {tM : Int} {G : gF} (c : Int) (hc : 0 ≤ c ∧ c ≤ 2) (hwf : wf S) : gM l yX12_isShortAny vX12_isShortAny 2 44 D cy B0 [.ref (ix 100), .int (iI c)] (mW cy ix S (mX I aM qM tM) G) (fun r g => r = some (.int (iI (bI (anB (fun b => shX S aM b c) 6)))) ∧ g = mW cy ix S (mX I aM qM tM) G) 0 0 := by
  refine g_start (cc := cX12_isShortAny) (maxL := 4) (ret := (some .boolean)) (by decide) rfl (Nat.le_of_ble_eq_true rfl) ?_
  intro p_ e_ s_ m_ be_ me_ co_ ls H locs K hr hlk hnm hK hW hl
  have hin : ∀ w ∈ wsX120, w ∈ vX12_isShortAny := wsM_cls
  obtain ⟨hx, hb, hml, hown, hts⟩ := id K
  have hl : lv_has ls 4 [(0, .ref (ix 100)), (1, .int (iI (c)))] := hl
  refine xi_iconst hx hb dX12_isShortAny_0 ?_
  refine lv_istore_n (lv' := [(2, .int (iI (0))), (0, .ref (ix 100)), (1, .int (iI (c)))]) hx hb dX12_isShortAny_1 rfl hl (by decide) rfl (fun ls hl => ?_)
  refine xi_iconst hx hb dX12_isShortAny_2 ?_
  refine lv_istore_n (lv' := [(3, .int (iI (0))), (2, .int (iI (0))), (0, .ref (ix 100)), (1, .int (iI (c)))]) hx hb dX12_isShortAny_3 rfl hl (by decide) rfl (fun ls hl => ?_)
  refine lp_w1 (Wg := fun (H : Heap) (locs : List Loc) (ls : Array Slot) => W p_ l e_ { frames := 2, cells := 0, slots := 0, locals := 44 } s_ m_ ([.ref (ix 100), .int (iI c)] : List Value).toArray be_ me_ co_ H locs 0 0 (MQ be_ (gQ D B0 (fun (r : Option Value) (g : gF) => r = some (.int (iI (bI (anB (fun b => shX S aM b c) 6)))) ∧ g = mW cy ix S (mX I aM qM tM) G)) ([.ref (ix 100), .int (iI c)] : List Value).toArray s_ 0 0 (fun q : Nat => B0 ≤ q)) (F0 m_ 4 ls [])) (fun (k : Int) (H : Heap) (locs : List Loc) (ls : Array Slot) => (0 ≤ k ∧ k ≤ 6) ∧ gW D B0 s_.heap (mW cy ix S (mX (I) (aM) (qM) (tM)) G) H locs ∧ lv_has ls 4 [(3, .int (iI (k))), (2, .int (iI (bI (anB (fun b => shX S aM b c) k.toNat)))), (1, .int (iI (c))), (0, .ref (ix 100))]) (fun (k : Int) => (6 - k).toNat) (fun k H locs ls hI ih_lp_1 => ?_) (0) _ _ _ ⟨⟨by omega, by omega⟩, hW, lv_sub hl [0, 1, 3, 2] rfl⟩
  obtain ⟨hI_lp_1, hW, hl⟩ := hI
  refine lv_iload_n hx hb dX12_isShortAny_4 rfl (lv_at hl 0 rfl) ?_
  refine xi_bipush hx hb dX12_isShortAny_5 (by decide) ?_
  refine xi_icmp_ge (tgt := 35) hx hb ⟨by omega, by omega⟩ ⟨by omega, by omega⟩ dX12_isShortAny_7 (by decide) (fun c_2 => ?_) (fun c_2 => ?_)
  · refine lv_iload_n hx hb dX12_isShortAny_35 rfl (lv_at hl 1 rfl) ?_
    exact g_zret hx hb hr (bI_01 _) hW ⟨by rw [show k = 6 by omega]; rfl, rfl⟩ dX12_isShortAny_36 hlk
  · have j_3 : ∀ (z : Bool) (H : Heap) (locs : List Loc), z = (anB (fun b => shX S aM b c) k.toNat || shX S aM k c) → gW D B0 s_.heap (mW cy ix S (mX (I) (aM) (qM) (tM)) G) H locs → W p_ l e_ { frames := 2, cells := 0, slots := 0, locals := 44 } s_ m_ ([.ref (ix 100), .int (iI c)] : List Value).toArray be_ me_ co_ H locs 0 0 (MQ be_ (gQ D B0 (fun (r : Option Value) (g : gF) => r = some (.int (iI (bI (anB (fun b => shX S aM b c) 6)))) ∧ g = mW cy ix S (mX I aM qM tM) G)) ([.ref (ix 100), .int (iI c)] : List Value).toArray s_ 0 0 (fun q : Nat => B0 ≤ q)) (F0 m_ 28 ls [.int (iI (bI (z)))]) := by
      intro z H locs hz hW
      subst hz
      refine lv_istore_n (lv' := [(2, .int (iI (bI (anB (fun b => shX S aM b c) k.toNat || shX S aM k c)))), (3, .int (iI (k))), (1, .int (iI (c))), (0, .ref (ix 100))]) hx hb dX12_isShortAny_28 rfl hl (by decide) rfl (fun ls hl => ?_)
      have hl : lv_has ls 4 [(2, .int (iI (bI (anB (fun b => shX S aM b c) (k + 1).toNat)))), (3, .int (iI (k))), (1, .int (iI (c))), (0, .ref (ix 100))] := by
        have hbe : (anB (fun b => shX S aM b c) k.toNat || shX S aM k c) = (anB (fun b => shX S aM b c) (k + 1).toNat) := by rw [show (k + 1).toNat = k.toNat + 1 by omega, anB_s _ k.toNat, show ((k.toNat : Nat) : Int) = k by omega]
        rw [← hbe]; exact hl
      refine xi_iinc (lv' := [(3, .int (iI (k + 1))), (2, .int (iI (bI (anB (fun b => shX S aM b c) (k + 1).toNat)))), (1, .int (iI (c))), (0, .ref (ix 100))]) hx hb dX12_isShortAny_29 hl (k := 1) rfl (by decide) rfl (fun ls hl => ?_)
      refine lv_goto (tgt := 4) hx hb dX12_isShortAny_32 (by decide) ?_
      exact ih_lp_1 (k + 1) _ _ _ (by first | omega | (dsimp only; omega)) ⟨⟨by omega, by omega⟩, hW, lv_sub hl [0, 1, 2, 3] rfl⟩
    refine lv_iload_n hx hb dX12_isShortAny_10 rfl (lv_at hl 1 rfl) ?_
    refine xi_ifb_ne (tgt := 23) hx hb dX12_isShortAny_11 (by decide) (fun c_4 => ?_) (fun c_4 => ?_)
    · refine xi_iconst hx hb dX12_isShortAny_23 ?_
      refine lv_goto (tgt := 28) hx hb dX12_isShortAny_24 (by decide) ?_
      exact xi_eq (bI_t (by simp only [c_2, Int.not_le.mpr c_2, c_4, decide_true, decide_false, Bool.true_and, Bool.and_true, Bool.false_and, Bool.and_false, Bool.true_or, Bool.or_true, Bool.false_or, Bool.or_false, Bool.not_true, Bool.not_false, eq_self])) (j_3 _ _ _ rfl hW)
    · refine lv_aload_n hx hb dX12_isShortAny_14 rfl (lv_at hl 3 rfl) ?_
      refine lv_iload_n hx hb dX12_isShortAny_15 rfl (lv_at hl 0 rfl) ?_
      refine lv_iload_n hx hb dX12_isShortAny_16 rfl (lv_at hl 2 rfl) ?_
      refine g_callV (i := 0) (As := [.int (iI (k)), .int (iI (c))]) (rest := []) K (c_M_isShort (k) (c) ⟨by omega, by omega⟩ ⟨by omega, by omega⟩ hwf) (cwV 2 hts gM_X12_isShort rfl rfl rfl (by decide +kernel) ⟨Nat.le_of_ble_eq_true rfl, Nat.le_of_ble_eq_true rfl⟩) hK hW (mW_0 _ _ _ _ _) rfl rfl hl.1 rfl (Nat.le_of_ble_eq_true rfl) dX12_isShortAny_17 ⟨Nat.le_refl _, Nat.le_refl _⟩ (fun v_ f_ H locs hp hW => ?_)
      obtain ⟨hpv, hpe⟩ := hp
      rw [hpe] at hW
      have hpv : v_ = some (.int (iI (bI (shX S aM (k) (c))))) := hpv
      subst hpv
      refine xi_ifb_eq (tgt := 27) hx hb dX12_isShortAny_20 (by decide) (fun c_5 => ?_) (fun c_5 => ?_)
      · refine xi_iconst hx hb dX12_isShortAny_27 ?_
        exact xi_eq (bI_f (by simp only [c_2, Int.not_le.mpr c_2, c_4, c_5, decide_true, decide_false, Bool.true_and, Bool.and_true, Bool.false_and, Bool.and_false, Bool.true_or, Bool.or_true, Bool.false_or, Bool.or_false, Bool.not_true, Bool.not_false, eq_self])) (j_3 _ _ _ rfl hW)
      · refine xi_iconst hx hb dX12_isShortAny_23 ?_
        refine lv_goto (tgt := 28) hx hb dX12_isShortAny_24 (by decide) ?_
        exact xi_eq (bI_t (by simp only [c_2, Int.not_le.mpr c_2, c_4, c_5, decide_true, decide_false, Bool.true_and, Bool.and_true, Bool.false_and, Bool.and_false, Bool.true_or, Bool.or_true, Bool.false_or, Bool.or_false, Bool.not_true, Bool.not_false, eq_self])) (j_3 _ _ _ rfl hW)
def wkB (S : ST) (I : Int → Bool) (k : Int) : Bool := !I k || moves S k
set_option maxHeartbeats 4000000 in
set_option maxRecDepth 100000 in
theorem c_M_areAtWork {l : Launch} {D : va_G} {cy : Nat → ClassId} {B0 : Nat} {ix : Nat → Nat} {S : ST} {I : Int → Bool} {aM qM : Int → Int64} {tM : Int} {G : gF}  (hwf : wf S) : gM l yX12_areAtWork vX12_areAtWork 1 22 D cy B0 [.ref (ix 100)] (mW cy ix S (mX I aM qM tM) G) (fun r g => r = some (.int (iI (bI (wrkS S I (S.1 8 0).toNat)))) ∧ g = mW cy ix S (mX I aM qM tM) G) 0 0 := by
  refine g_start (cc := cX12_areAtWork) (maxL := 3) (ret := (some .boolean)) (by decide) rfl (Nat.le_of_ble_eq_true rfl) ?_
  intro p_ e_ s_ m_ be_ me_ co_ ls H locs K hr hlk hnm hK hW hl
  have hin : ∀ w ∈ wsX120, w ∈ vX12_areAtWork := wsM_cls
  obtain ⟨hx, hb, hml, hown, hts⟩ := id K
  have hl : lv_has ls 3 [(0, .ref (ix 100))] := hl
  refine xi_iconst hx hb dX12_areAtWork_0 ?_
  refine lv_istore_n (lv' := [(1, .int (iI (1))), (0, .ref (ix 100))]) hx hb dX12_areAtWork_1 rfl hl (by decide) rfl (fun ls hl => ?_)
  refine xi_iconst hx hb dX12_areAtWork_2 ?_
  refine lv_istore_n (lv' := [(2, .int (iI (0))), (1, .int (iI (1))), (0, .ref (ix 100))]) hx hb dX12_areAtWork_3 rfl hl (by decide) rfl (fun ls hl => ?_)
  refine lp_w1 (Wg := fun (H : Heap) (locs : List Loc) (ls : Array Slot) => W p_ l e_ { frames := 1, cells := 0, slots := 0, locals := 22 } s_ m_ ([.ref (ix 100)] : List Value).toArray be_ me_ co_ H locs 0 0 (MQ be_ (gQ D B0 (fun (r : Option Value) (g : gF) => r = some (.int (iI (bI (wrkS S I (S.1 8 0).toNat)))) ∧ g = mW cy ix S (mX I aM qM tM) G)) ([.ref (ix 100)] : List Value).toArray s_ 0 0 (fun q : Nat => B0 ≤ q)) (F0 m_ 4 ls [])) (fun (k : Int) (H : Heap) (locs : List Loc) (ls : Array Slot) => (0 ≤ k ∧ k ≤ S.1 8 0) ∧ gW D B0 s_.heap (mW cy ix S (mX (I) (aM) (qM) (tM)) G) H locs ∧ lv_has ls 3 [(2, .int (iI (k))), (1, .int (iI (bI (alB (wkB S I) k.toNat)))), (0, .ref (ix 100))]) (fun (k : Int) => (60 - k).toNat) (fun k H locs ls hI ih_lp_1 => ?_) (0) _ _ _ ⟨⟨by omega, (wf_8 hwf 0).1⟩, hW, lv_sub hl [0, 1, 2] rfl⟩
  obtain ⟨hI_lp_1, hW, hl⟩ := hI
  refine lv_iload_n hx hb dX12_areAtWork_4 rfl (lv_at hl 0 rfl) ?_
  refine lv_aload_n hx hb dX12_areAtWork_5 rfl (lv_at hl 2 rfl) ?_
  refine mr_get K hK hW hin 8 (by decide) lM_payments (v := .int (iI (S.1 8 (0)))) rfl dX12_areAtWork_6 ?_
  have w_w_2 := wf_8 hwf 0
  refine xi_icmp_ge (tgt := 82) hx hb ⟨by omega, by omega⟩ ⟨by omega, by omega⟩ dX12_areAtWork_9 (by decide) (fun c_3 => ?_) (fun c_3 => ?_)
  · refine lv_iload_n hx hb dX12_areAtWork_82 rfl (lv_at hl 1 rfl) ?_
    exact g_zret hx hb hr (bI_01 _) hW ⟨by rw [show S.1 8 0 = k by omega]; rfl, rfl⟩ dX12_areAtWork_83 hlk
  · have j_4 : ∀ (z : Bool) (H : Heap) (locs : List Loc), z = (alB (wkB S I) k.toNat && wkB S I k) → gW D B0 s_.heap (mW cy ix S (mX (I) (aM) (qM) (tM)) G) H locs → W p_ l e_ { frames := 1, cells := 0, slots := 0, locals := 22 } s_ m_ ([.ref (ix 100)] : List Value).toArray be_ me_ co_ H locs 0 0 (MQ be_ (gQ D B0 (fun (r : Option Value) (g : gF) => r = some (.int (iI (bI (wrkS S I (S.1 8 0).toNat)))) ∧ g = mW cy ix S (mX I aM qM tM) G)) ([.ref (ix 100)] : List Value).toArray s_ 0 0 (fun q : Nat => B0 ≤ q)) (F0 m_ 75 ls [.int (iI (bI (z)))]) := by
      intro z H locs hz hW
      subst hz
      refine lv_istore_n (lv' := [(1, .int (iI (bI (alB (wkB S I) k.toNat && wkB S I k)))), (2, .int (iI (k))), (0, .ref (ix 100))]) hx hb dX12_areAtWork_75 rfl hl (by decide) rfl (fun ls hl => ?_)
      have hl : lv_has ls 3 [(1, .int (iI (bI (alB (wkB S I) (k + 1).toNat)))), (2, .int (iI (k))), (0, .ref (ix 100))] := by
        have hbe : (alB (wkB S I) k.toNat && wkB S I k) = (alB (wkB S I) (k + 1).toNat) := by rw [show (k + 1).toNat = k.toNat + 1 by omega, alB_s _ k.toNat, show ((k.toNat : Nat) : Int) = k by omega]
        rw [← hbe]; exact hl
      refine xi_iinc (lv' := [(2, .int (iI (k + 1))), (1, .int (iI (bI (alB (wkB S I) (k + 1).toNat)))), (0, .ref (ix 100))]) hx hb dX12_areAtWork_76 hl (k := 1) rfl (by decide) rfl (fun ls hl => ?_)
      refine lv_goto (tgt := 4) hx hb dX12_areAtWork_79 (by decide) ?_
      exact ih_lp_1 (k + 1) _ _ _ (by have := wf_8 hwf 0; first | omega | (dsimp only; omega)) ⟨⟨by omega, by omega⟩, hW, lv_sub hl [0, 1, 2] rfl⟩
    refine lv_iload_n hx hb dX12_areAtWork_12 rfl (lv_at hl 1 rfl) ?_
    refine xi_ifb_eq (tgt := 74) hx hb dX12_areAtWork_13 (by decide) (fun c_5 => ?_) (fun c_5 => ?_)
    · refine xi_iconst hx hb dX12_areAtWork_74 ?_
      exact xi_eq (bI_f (by simp only [wkB, moves, c_3, Int.not_le.mpr c_3, c_5, decide_true, decide_false, Bool.true_and, Bool.and_true, Bool.false_and, Bool.and_false, Bool.true_or, Bool.or_true, Bool.false_or, Bool.or_false, Bool.not_true, Bool.not_false, eq_self])) (j_4 _ _ _ rfl hW)
    · refine lv_aload_n hx hb dX12_areAtWork_16 rfl (lv_at hl 2 rfl) ?_
      refine mr_get K hK hW hin 33 (by decide) lM_isIn (v := .ref (ix 133)) rfl dX12_areAtWork_17 ?_
      refine lv_iload_n hx hb dX12_areAtWork_20 rfl (lv_at hl 0 rfl) ?_
      refine mr_zald K hK hW 33 (by decide) rfl (n := 60) rfl rfl ⟨by omega, by omega⟩ (v := bI (I (k))) rfl dX12_areAtWork_21 ?_
      refine xi_ifb_eq (tgt := 70) hx hb dX12_areAtWork_22 (by decide) (fun c_6 => ?_) (fun c_6 => ?_)
      · refine xi_iconst hx hb dX12_areAtWork_70 ?_
        refine lv_goto (tgt := 75) hx hb dX12_areAtWork_71 (by decide) ?_
        exact xi_eq (bI_t (by simp only [wkB, moves, c_3, Int.not_le.mpr c_3, c_5, c_6, decide_true, decide_false, Bool.true_and, Bool.and_true, Bool.false_and, Bool.and_false, Bool.true_or, Bool.or_true, Bool.false_or, Bool.or_false, Bool.not_true, Bool.not_false, eq_self])) (j_4 _ _ _ rfl hW)
      · refine lv_aload_n hx hb dX12_areAtWork_25 rfl (lv_at hl 2 rfl) ?_
        refine lv_aload_n hx hb dX12_areAtWork_26 rfl (lv_at hl 2 rfl) ?_
        refine mr_get K hK hW hin 11 (by decide) lM_currency (v := .ref (ix 111)) rfl dX12_areAtWork_27 ?_
        refine lv_iload_n hx hb dX12_areAtWork_30 rfl (lv_at hl 0 rfl) ?_
        refine mr_iald K hK hW 11 (by decide) rfl (n := 60) rfl rfl ⟨by omega, by omega⟩ (v := S.1 11 (k)) rfl dX12_areAtWork_31 ?_
        have w_7 := wf_11 hwf (k)
        refine lv_aload_n hx hb dX12_areAtWork_32 rfl (lv_at hl 2 rfl) ?_
        refine mr_get K hK hW hin 0 (by decide) lM_today (v := .int (iI (S.1 0 (0)))) rfl dX12_areAtWork_33 ?_
        have w_w_8 := wf_0 hwf 0
        refine g_callV (i := 0) (As := [.int (iI (S.1 11 (k))), .int (iI (S.1 0 (0)))]) (rest := []) K (c_M_isOpen (S.1 11 (k)) (S.1 0 (0)) ⟨by omega, by omega⟩ ⟨by omega, by omega⟩ hwf) (cwV 2 hts gM_X12_isOpen rfl rfl rfl (by decide +kernel) ⟨Nat.le_of_ble_eq_true rfl, Nat.le_of_ble_eq_true rfl⟩) hK hW (mW_0 _ _ _ _ _) rfl rfl hl.1 rfl (Nat.le_of_ble_eq_true rfl) dX12_areAtWork_36 ⟨Nat.le_refl _, Nat.le_refl _⟩ (fun v_ f_ H locs hp hW => ?_)
        obtain ⟨hpv, hpe⟩ := hp
        rw [hpe] at hW
        have hpv : v_ = some (.int (iI (bI (sOpen S (S.1 11 (k)) (S.1 0 (0)))))) := hpv
        subst hpv
        refine xi_ifb_eq (tgt := 74) hx hb dX12_areAtWork_39 (by decide) (fun c_9 => ?_) (fun c_9 => ?_)
        · refine xi_iconst hx hb dX12_areAtWork_74 ?_
          exact xi_eq (bI_f (by simp only [wkB, moves, c_3, Int.not_le.mpr c_3, c_5, c_6, c_9, decide_true, decide_false, Bool.true_and, Bool.and_true, Bool.false_and, Bool.and_false, Bool.true_or, Bool.or_true, Bool.false_or, Bool.or_false, Bool.not_true, Bool.not_false, eq_self])) (j_4 _ _ _ rfl hW)
        · refine lv_aload_n hx hb dX12_areAtWork_42 rfl (lv_at hl 2 rfl) ?_
          refine mr_get K hK hW hin 5 (by decide) lM_isOut (v := .ref (ix 105)) rfl dX12_areAtWork_43 ?_
          refine lv_aload_n hx hb dX12_areAtWork_46 rfl (lv_at hl 2 rfl) ?_
          refine mr_get K hK hW hin 9 (by decide) lM_from (v := .ref (ix 109)) rfl dX12_areAtWork_47 ?_
          refine lv_iload_n hx hb dX12_areAtWork_50 rfl (lv_at hl 0 rfl) ?_
          refine mr_iald K hK hW 9 (by decide) rfl (n := 60) rfl rfl ⟨by omega, by omega⟩ (v := S.1 9 (k)) rfl dX12_areAtWork_51 ?_
          have w_10 := wf_9 hwf (k)
          refine mr_zald K hK hW 5 (by decide) rfl (n := 6) rfl rfl ⟨by omega, by omega⟩ (v := S.1 5 (S.1 9 (k))) rfl dX12_areAtWork_52 ?_
          have w_11 := wf_5 hwf (S.1 9 (k))
          refine xi_if_ne (tgt := 74) hx hb ⟨by omega, by omega⟩ dX12_areAtWork_53 (by decide) (fun c_12 => ?_) (fun c_12 => ?_)
          · refine xi_iconst hx hb dX12_areAtWork_74 ?_
            exact xi_eq (bI_f (by simp only [wkB, moves, c_3, Int.not_le.mpr c_3, c_5, c_6, c_9, c_12, decide_true, decide_false, Bool.true_and, Bool.and_true, Bool.false_and, Bool.and_false, Bool.true_or, Bool.or_true, Bool.false_or, Bool.or_false, Bool.not_true, Bool.not_false, eq_self])) (j_4 _ _ _ rfl hW)
          · refine lv_aload_n hx hb dX12_areAtWork_56 rfl (lv_at hl 2 rfl) ?_
            refine mr_get K hK hW hin 5 (by decide) lM_isOut (v := .ref (ix 105)) rfl dX12_areAtWork_57 ?_
            refine lv_aload_n hx hb dX12_areAtWork_60 rfl (lv_at hl 2 rfl) ?_
            refine mr_get K hK hW hin 10 (by decide) lM_to (v := .ref (ix 110)) rfl dX12_areAtWork_61 ?_
            refine lv_iload_n hx hb dX12_areAtWork_64 rfl (lv_at hl 0 rfl) ?_
            refine mr_iald K hK hW 10 (by decide) rfl (n := 60) rfl rfl ⟨by omega, by omega⟩ (v := S.1 10 (k)) rfl dX12_areAtWork_65 ?_
            have w_13 := wf_10 hwf (k)
            refine mr_zald K hK hW 5 (by decide) rfl (n := 6) rfl rfl ⟨by omega, by omega⟩ (v := S.1 5 (S.1 10 (k))) rfl dX12_areAtWork_66 ?_
            have w_14 := wf_5 hwf (S.1 10 (k))
            refine xi_if_ne (tgt := 74) hx hb ⟨by omega, by omega⟩ dX12_areAtWork_67 (by decide) (fun c_15 => ?_) (fun c_15 => ?_)
            · refine xi_iconst hx hb dX12_areAtWork_74 ?_
              exact xi_eq (bI_f (by simp only [wkB, moves, c_3, Int.not_le.mpr c_3, c_5, c_6, c_9, c_12, c_15, decide_true, decide_false, Bool.true_and, Bool.and_true, Bool.false_and, Bool.and_false, Bool.true_or, Bool.or_true, Bool.false_or, Bool.or_false, Bool.not_true, Bool.not_false, eq_self])) (j_4 _ _ _ rfl hW)
            · refine xi_iconst hx hb dX12_areAtWork_70 ?_
              refine lv_goto (tgt := 75) hx hb dX12_areAtWork_71 (by decide) ?_
              exact xi_eq (bI_t (by simp only [wkB, moves, c_3, Int.not_le.mpr c_3, c_5, c_6, c_9, c_12, c_15, decide_true, decide_false, Bool.true_and, Bool.and_true, Bool.false_and, Bool.and_false, Bool.true_or, Bool.or_true, Bool.false_or, Bool.or_false, Bool.not_true, Bool.not_false, eq_self])) (j_4 _ _ _ rfl hW)
set_option maxHeartbeats 4000000 in
set_option maxRecDepth 100000 in
theorem c_M_settles {l : Launch} {D : va_G} {cy : Nat → ClassId} {B0 : Nat} {ix : Nat → Nat} {S : ST} {I : Int → Bool} {aM qM : Int → Int64} {tM : Int} {G : gF}  (ho : okS S) (hI : ∀ j : Int, 0 ≤ j → j < S.1 8 0 → I j = true → S.1 18 j ≠ 4) : gM l yX12_settles vX12_settles 2 47 D cy B0 [.ref (ix 100)] (mW cy ix S (mX I aM qM tM) G) (fun r g => r = some (.int (iI (cnB I (S.1 8 0).toNat))) ∧ g = mW cy ix (sSets S I (S.1 8 0).toNat) (mX I aM qM tM) G) 0 0 := by
  refine g_start (cc := cX12_settles) (maxL := 3) (ret := (some .int)) (by decide) rfl (Nat.le_of_ble_eq_true rfl) ?_
  intro p_ e_ s_ m_ be_ me_ co_ ls H locs K hr hlk hnm hK hW hl
  have hin : ∀ w ∈ wsX120, w ∈ vX12_settles := wsM_cls
  obtain ⟨hx, hb, hml, hown, hts⟩ := id K
  have hl : lv_has ls 3 [(0, .ref (ix 100))] := hl
  refine xi_iconst hx hb dX12_settles_0 ?_
  refine lv_istore_n (lv' := [(1, .int (iI (0))), (0, .ref (ix 100))]) hx hb dX12_settles_1 rfl hl (by decide) rfl (fun ls hl => ?_)
  refine xi_iconst hx hb dX12_settles_2 ?_
  refine lv_istore_n (lv' := [(2, .int (iI (0))), (1, .int (iI (0))), (0, .ref (ix 100))]) hx hb dX12_settles_3 rfl hl (by decide) rfl (fun ls hl => ?_)
  refine lp_w2 (Wg := fun (H : Heap) (locs : List Loc) (ls : Array Slot) => W p_ l e_ { frames := 2, cells := 0, slots := 0, locals := 47 } s_ m_ ([.ref (ix 100)] : List Value).toArray be_ me_ co_ H locs 0 0 (MQ be_ (gQ D B0 (fun (r : Option Value) (g : gF) => r = some (.int (iI (cnB I (S.1 8 0).toNat))) ∧ g = mW cy ix (sSets S I (S.1 8 0).toNat) (mX I aM qM tM) G)) ([.ref (ix 100)] : List Value).toArray s_ 0 0 (fun q : Nat => B0 ≤ q)) (F0 m_ 4 ls [])) (fun (k : Int) (Sk : ST) (H : Heap) (locs : List Loc) (ls : Array Slot) => ((0 ≤ k ∧ k ≤ S.1 8 0) ∧ Sk = sSets S I k.toNat) ∧ gW D B0 s_.heap (mW cy ix Sk (mX (I) (aM) (qM) (tM)) G) H locs ∧ lv_has ls 3 [(2, .int (iI (k))), (1, .int (iI (cnB I k.toNat))), (0, .ref (ix 100))]) (fun (k : Int) (Sk : ST) => (60 - k).toNat) (fun k Sk H locs ls hI ih_lp_1 => ?_) (0) (S) _ _ _ ⟨⟨⟨by omega, (wf_8 ho.1 0).1⟩, rfl⟩, hW, lv_sub hl [0, 1, 2] rfl⟩
  obtain ⟨hI_lp_1, hW, hl⟩ := hI
  obtain ⟨hk, hSk⟩ := hI_lp_1
  have h80 := wf_8 ho.1 0
  obtain ⟨hok, hfs, h18, hcn⟩ := sSets_inv (I := I) ho k.toNat (by omega) (fun j a b => hI j a (by omega))
  rw [← hSk] at hok hfs h18 hcn
  have hwk : wf Sk := hok.1
  have h8 : Sk.1 8 0 = S.1 8 0 := by rw [hfs 8 (by unfold cht; decide)]
  refine lv_iload_n hx hb dX12_settles_4 rfl (lv_at hl 0 rfl) ?_
  refine lv_aload_n hx hb dX12_settles_5 rfl (lv_at hl 2 rfl) ?_
  refine mr_get K hK hW hin 8 (by decide) lM_payments (v := .int (iI (Sk.1 8 (0)))) rfl dX12_settles_6 ?_
  have w_w_2 := wf_8 hwk 0
  refine xi_icmp_ge (tgt := 169) hx hb ⟨by omega, by omega⟩ ⟨by omega, by omega⟩ dX12_settles_9 (by decide) (fun c_3 => ?_) (fun c_3 => ?_)
  · refine lv_iload_n hx hb dX12_settles_169 rfl (lv_at hl 1 rfl) ?_
    exact g_iret hx hb hr hW ⟨by rw [show S.1 8 0 = k by omega], by rw [show S.1 8 0 = k by omega, ← hSk]⟩ dX12_settles_170 hlk
  · refine lv_aload_n hx hb dX12_settles_12 rfl (lv_at hl 2 rfl) ?_
    refine mr_get K hK hW hin 33 (by decide) lM_isIn (v := .ref (ix 133)) rfl dX12_settles_13 ?_
    refine lv_iload_n hx hb dX12_settles_16 rfl (lv_at hl 0 rfl) ?_
    refine mr_zald K hK hW 33 (by decide) rfl (n := 60) rfl rfl ⟨by omega, by omega⟩ (v := bI (I (k))) rfl dX12_settles_17 ?_
    refine xi_ifb_eq (tgt := 163) hx hb dX12_settles_18 (by decide) (fun c_4 => ?_) (fun c_4 => ?_)
    · have hl : lv_has ls 3 [(2, .int (iI (k))), (1, .int (iI (cnB I (k + 1).toNat))), (0, .ref (ix 100))] := by
        have hbe : (cnB I k.toNat) = (cnB I (k + 1).toNat) := by rw [show (k + 1).toNat = k.toNat + 1 by omega, cnB_s, show ((k.toNat : Nat) : Int) = k by omega, c_4]; simp [bI]
        rw [← hbe]; exact hl
      refine xi_iinc (lv' := [(2, .int (iI (k + 1))), (1, .int (iI (cnB I (k + 1).toNat))), (0, .ref (ix 100))]) hx hb dX12_settles_163 hl (k := 0) rfl (by decide) rfl (fun ls hl => ?_)
      refine lv_goto (tgt := 4) hx hb dX12_settles_166 (by decide) ?_
      exact ih_lp_1 (k + 1) (Sk) _ _ _ (by have := wf_8 ho.1 0; first | omega | (dsimp only; omega)) ⟨⟨⟨by omega, by omega⟩, by rw [show (k + 1).toNat = k.toNat + 1 by omega, sSets_s, show ((k.toNat : Nat) : Int) = k by omega, if_neg (by rw [c_4]; decide), hSk]⟩, hW, lv_sub hl [0, 1, 2] rfl⟩
    · have hkI : I k = true := c_4
      have h4 : Sk.1 18 k ≠ 4 := by rw [h18 k (by omega)]; exact hI k (by omega) (by omega) hkI
      have hcp := cNF_pos (by omega) (by omega) h4
      have hfin := hok.2.1
      have hent := hok.2.2.1
      refine lv_aload_n hx hb dX12_settles_21 rfl (lv_at hl 2 rfl) ?_
      refine mr_get K hK hW hin 18 (by decide) lM_state (v := .ref (ix 118)) rfl dX12_settles_22 ?_
      refine lv_iload_n hx hb dX12_settles_25 rfl (lv_at hl 0 rfl) ?_
      refine xi_iconst hx hb dX12_settles_26 ?_
      refine mr_iast K hK hW 18 (by decide) rfl (n := 60) rfl rfl ⟨by omega, by omega⟩ dX12_settles_27 (fun H locs hW => ?_)
      refine lv_aload_n hx hb dX12_settles_28 rfl (lv_at hl 2 rfl) ?_
      refine mr_get K hK hW hin 22 (by decide) lM_finalOn (v := .ref (ix 122)) rfl dX12_settles_29 ?_
      refine lv_iload_n hx hb dX12_settles_32 rfl (lv_at hl 0 rfl) ?_
      refine lv_aload_n hx hb dX12_settles_33 rfl (lv_at hl 2 rfl) ?_
      refine mr_get K hK hW hin 0 (by decide) lM_today (v := .int (iI (Sk.1 0 (0)))) rfl dX12_settles_34 ?_
      have w_w_5 := wf_0 hwk 0
      refine mr_iast K hK hW 22 (by decide) rfl (n := 60) rfl rfl ⟨by omega, by omega⟩ dX12_settles_37 (fun H locs hW => ?_)
      refine lv_aload_n hx hb dX12_settles_38 rfl (lv_at hl 2 rfl) ?_
      refine lv_aload_n hx hb dX12_settles_39 rfl (lv_at hl 2 rfl) ?_
      refine mr_get K hK hW hin 9 (by decide) lM_from (v := .ref (ix 109)) rfl dX12_settles_40 ?_
      refine lv_iload_n hx hb dX12_settles_43 rfl (lv_at hl 0 rfl) ?_
      refine mr_iald K hK hW 9 (by decide) rfl (n := 60) rfl rfl ⟨by omega, by omega⟩ (v := Sk.1 9 (k)) rfl dX12_settles_44 ?_
      have w_6 := wf_9 hwk (k)
      refine lv_aload_n hx hb dX12_settles_45 rfl (lv_at hl 2 rfl) ?_
      refine mr_get K hK hW hin 10 (by decide) lM_to (v := .ref (ix 110)) rfl dX12_settles_46 ?_
      refine lv_iload_n hx hb dX12_settles_49 rfl (lv_at hl 0 rfl) ?_
      refine mr_iald K hK hW 10 (by decide) rfl (n := 60) rfl rfl ⟨by omega, by omega⟩ (v := Sk.1 10 (k)) rfl dX12_settles_50 ?_
      have w_7 := wf_10 hwk (k)
      refine lv_aload_n hx hb dX12_settles_51 rfl (lv_at hl 2 rfl) ?_
      refine mr_get K hK hW hin 11 (by decide) lM_currency (v := .ref (ix 111)) rfl dX12_settles_52 ?_
      refine lv_iload_n hx hb dX12_settles_55 rfl (lv_at hl 0 rfl) ?_
      refine mr_iald K hK hW 11 (by decide) rfl (n := 60) rfl rfl ⟨by omega, by omega⟩ (v := Sk.1 11 (k)) rfl dX12_settles_56 ?_
      have w_8 := wf_11 hwk (k)
      refine lv_aload_n hx hb dX12_settles_57 rfl (lv_at hl 2 rfl) ?_
      refine mr_get K hK hW hin 12 (by decide) lM_amount (v := .ref (ix 112)) rfl dX12_settles_58 ?_
      refine lv_iload_n hx hb dX12_settles_61 rfl (lv_at hl 0 rfl) ?_
      refine mr_iald K hK hW 12 (by decide) rfl (n := 60) rfl rfl ⟨by omega, by omega⟩ (v := Sk.1 12 (k)) rfl dX12_settles_62 ?_
      have w_9 := wf_12 hwk (k)
      refine xi_i2l hx hb ⟨by omega, by omega⟩ dX12_settles_63 ?_
      refine lv_iload_n hx hb dX12_settles_64 rfl (lv_at hl 0 rfl) ?_
      refine g_callV (i := 0) (As := [.int (iI (Sk.1 9 (k))), .int (iI (Sk.1 10 (k))), .int (iI (Sk.1 11 (k))), .long (Int64.ofInt (Sk.1 12 (k))), .int (iI (k))]) (rest := []) K (c_M_books (Sk.1 9 (k)) (Sk.1 10 (k)) (Sk.1 11 (k)) (Int64.ofInt (Sk.1 12 (k))) (k) ⟨by omega, by omega⟩ ⟨by omega, by omega⟩ ⟨by omega, by omega⟩ ⟨by omega, by omega⟩ (wf_pI (f := 22) (wf_pI (f := 18) hwk (k) (4) (by simp only [rLo, rHi]; omega)) (k) (Sk.1 0 (0)) (by simp only [rLo, rHi]; omega))) (cwV 5 hts gM_X12_books rfl rfl rfl (by decide +kernel) ⟨Nat.le_of_ble_eq_true rfl, Nat.le_of_ble_eq_true rfl⟩) hK hW (mW_0 _ _ _ _ _) rfl rfl hl.1 rfl (Nat.le_of_ble_eq_true rfl) dX12_settles_65 ⟨Nat.le_refl _, Nat.le_refl _⟩ (fun v_ f_ H locs hp hW => ?_)
      obtain ⟨hpv, hpe⟩ := hp
      rw [hpe] at hW
      subst hpv
      refine lv_aload_n hx hb dX12_settles_68 rfl (lv_at hl 2 rfl) ?_
      refine mr_get K hK hW hin 4 (by decide) lM_paid (v := .ref (ix 104)) rfl dX12_settles_69 ?_
      refine lv_aload_n hx hb dX12_settles_72 rfl (lv_at hl 2 rfl) ?_
      refine mr_get K hK hW hin 9 (by decide) lM_from (v := .ref (ix 109)) rfl dX12_settles_73 ?_
      refine lv_iload_n hx hb dX12_settles_76 rfl (lv_at hl 0 rfl) ?_
      refine mr_iald K hK hW 9 (by decide) rfl (n := 60) rfl rfl ⟨by omega, by omega⟩ (v := Sk.1 9 (k)) rfl dX12_settles_77 ?_
      have w_10 := wf_9 hwk (k)
      refine lv_aload_n hx hb dX12_settles_78 rfl (lv_at hl 2 rfl) ?_
      refine mr_get K hK hW hin 10 (by decide) lM_to (v := .ref (ix 110)) rfl dX12_settles_79 ?_
      refine lv_iload_n hx hb dX12_settles_82 rfl (lv_at hl 0 rfl) ?_
      refine mr_iald K hK hW 10 (by decide) rfl (n := 60) rfl rfl ⟨by omega, by omega⟩ (v := Sk.1 10 (k)) rfl dX12_settles_83 ?_
      have w_11 := wf_10 hwk (k)
      refine lv_aload_n hx hb dX12_settles_84 rfl (lv_at hl 2 rfl) ?_
      refine mr_get K hK hW hin 11 (by decide) lM_currency (v := .ref (ix 111)) rfl dX12_settles_85 ?_
      refine lv_iload_n hx hb dX12_settles_88 rfl (lv_at hl 0 rfl) ?_
      refine mr_iald K hK hW 11 (by decide) rfl (n := 60) rfl rfl ⟨by omega, by omega⟩ (v := Sk.1 11 (k)) rfl dX12_settles_89 ?_
      have w_12 := wf_11 hwk (k)
      refine g_callS (As := [.int (iI (Sk.1 9 (k))), .int (iI (Sk.1 10 (k))), .int (iI (Sk.1 11 (k)))]) (rest := [.ref (ix 104)]) K (c_M_pair (Sk.1 9 (k)) (Sk.1 10 (k)) (Sk.1 11 (k))) (va_cwS 3 hts gM_X12_pair rfl rfl rfl (by decide +kernel) ⟨Nat.le_of_ble_eq_true rfl, Nat.le_of_ble_eq_true rfl⟩) hK hW rfl hl.1 rfl (Nat.le_of_ble_eq_true rfl) dX12_settles_90 ⟨Nat.le_refl _, Nat.le_refl _⟩ (fun v_ f_ H locs hp hW => ?_)
      obtain ⟨hpv, hpe⟩ := hp
      rw [hpe] at hW
      subst hpv
      refine lv_dup2_11 hx hb dX12_settles_93 rfl rfl ?_
      refine mr_lald K hK hW 4 (by decide) rfl (n := 108) rfl rfl ⟨by omega, by omega⟩ (v := (sBook (pI (pI Sk 18 (k) (4)) 22 (k) (Sk.1 0 (0))) (Sk.1 9 (k)) (Sk.1 10 (k)) (Sk.1 11 (k)) (Int64.ofInt (Sk.1 12 (k))) (k)).2 4 (3 * (6 * (Sk.1 9 (k)) + (Sk.1 10 (k))) + (Sk.1 11 (k)))) rfl dX12_settles_94 ?_
      refine lv_aload_n hx hb dX12_settles_95 rfl (lv_at hl 2 rfl) ?_
      refine mr_get K hK hW hin 12 (by decide) lM_amount (v := .ref (ix 112)) rfl dX12_settles_96 ?_
      refine lv_iload_n hx hb dX12_settles_99 rfl (lv_at hl 0 rfl) ?_
      refine mr_iald K hK hW 12 (by decide) rfl (n := 60) rfl rfl ⟨by omega, by omega⟩ (v := Sk.1 12 (k)) rfl dX12_settles_100 ?_
      have w_13 := wf_12 hwk (k)
      refine xi_i2l hx hb ⟨by omega, by omega⟩ dX12_settles_101 ?_
      refine lv_ladd hx hb dX12_settles_102 ?_
      refine mr_last K hK hW 4 (by decide) rfl (by decide) (n := 108) rfl rfl ⟨by omega, by omega⟩ dX12_settles_103 (fun H locs hW => ?_)
      refine lv_aload_n hx hb dX12_settles_104 rfl (lv_at hl 2 rfl) ?_
      refine mr_get K hK hW hin 4 (by decide) lM_paid (v := .ref (ix 104)) rfl dX12_settles_105 ?_
      refine lv_aload_n hx hb dX12_settles_108 rfl (lv_at hl 2 rfl) ?_
      refine mr_get K hK hW hin 10 (by decide) lM_to (v := .ref (ix 110)) rfl dX12_settles_109 ?_
      refine lv_iload_n hx hb dX12_settles_112 rfl (lv_at hl 0 rfl) ?_
      refine mr_iald K hK hW 10 (by decide) rfl (n := 60) rfl rfl ⟨by omega, by omega⟩ (v := Sk.1 10 (k)) rfl dX12_settles_113 ?_
      have w_14 := wf_10 hwk (k)
      refine lv_aload_n hx hb dX12_settles_114 rfl (lv_at hl 2 rfl) ?_
      refine mr_get K hK hW hin 9 (by decide) lM_from (v := .ref (ix 109)) rfl dX12_settles_115 ?_
      refine lv_iload_n hx hb dX12_settles_118 rfl (lv_at hl 0 rfl) ?_
      refine mr_iald K hK hW 9 (by decide) rfl (n := 60) rfl rfl ⟨by omega, by omega⟩ (v := Sk.1 9 (k)) rfl dX12_settles_119 ?_
      have w_15 := wf_9 hwk (k)
      refine lv_aload_n hx hb dX12_settles_120 rfl (lv_at hl 2 rfl) ?_
      refine mr_get K hK hW hin 11 (by decide) lM_currency (v := .ref (ix 111)) rfl dX12_settles_121 ?_
      refine lv_iload_n hx hb dX12_settles_124 rfl (lv_at hl 0 rfl) ?_
      refine mr_iald K hK hW 11 (by decide) rfl (n := 60) rfl rfl ⟨by omega, by omega⟩ (v := Sk.1 11 (k)) rfl dX12_settles_125 ?_
      have w_16 := wf_11 hwk (k)
      refine g_callS (As := [.int (iI (Sk.1 10 (k))), .int (iI (Sk.1 9 (k))), .int (iI (Sk.1 11 (k)))]) (rest := [.ref (ix 104)]) K (c_M_pair (Sk.1 10 (k)) (Sk.1 9 (k)) (Sk.1 11 (k))) (va_cwS 3 hts gM_X12_pair rfl rfl rfl (by decide +kernel) ⟨Nat.le_of_ble_eq_true rfl, Nat.le_of_ble_eq_true rfl⟩) hK hW rfl hl.1 rfl (Nat.le_of_ble_eq_true rfl) dX12_settles_126 ⟨Nat.le_refl _, Nat.le_refl _⟩ (fun v_ f_ H locs hp hW => ?_)
      obtain ⟨hpv, hpe⟩ := hp
      rw [hpe] at hW
      subst hpv
      refine lv_dup2_11 hx hb dX12_settles_129 rfl rfl ?_
      refine mr_lald K hK hW 4 (by decide) rfl (n := 108) rfl rfl ⟨by omega, by omega⟩ (v := (pL (sBook (pI (pI Sk 18 (k) (4)) 22 (k) (Sk.1 0 (0))) (Sk.1 9 (k)) (Sk.1 10 (k)) (Sk.1 11 (k)) (Int64.ofInt (Sk.1 12 (k))) (k)) 4 (3 * (6 * (Sk.1 9 (k)) + (Sk.1 10 (k))) + (Sk.1 11 (k))) (((sBook (pI (pI Sk 18 (k) (4)) 22 (k) (Sk.1 0 (0))) (Sk.1 9 (k)) (Sk.1 10 (k)) (Sk.1 11 (k)) (Int64.ofInt (Sk.1 12 (k))) (k)).2 4 (3 * (6 * (Sk.1 9 (k)) + (Sk.1 10 (k))) + (Sk.1 11 (k)))) + (Int64.ofInt (Sk.1 12 (k))))).2 4 (3 * (6 * (Sk.1 10 (k)) + (Sk.1 9 (k))) + (Sk.1 11 (k)))) rfl dX12_settles_130 ?_
      refine lv_aload_n hx hb dX12_settles_131 rfl (lv_at hl 2 rfl) ?_
      refine mr_get K hK hW hin 12 (by decide) lM_amount (v := .ref (ix 112)) rfl dX12_settles_132 ?_
      refine lv_iload_n hx hb dX12_settles_135 rfl (lv_at hl 0 rfl) ?_
      refine mr_iald K hK hW 12 (by decide) rfl (n := 60) rfl rfl ⟨by omega, by omega⟩ (v := Sk.1 12 (k)) rfl dX12_settles_136 ?_
      have w_17 := wf_12 hwk (k)
      refine xi_i2l hx hb ⟨by omega, by omega⟩ dX12_settles_137 ?_
      refine lv_lsub hx hb dX12_settles_138 ?_
      refine mr_last K hK hW 4 (by decide) rfl (by decide) (n := 108) rfl rfl ⟨by omega, by omega⟩ dX12_settles_139 (fun H locs hW => ?_)
      refine lv_aload_n hx hb dX12_settles_140 rfl (lv_at hl 2 rfl) ?_
      refine mr_get K hK hW hin 28 (by decide) lM_finished (v := .ref (ix 128)) rfl dX12_settles_141 ?_
      refine lv_aload_n hx hb dX12_settles_144 rfl (lv_at hl 2 rfl) ?_
      refine mr_get K hK hW hin 27 (by decide) lM_finals (v := .int (iI (Sk.1 27 (0)))) rfl dX12_settles_145 ?_
      have w_w_18 := wf_27 hwk 0
      refine lv_iload_n hx hb dX12_settles_148 rfl (lv_at hl 0 rfl) ?_
      refine mr_iast K hK hW 28 (by decide) rfl (n := 60) rfl rfl ⟨by omega, by omega⟩ dX12_settles_149 (fun H locs hW => ?_)
      refine lv_aload_n hx hb dX12_settles_150 rfl (lv_at hl 2 rfl) ?_
      refine lv_dup hx hb dX12_settles_151 rfl ?_
      refine mr_get K hK hW hin 27 (by decide) lM_finals (v := .int (iI (Sk.1 27 (0)))) rfl dX12_settles_152 ?_
      have w_w_19 := wf_27 hwk 0
      refine xi_iconst hx hb dX12_settles_155 ?_
      refine xi_iadd hx hb dX12_settles_156 ?_
      refine mr_put K hK hW hin 27 (by decide) lM_finals rfl rfl (S' := (pI (pI (pL (pL (sBook (pI (pI Sk 18 (k) (4)) 22 (k) (Sk.1 0 (0))) (Sk.1 9 (k)) (Sk.1 10 (k)) (Sk.1 11 (k)) (Int64.ofInt (Sk.1 12 (k))) (k)) 4 (3 * (6 * (Sk.1 9 (k)) + (Sk.1 10 (k))) + (Sk.1 11 (k))) (((sBook (pI (pI Sk 18 (k) (4)) 22 (k) (Sk.1 0 (0))) (Sk.1 9 (k)) (Sk.1 10 (k)) (Sk.1 11 (k)) (Int64.ofInt (Sk.1 12 (k))) (k)).2 4 (3 * (6 * (Sk.1 9 (k)) + (Sk.1 10 (k))) + (Sk.1 11 (k)))) + (Int64.ofInt (Sk.1 12 (k))))) 4 (3 * (6 * (Sk.1 10 (k)) + (Sk.1 9 (k))) + (Sk.1 11 (k))) (((pL (sBook (pI (pI Sk 18 (k) (4)) 22 (k) (Sk.1 0 (0))) (Sk.1 9 (k)) (Sk.1 10 (k)) (Sk.1 11 (k)) (Int64.ofInt (Sk.1 12 (k))) (k)) 4 (3 * (6 * (Sk.1 9 (k)) + (Sk.1 10 (k))) + (Sk.1 11 (k))) (((sBook (pI (pI Sk 18 (k) (4)) 22 (k) (Sk.1 0 (0))) (Sk.1 9 (k)) (Sk.1 10 (k)) (Sk.1 11 (k)) (Int64.ofInt (Sk.1 12 (k))) (k)).2 4 (3 * (6 * (Sk.1 9 (k)) + (Sk.1 10 (k))) + (Sk.1 11 (k)))) + (Int64.ofInt (Sk.1 12 (k))))).2 4 (3 * (6 * (Sk.1 10 (k)) + (Sk.1 9 (k))) + (Sk.1 11 (k)))) - (Int64.ofInt (Sk.1 12 (k))))) 28 (Sk.1 27 (0)) (k)) 27 (0) ((Sk.1 27 (0)) + 1))) (X' := (mX (I) (aM) (qM) (tM))) rfl (fun i hi => mC_sc rfl hi (by decide)) dX12_settles_157 (fun H locs hW => ?_)
      refine xi_iinc (lv' := [(1, .int (iI (cnB I k.toNat + 1))), (2, .int (iI (k))), (0, .ref (ix 100))]) hx hb dX12_settles_160 hl (k := 1) rfl (by decide) rfl (fun ls hl => ?_)
      have hl : lv_has ls 3 [(1, .int (iI (cnB I (k + 1).toNat))), (2, .int (iI (k))), (0, .ref (ix 100))] := by
        have hbe : (cnB I k.toNat + 1) = (cnB I (k + 1).toNat) := by rw [show (k + 1).toNat = k.toNat + 1 by omega, cnB_s, show ((k.toNat : Nat) : Int) = k by omega, c_4]; simp [bI]
        rw [← hbe]; exact hl
      refine xi_iinc (lv' := [(2, .int (iI (k + 1))), (1, .int (iI (cnB I (k + 1).toNat))), (0, .ref (ix 100))]) hx hb dX12_settles_163 hl (k := 1) rfl (by decide) rfl (fun ls hl => ?_)
      refine lv_goto (tgt := 4) hx hb dX12_settles_166 (by decide) ?_
      have hW : gW D B0 s_.heap (mW cy ix (sFin Sk k) (mX I aM qM tM) G) H locs := by rw [mW_fin]; exact hW
      exact ih_lp_1 (k + 1) (sFin Sk k) _ _ _ (by have := wf_8 ho.1 0; first | omega | (dsimp only; omega)) ⟨⟨⟨by omega, by omega⟩, by rw [show (k + 1).toNat = k.toNat + 1 by omega, sSets_s, show ((k.toNat : Nat) : Int) = k by omega, if_pos (by rw [c_4]), hSk]⟩, hW, lv_sub hl [0, 1, 2] rfl⟩
set_option maxHeartbeats 4000000 in
set_option maxRecDepth 100000 in
theorem c_M_queued {l : Launch} {D : va_G} {cy : Nat → ClassId} {B0 : Nat} {ix : Nat → Nat} {S : ST} {I : Int → Bool} {aM qM : Int → Int64} {tM : Int} {G : gF} (b : Int) (c : Int) (p : Int) (hb0 : 0 ≤ b ∧ b ≤ 5) (hc : 0 ≤ c ∧ c ≤ 2) (hp0 : 0 ≤ p ∧ p ≤ 2147483647) (hwf : wf S) : gM l yX12_queued vX12_queued 0 0 D cy B0 [.ref (ix 100), .int (iI b), .int (iI c), .int (iI p)] (mW cy ix S (mX I aM qM tM) G) (fun r g => r = some (.int (iI (qAt S b c p))) ∧ g = mW cy ix S (mX I aM qM tM) G) 0 0 := by
  refine g_start (cc := cX12_queued) (maxL := 7) (ret := (some .int)) (by decide) rfl (Nat.le_of_ble_eq_true rfl) ?_
  intro p_ e_ s_ m_ be_ me_ co_ ls H locs K hr hlk hnm hK hW hl
  have hin : ∀ w ∈ wsX120, w ∈ vX12_queued := wsM_cls
  obtain ⟨hx, hb, hml, hown, hts⟩ := id K
  have hl : lv_has ls 7 [(0, .ref (ix 100)), (1, .int (iI (b))), (2, .int (iI (c))), (3, .int (iI (p)))] := hl
  refine lv_iload_n hx hb dX12_queued_0 rfl (lv_at hl 3 rfl) ?_
  refine lv_istore (lv' := [(4, .int (iI (p))), (0, .ref (ix 100)), (1, .int (iI (b))), (2, .int (iI (c))), (3, .int (iI (p)))]) hx hb dX12_queued_1 hl (by decide) rfl (fun ls hl => ?_)
  refine xi_iconst hx hb dX12_queued_3 ?_
  refine lv_istore (lv' := [(5, .int (iI (2))), (4, .int (iI (p))), (0, .ref (ix 100)), (1, .int (iI (b))), (2, .int (iI (c))), (3, .int (iI (p)))]) hx hb dX12_queued_4 hl (by decide) rfl (fun ls hl => ?_)
  refine lp_w2 (Wg := fun (H : Heap) (locs : List Loc) (ls : Array Slot) => W p_ l e_ { frames := 0, cells := 0, slots := 0, locals := 0 } s_ m_ ([.ref (ix 100), .int (iI b), .int (iI c), .int (iI p)] : List Value).toArray be_ me_ co_ H locs 0 0 (MQ be_ (gQ D B0 (fun (r : Option Value) (g : gF) => r = some (.int (iI (qAt S b c p))) ∧ g = mW cy ix S (mX I aM qM tM) G)) ([.ref (ix 100), .int (iI b), .int (iI c), .int (iI p)] : List Value).toArray s_ 0 0 (fun q : Nat => B0 ≤ q)) (F0 m_ 6 ls [])) (fun (h : Int) (left : Int) (H : Heap) (locs : List Loc) (ls : Array Slot) => ((-1 ≤ h ∧ h ≤ 2) ∧ 0 ≤ left ∧ left = p - (qP S b c h 0).length) ∧ gW D B0 s_.heap (mW cy ix S (mX (I) (aM) (qM) (tM)) G) H locs ∧ lv_has ls 7 [(5, .int (iI (h))), (4, .int (iI (left))), (3, .int (iI (p))), (2, .int (iI (c))), (1, .int (iI (b))), (0, .ref (ix 100))]) (fun (h : Int) (left : Int) => (h + 1).toNat) (fun h left H locs ls hI ih_lp_1 => ?_) (2) (p) _ _ _ ⟨⟨⟨by omega, by omega⟩, by omega, by rw [qP_0]; simp⟩, hW, lv_sub hl [0, 1, 5, 4, 3, 2] rfl⟩
  obtain ⟨hI_lp_1, hW, hl⟩ := hI
  obtain ⟨hh, hl0, hl1⟩ := hI_lp_1
  refine lv_iload hx hb dX12_queued_6 (lv_at hl 0 rfl) ?_
  refine xi_if_lt (tgt := 91) hx hb ⟨by omega, by omega⟩ dX12_queued_8 (by decide) (fun c_2 => ?_) (fun c_2 => ?_)
  · refine xi_iconst hx hb dX12_queued_91 ?_
    exact g_iret hx hb hr hW ⟨by rw [← qP_miss (p := p) (by rw [← qP_end S b c 0, show (-1 : Int) = h by omega]; omega)], rfl⟩ dX12_queued_92 hlk
  · refine xi_iconst hx hb dX12_queued_11 ?_
    refine lv_istore (lv' := [(6, .int (iI (0))), (5, .int (iI (h))), (4, .int (iI (left))), (3, .int (iI (p))), (2, .int (iI (c))), (1, .int (iI (b))), (0, .ref (ix 100))]) hx hb dX12_queued_12 hl (by decide) rfl (fun ls hl => ?_)
    refine lp_w2 (Wg := fun (H : Heap) (locs : List Loc) (ls : Array Slot) => W p_ l e_ { frames := 0, cells := 0, slots := 0, locals := 0 } s_ m_ ([.ref (ix 100), .int (iI b), .int (iI c), .int (iI p)] : List Value).toArray be_ me_ co_ H locs 0 0 (MQ be_ (gQ D B0 (fun (r : Option Value) (g : gF) => r = some (.int (iI (qAt S b c p))) ∧ g = mW cy ix S (mX I aM qM tM) G)) ([.ref (ix 100), .int (iI b), .int (iI c), .int (iI p)] : List Value).toArray s_ 0 0 (fun q : Nat => B0 ≤ q)) (F0 m_ 14 ls [])) (fun (k : Int) (le : Int) (H : Heap) (locs : List Loc) (ls : Array Slot) => ((0 ≤ k ∧ k ≤ S.1 8 0) ∧ 0 ≤ le ∧ le = p - (qP S b c h k.toNat).length) ∧ gW D B0 s_.heap (mW cy ix S (mX (I) (aM) (qM) (tM)) G) H locs ∧ lv_has ls 7 [(6, .int (iI (k))), (5, .int (iI (h))), (4, .int (iI (le))), (3, .int (iI (p))), (2, .int (iI (c))), (1, .int (iI (b))), (0, .ref (ix 100))]) (fun (k : Int) (le : Int) => (60 - k).toNat) (fun k le H locs ls hI ih_lp_3 => ?_) (0) (left) _ _ _ ⟨⟨⟨by omega, (wf_8 hwf 0).1⟩, hl0, hl1⟩, hW, lv_sub hl [0, 1, 2, 3, 4, 5, 6] rfl⟩
    obtain ⟨hI_lp_3, hW, hl⟩ := hI
    obtain ⟨hk, hl2, hl3⟩ := hI_lp_3
    refine lv_iload hx hb dX12_queued_14 (lv_at hl 0 rfl) ?_
    refine lv_aload_n hx hb dX12_queued_16 rfl (lv_at hl 6 rfl) ?_
    refine mr_get K hK hW hin 8 (by decide) lM_payments (v := .int (iI (S.1 8 (0)))) rfl dX12_queued_17 ?_
    have w_w_4 := wf_8 hwf 0
    refine xi_icmp_ge (tgt := 85) hx hb ⟨by omega, by omega⟩ ⟨by omega, by omega⟩ dX12_queued_20 (by decide) (fun c_5 => ?_) (fun c_5 => ?_)
    · refine xi_iinc (lv' := [(5, .int (iI (h + (-1)))), (6, .int (iI (k))), (4, .int (iI (le))), (3, .int (iI (p))), (2, .int (iI (c))), (1, .int (iI (b))), (0, .ref (ix 100))]) hx hb dX12_queued_85 hl (k := 1) rfl (by decide) rfl (fun ls hl => ?_)
      refine lv_goto (tgt := 6) hx hb dX12_queued_88 (by decide) ?_
      exact ih_lp_1 (h + (-1)) (le) _ _ _ (by first | omega | (dsimp only; omega)) ⟨⟨⟨by omega, by omega⟩, hl2, by rw [hl3, show k = S.1 8 0 by omega, qP_n _ _ _ _ ⟨by omega, by omega⟩]; rfl⟩, hW, lv_sub hl [0, 2, 3, 4, 5, 6] rfl⟩
    · refine lv_aload_n hx hb dX12_queued_23 rfl (lv_at hl 6 rfl) ?_
      refine mr_get K hK hW hin 18 (by decide) lM_state (v := .ref (ix 118)) rfl dX12_queued_24 ?_
      refine lv_iload hx hb dX12_queued_27 (lv_at hl 0 rfl) ?_
      refine mr_iald K hK hW 18 (by decide) rfl (n := 60) rfl rfl ⟨by omega, by omega⟩ (v := S.1 18 (k)) rfl dX12_queued_29 ?_
      have w_6 := wf_18 hwf (k)
      refine xi_iconst hx hb dX12_queued_30 ?_
      refine xi_icmp_ne (tgt := 79) hx hb ⟨by omega, by omega⟩ ⟨by omega, by omega⟩ dX12_queued_31 (by decide) (fun c_7 => ?_) (fun c_7 => ?_)
      · refine xi_iinc (lv' := [(6, .int (iI (k + 1))), (5, .int (iI (h))), (4, .int (iI (le))), (3, .int (iI (p))), (2, .int (iI (c))), (1, .int (iI (b))), (0, .ref (ix 100))]) hx hb dX12_queued_79 hl (k := 0) rfl (by decide) rfl (fun ls hl => ?_)
        refine lv_goto (tgt := 14) hx hb dX12_queued_82 (by decide) ?_
        exact ih_lp_3 (k + 1) (le) _ _ _ (by have := wf_8 hwf 0; first | omega | (dsimp only; omega)) ⟨⟨⟨by omega, by omega⟩, by omega, by rw [show (k + 1).toNat = k.toNat + 1 by omega, qP_s _ _ _ _ _ (by omega), show ((k.toNat : Nat) : Int) = k by omega, (show isQ S b c h k = false by simp only [isQ, c_7, decide_true, decide_false, Bool.true_and, Bool.and_true, Bool.false_and, Bool.and_false, Bool.true_or, Bool.or_true, Bool.false_or, Bool.or_false, Bool.not_true, Bool.not_false, eq_self])]; simp; omega⟩, hW, lv_sub hl [0, 1, 2, 3, 4, 5, 6] rfl⟩
      · refine lv_aload_n hx hb dX12_queued_34 rfl (lv_at hl 6 rfl) ?_
        refine mr_get K hK hW hin 9 (by decide) lM_from (v := .ref (ix 109)) rfl dX12_queued_35 ?_
        refine lv_iload hx hb dX12_queued_38 (lv_at hl 0 rfl) ?_
        refine mr_iald K hK hW 9 (by decide) rfl (n := 60) rfl rfl ⟨by omega, by omega⟩ (v := S.1 9 (k)) rfl dX12_queued_40 ?_
        have w_8 := wf_9 hwf (k)
        refine lv_iload_n hx hb dX12_queued_41 rfl (lv_at hl 5 rfl) ?_
        refine xi_icmp_ne (tgt := 79) hx hb ⟨by omega, by omega⟩ ⟨by omega, by omega⟩ dX12_queued_42 (by decide) (fun c_9 => ?_) (fun c_9 => ?_)
        · refine xi_iinc (lv' := [(6, .int (iI (k + 1))), (5, .int (iI (h))), (4, .int (iI (le))), (3, .int (iI (p))), (2, .int (iI (c))), (1, .int (iI (b))), (0, .ref (ix 100))]) hx hb dX12_queued_79 hl (k := 0) rfl (by decide) rfl (fun ls hl => ?_)
          refine lv_goto (tgt := 14) hx hb dX12_queued_82 (by decide) ?_
          exact ih_lp_3 (k + 1) (le) _ _ _ (by have := wf_8 hwf 0; first | omega | (dsimp only; omega)) ⟨⟨⟨by omega, by omega⟩, by omega, by rw [show (k + 1).toNat = k.toNat + 1 by omega, qP_s _ _ _ _ _ (by omega), show ((k.toNat : Nat) : Int) = k by omega, (show isQ S b c h k = false by simp only [isQ, c_7, c_9, decide_true, decide_false, Bool.true_and, Bool.and_true, Bool.false_and, Bool.and_false, Bool.true_or, Bool.or_true, Bool.false_or, Bool.or_false, Bool.not_true, Bool.not_false, eq_self])]; simp; omega⟩, hW, lv_sub hl [0, 1, 2, 3, 4, 5, 6] rfl⟩
        · refine lv_aload_n hx hb dX12_queued_45 rfl (lv_at hl 6 rfl) ?_
          refine mr_get K hK hW hin 11 (by decide) lM_currency (v := .ref (ix 111)) rfl dX12_queued_46 ?_
          refine lv_iload hx hb dX12_queued_49 (lv_at hl 0 rfl) ?_
          refine mr_iald K hK hW 11 (by decide) rfl (n := 60) rfl rfl ⟨by omega, by omega⟩ (v := S.1 11 (k)) rfl dX12_queued_51 ?_
          have w_10 := wf_11 hwf (k)
          refine lv_iload_n hx hb dX12_queued_52 rfl (lv_at hl 4 rfl) ?_
          refine xi_icmp_ne (tgt := 79) hx hb ⟨by omega, by omega⟩ ⟨by omega, by omega⟩ dX12_queued_53 (by decide) (fun c_11 => ?_) (fun c_11 => ?_)
          · refine xi_iinc (lv' := [(6, .int (iI (k + 1))), (5, .int (iI (h))), (4, .int (iI (le))), (3, .int (iI (p))), (2, .int (iI (c))), (1, .int (iI (b))), (0, .ref (ix 100))]) hx hb dX12_queued_79 hl (k := 0) rfl (by decide) rfl (fun ls hl => ?_)
            refine lv_goto (tgt := 14) hx hb dX12_queued_82 (by decide) ?_
            exact ih_lp_3 (k + 1) (le) _ _ _ (by have := wf_8 hwf 0; first | omega | (dsimp only; omega)) ⟨⟨⟨by omega, by omega⟩, by omega, by rw [show (k + 1).toNat = k.toNat + 1 by omega, qP_s _ _ _ _ _ (by omega), show ((k.toNat : Nat) : Int) = k by omega, (show isQ S b c h k = false by simp only [isQ, c_7, c_9, c_11, decide_true, decide_false, Bool.true_and, Bool.and_true, Bool.false_and, Bool.and_false, Bool.true_or, Bool.or_true, Bool.false_or, Bool.or_false, Bool.not_true, Bool.not_false, eq_self])]; simp; omega⟩, hW, lv_sub hl [0, 1, 2, 3, 4, 5, 6] rfl⟩
          · refine lv_aload_n hx hb dX12_queued_56 rfl (lv_at hl 6 rfl) ?_
            refine mr_get K hK hW hin 14 (by decide) lM_rank (v := .ref (ix 114)) rfl dX12_queued_57 ?_
            refine lv_iload hx hb dX12_queued_60 (lv_at hl 0 rfl) ?_
            refine mr_iald K hK hW 14 (by decide) rfl (n := 60) rfl rfl ⟨by omega, by omega⟩ (v := S.1 14 (k)) rfl dX12_queued_62 ?_
            have w_12 := wf_14 hwf (k)
            refine lv_iload hx hb dX12_queued_63 (lv_at hl 1 rfl) ?_
            refine xi_icmp_ne (tgt := 79) hx hb ⟨by omega, by omega⟩ ⟨by omega, by omega⟩ dX12_queued_65 (by decide) (fun c_13 => ?_) (fun c_13 => ?_)
            · refine xi_iinc (lv' := [(6, .int (iI (k + 1))), (5, .int (iI (h))), (4, .int (iI (le))), (3, .int (iI (p))), (2, .int (iI (c))), (1, .int (iI (b))), (0, .ref (ix 100))]) hx hb dX12_queued_79 hl (k := 0) rfl (by decide) rfl (fun ls hl => ?_)
              refine lv_goto (tgt := 14) hx hb dX12_queued_82 (by decide) ?_
              exact ih_lp_3 (k + 1) (le) _ _ _ (by have := wf_8 hwf 0; first | omega | (dsimp only; omega)) ⟨⟨⟨by omega, by omega⟩, by omega, by rw [show (k + 1).toNat = k.toNat + 1 by omega, qP_s _ _ _ _ _ (by omega), show ((k.toNat : Nat) : Int) = k by omega, (show isQ S b c h k = false by simp only [isQ, c_7, c_9, c_11, c_13, decide_true, decide_false, Bool.true_and, Bool.and_true, Bool.false_and, Bool.and_false, Bool.true_or, Bool.or_true, Bool.false_or, Bool.or_false, Bool.not_true, Bool.not_false, eq_self])]; simp; omega⟩, hW, lv_sub hl [0, 1, 2, 3, 4, 5, 6] rfl⟩
            · refine lv_iload hx hb dX12_queued_68 (lv_at hl 2 rfl) ?_
              refine xi_if_ne (tgt := 76) hx hb ⟨by omega, by omega⟩ dX12_queued_70 (by decide) (fun c_14 => ?_) (fun c_14 => ?_)
              · refine xi_iinc (lv' := [(4, .int (iI (le + (-1)))), (6, .int (iI (k))), (5, .int (iI (h))), (3, .int (iI (p))), (2, .int (iI (c))), (1, .int (iI (b))), (0, .ref (ix 100))]) hx hb dX12_queued_76 hl (k := 2) rfl (by decide) rfl (fun ls hl => ?_)
                refine xi_iinc (lv' := [(6, .int (iI (k + 1))), (4, .int (iI (le + (-1)))), (5, .int (iI (h))), (3, .int (iI (p))), (2, .int (iI (c))), (1, .int (iI (b))), (0, .ref (ix 100))]) hx hb dX12_queued_79 hl (k := 1) rfl (by decide) rfl (fun ls hl => ?_)
                refine lv_goto (tgt := 14) hx hb dX12_queued_82 (by decide) ?_
                exact ih_lp_3 (k + 1) (le + (-1)) _ _ _ (by have := wf_8 hwf 0; first | omega | (dsimp only; omega)) ⟨⟨⟨by omega, by omega⟩, by omega, by rw [show (k + 1).toNat = k.toNat + 1 by omega, qP_s _ _ _ _ _ (by omega), show ((k.toNat : Nat) : Int) = k by omega, (show isQ S b c h k = true by simp only [isQ, c_7, c_9, c_11, c_13, decide_true, decide_false, Bool.true_and, Bool.and_true, Bool.false_and, Bool.and_false, Bool.true_or, Bool.or_true, Bool.false_or, Bool.or_false, Bool.not_true, Bool.not_false, eq_self])]; simp; omega⟩, hW, lv_sub hl [0, 2, 1, 3, 4, 5, 6] rfl⟩
              · refine lv_iload hx hb dX12_queued_73 (lv_at hl 0 rfl) ?_
                exact g_iret hx hb hr hW ⟨by rw [← qP_hit (p := p) ⟨by omega, by omega⟩ ⟨by omega, by omega⟩ (show isQ S b c h k = true by simp only [isQ, c_7, c_9, c_11, c_13, decide_true, decide_false, Bool.true_and, Bool.and_true, Bool.false_and, Bool.and_false, Bool.true_or, Bool.or_true, Bool.false_or, Bool.or_false, Bool.not_true, Bool.not_false, eq_self]) (by omega)], rfl⟩ dX12_queued_75 hlk
set_option maxHeartbeats 4000000 in
set_option maxRecDepth 100000 in
theorem c_M_last {l : Launch} {D : va_G} {cy : Nat → ClassId} {B0 : Nat} {ix : Nat → Nat} {S : ST} {I : Int → Bool} {aM qM : Int → Int64} {tM : Int} {G : gF} (b : Int) (u : Int) (q : Bool) (hb0 : 0 ≤ b ∧ b ≤ 5) (hu : -1 ≤ u ∧ u ≤ 5) (hwf : wf S) : gM l yX12_last vX12_last 0 0 D cy B0 [.ref (ix 100), .int (iI b), .int (iI u), .int (iI (bI q))] (mW cy ix S (mX I aM qM tM) G) (fun r g => r = some (.int (iI (laS S I b u q (S.1 8 0).toNat))) ∧ g = mW cy ix S (mX I aM qM tM) G) 0 0 := by
  refine g_start (cc := cX12_last) (maxL := 7) (ret := (some .int)) (by decide) rfl (Nat.le_of_ble_eq_true rfl) ?_
  intro p_ e_ s_ m_ be_ me_ co_ ls H locs K hr hlk hnm hK hW hl
  have hin : ∀ w ∈ wsX120, w ∈ vX12_last := wsM_cls
  obtain ⟨hx, hb, hml, hown, hts⟩ := id K
  have hl : lv_has ls 7 [(0, .ref (ix 100)), (1, .int (iI (b))), (2, .int (iI (u))), (3, .int (iI (bI (q))))] := hl
  refine xi_iconst hx hb dX12_last_0 ?_
  refine lv_istore (lv' := [(4, .int (iI ((-1)))), (0, .ref (ix 100)), (1, .int (iI (b))), (2, .int (iI (u))), (3, .int (iI (bI (q))))]) hx hb dX12_last_1 hl (by decide) rfl (fun ls hl => ?_)
  refine xi_iconst hx hb dX12_last_3 ?_
  refine lv_istore (lv' := [(5, .int (iI (0))), (4, .int (iI ((-1)))), (0, .ref (ix 100)), (1, .int (iI (b))), (2, .int (iI (u))), (3, .int (iI (bI (q))))]) hx hb dX12_last_4 hl (by decide) rfl (fun ls hl => ?_)
  refine lp_w2 (Wg := fun (H : Heap) (locs : List Loc) (ls : Array Slot) => W p_ l e_ { frames := 0, cells := 0, slots := 0, locals := 0 } s_ m_ ([.ref (ix 100), .int (iI b), .int (iI u), .int (iI (bI q))] : List Value).toArray be_ me_ co_ H locs 0 0 (MQ be_ (gQ D B0 (fun (r : Option Value) (g : gF) => r = some (.int (iI (laS S I b u q (S.1 8 0).toNat))) ∧ g = mW cy ix S (mX I aM qM tM) G)) ([.ref (ix 100), .int (iI b), .int (iI u), .int (iI (bI q))] : List Value).toArray s_ 0 0 (fun q : Nat => B0 ≤ q)) (F0 m_ 6 ls [])) (fun (k : Int) (la : Int) (H : Heap) (locs : List Loc) (ls : Array Slot) => ((0 ≤ k ∧ k ≤ S.1 8 0) ∧ -1 ≤ la ∧ la < k ∧ la = laS S I b u q k.toNat) ∧ gW D B0 s_.heap (mW cy ix S (mX (I) (aM) (qM) (tM)) G) H locs ∧ lv_has ls 7 [(5, .int (iI (k))), (4, .int (iI (la))), (3, .int (iI (bI (q)))), (2, .int (iI (u))), (1, .int (iI (b))), (0, .ref (ix 100))]) (fun (k : Int) (la : Int) => (60 - k).toNat) (fun k la H locs ls hI ih_lp_1 => ?_) (0) (-1) _ _ _ ⟨⟨⟨by omega, (wf_8 hwf 0).1⟩, by decide, by decide, rfl⟩, hW, lv_sub hl [0, 1, 5, 4, 3, 2] rfl⟩
  obtain ⟨hI_lp_1, hW, hl⟩ := hI
  obtain ⟨hk, hla0, hla1, hla2⟩ := hI_lp_1
  have h80 := wf_8 hwf 0
  refine lv_iload hx hb dX12_last_6 (lv_at hl 0 rfl) ?_
  refine lv_aload_n hx hb dX12_last_8 rfl (lv_at hl 5 rfl) ?_
  refine mr_get K hK hW hin 8 (by decide) lM_payments (v := .int (iI (S.1 8 (0)))) rfl dX12_last_9 ?_
  have w_w_2 := wf_8 hwf 0
  refine xi_icmp_ge (tgt := 106) hx hb ⟨by omega, by omega⟩ ⟨by omega, by omega⟩ dX12_last_12 (by decide) (fun c_3 => ?_) (fun c_3 => ?_)
  · refine lv_iload hx hb dX12_last_106 (lv_at hl 1 rfl) ?_
    exact g_iret hx hb hr hW ⟨by rw [show S.1 8 0 = k by omega, hla2], rfl⟩ dX12_last_108 hlk
  · have j_4 : ∀ (z : Bool) (H : Heap) (locs : List Loc), z = (I k && decide (S.1 9 k = b) && (decide (u = -1) || decide (S.1 10 k = u))) → gW D B0 s_.heap (mW cy ix S (mX (I) (aM) (qM) (tM)) G) H locs → W p_ l e_ { frames := 0, cells := 0, slots := 0, locals := 0 } s_ m_ ([.ref (ix 100), .int (iI b), .int (iI u), .int (iI (bI q))] : List Value).toArray be_ me_ co_ H locs 0 0 (MQ be_ (gQ D B0 (fun (r : Option Value) (g : gF) => r = some (.int (iI (laS S I b u q (S.1 8 0).toNat))) ∧ g = mW cy ix S (mX I aM qM tM) G)) ([.ref (ix 100), .int (iI b), .int (iI u), .int (iI (bI q))] : List Value).toArray s_ 0 0 (fun q : Nat => B0 ≤ q)) (F0 m_ 57 ls [.int (iI (bI (z)))]) := by
      intro z H locs hz hW
      subst hz
      refine lv_istore (lv' := [(6, .int (iI (bI (I k && decide (S.1 9 k = b) && (decide (u = -1) || decide (S.1 10 k = u)))))), (5, .int (iI (k))), (4, .int (iI (la))), (3, .int (iI (bI (q)))), (2, .int (iI (u))), (1, .int (iI (b))), (0, .ref (ix 100))]) hx hb dX12_last_57 hl (by decide) rfl (fun ls hl => ?_)
      have j_5 : ∀ (z : Int) (H : Heap) (locs : List Loc), z = (laN S I b u q la k) → gW D B0 s_.heap (mW cy ix S (mX (I) (aM) (qM) (tM)) G) H locs → W p_ l e_ { frames := 0, cells := 0, slots := 0, locals := 0 } s_ m_ ([.ref (ix 100), .int (iI b), .int (iI u), .int (iI (bI q))] : List Value).toArray be_ me_ co_ H locs 0 0 (MQ be_ (gQ D B0 (fun (r : Option Value) (g : gF) => r = some (.int (iI (laS S I b u q (S.1 8 0).toNat))) ∧ g = mW cy ix S (mX I aM qM tM) G)) ([.ref (ix 100), .int (iI b), .int (iI u), .int (iI (bI q))] : List Value).toArray s_ 0 0 (fun q : Nat => B0 ≤ q)) (F0 m_ 98 ls [.int (iI (z))]) := by
        intro z H locs hz hW
        subst hz
        refine lv_istore (lv' := [(4, .int (iI (laN S I b u q la k))), (6, .int (iI (bI (I k && decide (S.1 9 k = b) && (decide (u = -1) || decide (S.1 10 k = u)))))), (5, .int (iI (k))), (3, .int (iI (bI (q)))), (2, .int (iI (u))), (1, .int (iI (b))), (0, .ref (ix 100))]) hx hb dX12_last_98 hl (by decide) rfl (fun ls hl => ?_)
        refine xi_iinc (lv' := [(5, .int (iI (k + 1))), (4, .int (iI (laN S I b u q la k))), (6, .int (iI (bI (I k && decide (S.1 9 k = b) && (decide (u = -1) || decide (S.1 10 k = u)))))), (3, .int (iI (bI (q)))), (2, .int (iI (u))), (1, .int (iI (b))), (0, .ref (ix 100))]) hx hb dX12_last_100 hl (k := 2) rfl (by decide) rfl (fun ls hl => ?_)
        refine lv_goto (tgt := 6) hx hb dX12_last_103 (by decide) ?_
        exact ih_lp_1 (k + 1) (laN S I b u q la k) _ _ _ (by have := wf_8 hwf 0; first | omega | (dsimp only; omega)) ⟨⟨⟨by omega, by omega⟩, (laN_r ⟨by omega, by omega⟩ ⟨by omega, by omega⟩).1, (laN_r ⟨by omega, by omega⟩ ⟨by omega, by omega⟩).2, by rw [show (k + 1).toNat = k.toNat + 1 by omega, laS_s, show ((k.toNat : Nat) : Int) = k by omega, hla2]⟩, hW, lv_sub hl [0, 1, 3, 4, 5, 6] rfl⟩
      refine lv_iload hx hb dX12_last_59 (lv_at hl 0 rfl) ?_
      refine xi_ifb_eq (tgt := 96) hx hb dX12_last_61 (by decide) (fun c_6 => ?_) (fun c_6 => ?_)
      · refine lv_iload hx hb dX12_last_96 (lv_at hl 2 rfl) ?_
        exact xi_eq (by simp only [laN, c_3, Int.not_le.mpr c_3, c_6, decide_true, decide_false, Bool.true_and, Bool.and_true, Bool.false_and, Bool.and_false, Bool.true_or, Bool.or_true, Bool.false_or, Bool.or_false, Bool.not_true, Bool.not_false, eq_self, if_true, if_false, ite_true, ite_false, Bool.false_eq_true, reduceCtorEq, not_false_eq_true]) (j_5 _ _ _ rfl hW)
      · refine lv_iload hx hb dX12_last_64 (lv_at hl 2 rfl) ?_
        refine xi_iconst hx hb dX12_last_66 ?_
        refine xi_icmp_eq (tgt := 91) hx hb ⟨by omega, by omega⟩ ⟨by omega, by omega⟩ dX12_last_67 (by decide) (fun c_7 => ?_) (fun c_7 => ?_)
        · refine lv_iload hx hb dX12_last_91 (lv_at hl 1 rfl) ?_
          refine lv_goto (tgt := 98) hx hb dX12_last_93 (by decide) ?_
          exact xi_eq (by simp only [laN, c_3, Int.not_le.mpr c_3, c_6, c_7, decide_true, decide_false, Bool.true_and, Bool.and_true, Bool.false_and, Bool.and_false, Bool.true_or, Bool.or_true, Bool.false_or, Bool.or_false, Bool.not_true, Bool.not_false, eq_self, if_true, if_false, ite_true, ite_false, Bool.false_eq_true, reduceCtorEq, not_false_eq_true]) (j_5 _ _ _ rfl hW)
        · refine lv_iload_n hx hb dX12_last_70 rfl (lv_at hl 3 rfl) ?_
          refine xi_ifb_eq (tgt := 91) hx hb dX12_last_71 (by decide) (fun c_8 => ?_) (fun c_8 => ?_)
          · refine lv_iload hx hb dX12_last_91 (lv_at hl 1 rfl) ?_
            refine lv_goto (tgt := 98) hx hb dX12_last_93 (by decide) ?_
            exact xi_eq (by simp only [laN, c_3, Int.not_le.mpr c_3, c_6, c_7, c_8, decide_true, decide_false, Bool.true_and, Bool.and_true, Bool.false_and, Bool.and_false, Bool.true_or, Bool.or_true, Bool.false_or, Bool.or_false, Bool.not_true, Bool.not_false, eq_self, if_true, if_false, ite_true, ite_false, Bool.false_eq_true, reduceCtorEq, not_false_eq_true]) (j_5 _ _ _ rfl hW)
          · refine lv_aload_n hx hb dX12_last_74 rfl (lv_at hl 6 rfl) ?_
            refine mr_get K hK hW hin 14 (by decide) lM_rank (v := .ref (ix 114)) rfl dX12_last_75 ?_
            refine lv_iload hx hb dX12_last_78 (lv_at hl 1 rfl) ?_
            refine mr_iald K hK hW 14 (by decide) rfl (n := 60) rfl rfl ⟨by omega, by omega⟩ (v := S.1 14 (k)) rfl dX12_last_80 ?_
            have w_9 := wf_14 hwf (k)
            refine lv_aload_n hx hb dX12_last_81 rfl (lv_at hl 6 rfl) ?_
            refine mr_get K hK hW hin 14 (by decide) lM_rank (v := .ref (ix 114)) rfl dX12_last_82 ?_
            refine lv_iload hx hb dX12_last_85 (lv_at hl 2 rfl) ?_
            refine mr_iald K hK hW 14 (by decide) rfl (n := 60) rfl rfl ⟨by omega, by omega⟩ (v := S.1 14 (la)) rfl dX12_last_87 ?_
            have w_10 := wf_14 hwf (la)
            refine xi_icmp_gt (tgt := 96) hx hb ⟨by omega, by omega⟩ ⟨by omega, by omega⟩ dX12_last_88 (by decide) (fun c_11 => ?_) (fun c_11 => ?_)
            · refine lv_iload hx hb dX12_last_96 (lv_at hl 2 rfl) ?_
              exact xi_eq (by simp only [laN, c_3, Int.not_le.mpr c_3, c_6, c_7, c_8, c_11, Int.not_le.mpr c_11, decide_true, decide_false, Bool.true_and, Bool.and_true, Bool.false_and, Bool.and_false, Bool.true_or, Bool.or_true, Bool.false_or, Bool.or_false, Bool.not_true, Bool.not_false, eq_self, if_true, if_false, ite_true, ite_false, Bool.false_eq_true, reduceCtorEq, not_false_eq_true]) (j_5 _ _ _ rfl hW)
            · refine lv_iload hx hb dX12_last_91 (lv_at hl 1 rfl) ?_
              refine lv_goto (tgt := 98) hx hb dX12_last_93 (by decide) ?_
              exact xi_eq (by simp only [laN, c_3, Int.not_le.mpr c_3, c_6, c_7, c_8, c_11, Int.not_lt.mpr c_11, decide_true, decide_false, Bool.true_and, Bool.and_true, Bool.false_and, Bool.and_false, Bool.true_or, Bool.or_true, Bool.false_or, Bool.or_false, Bool.not_true, Bool.not_false, eq_self, if_true, if_false, ite_true, ite_false, Bool.false_eq_true, reduceCtorEq, not_false_eq_true]) (j_5 _ _ _ rfl hW)
    refine lv_aload_n hx hb dX12_last_15 rfl (lv_at hl 5 rfl) ?_
    refine mr_get K hK hW hin 33 (by decide) lM_isIn (v := .ref (ix 133)) rfl dX12_last_16 ?_
    refine lv_iload hx hb dX12_last_19 (lv_at hl 0 rfl) ?_
    refine mr_zald K hK hW 33 (by decide) rfl (n := 60) rfl rfl ⟨by omega, by omega⟩ (v := bI (I (k))) rfl dX12_last_21 ?_
    refine xi_ifb_eq (tgt := 56) hx hb dX12_last_22 (by decide) (fun c_12 => ?_) (fun c_12 => ?_)
    · refine xi_iconst hx hb dX12_last_56 ?_
      exact xi_eq (bI_f (by simp only [c_3, Int.not_le.mpr c_3, c_12, decide_true, decide_false, Bool.true_and, Bool.and_true, Bool.false_and, Bool.and_false, Bool.true_or, Bool.or_true, Bool.false_or, Bool.or_false, Bool.not_true, Bool.not_false, eq_self])) (j_4 _ _ _ rfl hW)
    · refine lv_aload_n hx hb dX12_last_25 rfl (lv_at hl 5 rfl) ?_
      refine mr_get K hK hW hin 9 (by decide) lM_from (v := .ref (ix 109)) rfl dX12_last_26 ?_
      refine lv_iload hx hb dX12_last_29 (lv_at hl 0 rfl) ?_
      refine mr_iald K hK hW 9 (by decide) rfl (n := 60) rfl rfl ⟨by omega, by omega⟩ (v := S.1 9 (k)) rfl dX12_last_31 ?_
      have w_13 := wf_9 hwf (k)
      refine lv_iload_n hx hb dX12_last_32 rfl (lv_at hl 4 rfl) ?_
      refine xi_icmp_ne (tgt := 56) hx hb ⟨by omega, by omega⟩ ⟨by omega, by omega⟩ dX12_last_33 (by decide) (fun c_14 => ?_) (fun c_14 => ?_)
      · refine xi_iconst hx hb dX12_last_56 ?_
        exact xi_eq (bI_f (by simp only [c_3, Int.not_le.mpr c_3, c_12, c_14, decide_true, decide_false, Bool.true_and, Bool.and_true, Bool.false_and, Bool.and_false, Bool.true_or, Bool.or_true, Bool.false_or, Bool.or_false, Bool.not_true, Bool.not_false, eq_self])) (j_4 _ _ _ rfl hW)
      · refine lv_iload_n hx hb dX12_last_36 rfl (lv_at hl 3 rfl) ?_
        refine xi_iconst hx hb dX12_last_37 ?_
        refine xi_icmp_eq (tgt := 52) hx hb ⟨by omega, by omega⟩ ⟨by omega, by omega⟩ dX12_last_38 (by decide) (fun c_15 => ?_) (fun c_15 => ?_)
        · refine xi_iconst hx hb dX12_last_52 ?_
          refine lv_goto (tgt := 57) hx hb dX12_last_53 (by decide) ?_
          exact xi_eq (bI_t (by simp only [c_3, Int.not_le.mpr c_3, c_12, c_14, c_15, decide_true, decide_false, Bool.true_and, Bool.and_true, Bool.false_and, Bool.and_false, Bool.true_or, Bool.or_true, Bool.false_or, Bool.or_false, Bool.not_true, Bool.not_false, eq_self])) (j_4 _ _ _ rfl hW)
        · refine lv_aload_n hx hb dX12_last_41 rfl (lv_at hl 5 rfl) ?_
          refine mr_get K hK hW hin 10 (by decide) lM_to (v := .ref (ix 110)) rfl dX12_last_42 ?_
          refine lv_iload hx hb dX12_last_45 (lv_at hl 0 rfl) ?_
          refine mr_iald K hK hW 10 (by decide) rfl (n := 60) rfl rfl ⟨by omega, by omega⟩ (v := S.1 10 (k)) rfl dX12_last_47 ?_
          have w_16 := wf_10 hwf (k)
          refine lv_iload_n hx hb dX12_last_48 rfl (lv_at hl 3 rfl) ?_
          refine xi_icmp_ne (tgt := 56) hx hb ⟨by omega, by omega⟩ ⟨by omega, by omega⟩ dX12_last_49 (by decide) (fun c_17 => ?_) (fun c_17 => ?_)
          · refine xi_iconst hx hb dX12_last_56 ?_
            exact xi_eq (bI_f (by simp only [c_3, Int.not_le.mpr c_3, c_12, c_14, c_15, c_17, decide_true, decide_false, Bool.true_and, Bool.and_true, Bool.false_and, Bool.and_false, Bool.true_or, Bool.or_true, Bool.false_or, Bool.or_false, Bool.not_true, Bool.not_false, eq_self])) (j_4 _ _ _ rfl hW)
          · refine xi_iconst hx hb dX12_last_52 ?_
            refine lv_goto (tgt := 57) hx hb dX12_last_53 (by decide) ?_
            exact xi_eq (bI_t (by simp only [c_3, Int.not_le.mpr c_3, c_12, c_14, c_15, c_17, decide_true, decide_false, Bool.true_and, Bool.and_true, Bool.false_and, Bool.and_false, Bool.true_or, Bool.or_true, Bool.false_or, Bool.or_false, Bool.not_true, Bool.not_false, eq_self])) (j_4 _ _ _ rfl hW)
set_option maxHeartbeats 4000000 in
set_option maxRecDepth 100000 in
theorem c_M_enters {l : Launch} {D : va_G} {cy : Nat → ClassId} {B0 : Nat} {ix : Nat → Nat} {S : ST} {I : Int → Bool} {aM qM : Int → Int64} {tM : Int} {G : gF} (k : Int) (hk : 0 ≤ k ∧ k ≤ 59) (hwf : wf S) : gM l yX12_enters vX12_enters 0 0 D cy B0 [.ref (ix 100), .int (iI k)] (mW cy ix S (mX I aM qM tM) G) (fun r g => r = none ∧ g = mW cy ix (sEnter S k) (mX I aM qM tM) G) 0 0 := by
  refine g_start (cc := cX12_enters) (maxL := 2) (ret := none) (by decide) rfl (Nat.le_of_ble_eq_true rfl) ?_
  intro p_ e_ s_ m_ be_ me_ co_ ls H locs K hr hlk hnm hK hW hl
  have hin : ∀ w ∈ wsX120, w ∈ vX12_enters := wsM_cls
  obtain ⟨hx, hb, hml, hown, hts⟩ := id K
  have hl : lv_has ls 2 [(0, .ref (ix 100)), (1, .int (iI (k)))] := hl
  refine lv_aload_n hx hb dX12_enters_0 rfl (lv_at hl 0 rfl) ?_
  refine mr_get K hK hW hin 18 (by decide) lM_state (v := .ref (ix 118)) rfl dX12_enters_1 ?_
  refine lv_iload_n hx hb dX12_enters_4 rfl (lv_at hl 1 rfl) ?_
  refine lv_aload_n hx hb dX12_enters_5 rfl (lv_at hl 0 rfl) ?_
  refine mr_get K hK hW hin 7 (by decide) lM_isListed (v := .ref (ix 107)) rfl dX12_enters_6 ?_
  refine lv_aload_n hx hb dX12_enters_9 rfl (lv_at hl 0 rfl) ?_
  refine mr_get K hK hW hin 13 (by decide) lM_payee (v := .ref (ix 113)) rfl dX12_enters_10 ?_
  refine lv_iload_n hx hb dX12_enters_13 rfl (lv_at hl 1 rfl) ?_
  refine mr_iald K hK hW 13 (by decide) rfl (n := 60) rfl rfl ⟨by omega, by omega⟩ (v := S.1 13 (k)) rfl dX12_enters_14 ?_
  have w_1 := wf_13 hwf (k)
  refine mr_zald K hK hW 7 (by decide) rfl (n := 20) rfl rfl ⟨by omega, by omega⟩ (v := S.1 7 (S.1 13 (k))) rfl dX12_enters_15 ?_
  have w_2 := wf_7 hwf (S.1 13 (k))
  refine xi_if_eq (tgt := 32) hx hb ⟨by omega, by omega⟩ dX12_enters_16 (by decide) (fun c_3 => ?_) (fun c_3 => ?_)
  · refine lv_aload_n hx hb dX12_enters_32 rfl (lv_at hl 0 rfl) ?_
    refine mr_get K hK hW hin 15 (by decide) lM_isReal (v := .ref (ix 115)) rfl dX12_enters_33 ?_
    refine lv_iload_n hx hb dX12_enters_36 rfl (lv_at hl 1 rfl) ?_
    refine mr_zald K hK hW 15 (by decide) rfl (n := 60) rfl rfl ⟨by omega, by omega⟩ (v := S.1 15 (k)) rfl dX12_enters_37 ?_
    have w_4 := wf_15 hwf (k)
    refine xi_if_eq (tgt := 45) hx hb ⟨by omega, by omega⟩ dX12_enters_38 (by decide) (fun c_5 => ?_) (fun c_5 => ?_)
    · refine xi_iconst hx hb dX12_enters_45 ?_
      refine mr_iast K hK hW 18 (by decide) rfl (n := 60) rfl rfl ⟨by omega, by omega⟩ dX12_enters_46 (fun H locs hW => ?_)
      exact g_vret hx hb hr hW ⟨rfl, by unfold sEnter; rw [show sEntV S k = 3 by simp only [sEntV, c_3, c_5, decide_true, decide_false, Bool.true_and, Bool.and_true, Bool.false_and, Bool.and_false, Bool.true_or, Bool.or_true, Bool.false_or, Bool.or_false, Bool.not_true, Bool.not_false, eq_self, if_true, if_false, ite_true, ite_false, Bool.false_eq_true, reduceCtorEq, not_false_eq_true]]⟩ dX12_enters_47 hlk
    · refine xi_iconst hx hb dX12_enters_41 ?_
      refine lv_goto (tgt := 46) hx hb dX12_enters_42 (by decide) ?_
      refine mr_iast K hK hW 18 (by decide) rfl (n := 60) rfl rfl ⟨by omega, by omega⟩ dX12_enters_46 (fun H locs hW => ?_)
      exact g_vret hx hb hr hW ⟨rfl, by unfold sEnter; rw [show sEntV S k = 2 by simp only [sEntV, c_3, c_5, decide_true, decide_false, Bool.true_and, Bool.and_true, Bool.false_and, Bool.and_false, Bool.true_or, Bool.or_true, Bool.false_or, Bool.or_false, Bool.not_true, Bool.not_false, eq_self, if_true, if_false, ite_true, ite_false, Bool.false_eq_true, reduceCtorEq, not_false_eq_true]]⟩ dX12_enters_47 hlk
  · refine lv_aload_n hx hb dX12_enters_19 rfl (lv_at hl 0 rfl) ?_
    refine mr_get K hK hW hin 19 (by decide) lM_isReleased (v := .ref (ix 119)) rfl dX12_enters_20 ?_
    refine lv_iload_n hx hb dX12_enters_23 rfl (lv_at hl 1 rfl) ?_
    refine mr_zald K hK hW 19 (by decide) rfl (n := 60) rfl rfl ⟨by omega, by omega⟩ (v := S.1 19 (k)) rfl dX12_enters_24 ?_
    have w_6 := wf_19 hwf (k)
    refine xi_if_ne (tgt := 32) hx hb ⟨by omega, by omega⟩ dX12_enters_25 (by decide) (fun c_7 => ?_) (fun c_7 => ?_)
    · refine lv_aload_n hx hb dX12_enters_32 rfl (lv_at hl 0 rfl) ?_
      refine mr_get K hK hW hin 15 (by decide) lM_isReal (v := .ref (ix 115)) rfl dX12_enters_33 ?_
      refine lv_iload_n hx hb dX12_enters_36 rfl (lv_at hl 1 rfl) ?_
      refine mr_zald K hK hW 15 (by decide) rfl (n := 60) rfl rfl ⟨by omega, by omega⟩ (v := S.1 15 (k)) rfl dX12_enters_37 ?_
      have w_8 := wf_15 hwf (k)
      refine xi_if_eq (tgt := 45) hx hb ⟨by omega, by omega⟩ dX12_enters_38 (by decide) (fun c_9 => ?_) (fun c_9 => ?_)
      · refine xi_iconst hx hb dX12_enters_45 ?_
        refine mr_iast K hK hW 18 (by decide) rfl (n := 60) rfl rfl ⟨by omega, by omega⟩ dX12_enters_46 (fun H locs hW => ?_)
        exact g_vret hx hb hr hW ⟨rfl, by unfold sEnter; rw [show sEntV S k = 3 by simp only [sEntV, c_3, c_7, c_9, decide_true, decide_false, Bool.true_and, Bool.and_true, Bool.false_and, Bool.and_false, Bool.true_or, Bool.or_true, Bool.false_or, Bool.or_false, Bool.not_true, Bool.not_false, eq_self, if_true, if_false, ite_true, ite_false, Bool.false_eq_true, reduceCtorEq, not_false_eq_true]]⟩ dX12_enters_47 hlk
      · refine xi_iconst hx hb dX12_enters_41 ?_
        refine lv_goto (tgt := 46) hx hb dX12_enters_42 (by decide) ?_
        refine mr_iast K hK hW 18 (by decide) rfl (n := 60) rfl rfl ⟨by omega, by omega⟩ dX12_enters_46 (fun H locs hW => ?_)
        exact g_vret hx hb hr hW ⟨rfl, by unfold sEnter; rw [show sEntV S k = 2 by simp only [sEntV, c_3, c_7, c_9, decide_true, decide_false, Bool.true_and, Bool.and_true, Bool.false_and, Bool.and_false, Bool.true_or, Bool.or_true, Bool.false_or, Bool.or_false, Bool.not_true, Bool.not_false, eq_self, if_true, if_false, ite_true, ite_false, Bool.false_eq_true, reduceCtorEq, not_false_eq_true]]⟩ dX12_enters_47 hlk
    · refine xi_iconst hx hb dX12_enters_28 ?_
      refine lv_goto (tgt := 46) hx hb dX12_enters_29 (by decide) ?_
      refine mr_iast K hK hW 18 (by decide) rfl (n := 60) rfl rfl ⟨by omega, by omega⟩ dX12_enters_46 (fun H locs hW => ?_)
      exact g_vret hx hb hr hW ⟨rfl, by unfold sEnter; rw [show sEntV S k = 1 by simp only [sEntV, c_3, c_7, decide_true, decide_false, Bool.true_and, Bool.and_true, Bool.false_and, Bool.and_false, Bool.true_or, Bool.or_true, Bool.false_or, Bool.or_false, Bool.not_true, Bool.not_false, eq_self, if_true, if_false, ite_true, ite_false, Bool.false_eq_true, reduceCtorEq, not_false_eq_true]]⟩ dX12_enters_47 hlk
set_option maxHeartbeats 4000000 in
set_option maxRecDepth 100000 in
theorem c_M_comes {l : Launch} {D : va_G} {cy : Nat → ClassId} {B0 : Nat} {ix : Nat → Nat} {S : ST} {I : Int → Bool} {aM qM : Int → Int64} {tM : Int} {G : gF} (b : Int) (u : Int) (c : Int) (v : Int) (nm : Int) (h : Int) (rl : Bool) (d : Int) (st : Bool) (hb0 : 0 ≤ b ∧ b ≤ 5) (hu : 0 ≤ u ∧ u ≤ 5) (hc : 0 ≤ c ∧ c ≤ 2) (hv : 0 ≤ v ∧ v ≤ 1000000) (hnm : 0 ≤ nm ∧ nm ≤ 19) (hh : 0 ≤ h ∧ h ≤ 2) (hd : 0 ≤ d ∧ d ≤ 999) (hn : S.1 8 0 < 60) (hwf : wf S) : gM l yX12_comes vX12_comes 1 22 D cy B0 [.ref (ix 100), .int (iI b), .int (iI u), .int (iI c), .int (iI v), .int (iI nm), .int (iI h), .int (iI (bI rl)), .int (iI d), .int (iI (bI st))] (mW cy ix S (mX I aM qM tM) G) (fun r g => r = some (.int (iI (S.1 8 0))) ∧ g = mW cy ix (sCome S b u c v nm h rl d st) (mX I aM qM tM) G) 0 0 := by
  refine g_start (cc := cX12_comes) (maxL := 11) (ret := (some .int)) (by decide) rfl (Nat.le_of_ble_eq_true rfl) ?_
  intro p_ e_ s_ m_ be_ me_ co_ ls H locs K hr hlk hnm hK hW hl
  have hin : ∀ w ∈ wsX120, w ∈ vX12_comes := wsM_cls
  obtain ⟨hx, hb, hml, hown, hts⟩ := id K
  have hl : lv_has ls 11 [(0, .ref (ix 100)), (1, .int (iI (b))), (2, .int (iI (u))), (3, .int (iI (c))), (4, .int (iI (v))), (5, .int (iI (nm))), (6, .int (iI (h))), (7, .int (iI (bI (rl)))), (8, .int (iI (d))), (9, .int (iI (bI (st))))] := hl
  have hrl := bI_01 rl
  have hst := bI_01 st
  have h80 := wf_8 hwf 0
  refine lv_aload_n hx hb dX12_comes_0 rfl (lv_at hl 0 rfl) ?_
  refine mr_get K hK hW hin 8 (by decide) lM_payments (v := .int (iI (S.1 8 (0)))) rfl dX12_comes_1 ?_
  have w_w_1 := wf_8 hwf 0
  refine lv_istore (lv' := [(10, .int (iI (S.1 8 (0)))), (0, .ref (ix 100)), (1, .int (iI (b))), (2, .int (iI (u))), (3, .int (iI (c))), (4, .int (iI (v))), (5, .int (iI (nm))), (6, .int (iI (h))), (7, .int (iI (bI (rl)))), (8, .int (iI (d))), (9, .int (iI (bI (st))))]) hx hb dX12_comes_4 hl (by decide) rfl (fun ls hl => ?_)
  refine lv_aload_n hx hb dX12_comes_6 rfl (lv_at hl 1 rfl) ?_
  refine lv_dup hx hb dX12_comes_7 rfl ?_
  refine mr_get K hK hW hin 8 (by decide) lM_payments (v := .int (iI (S.1 8 (0)))) rfl dX12_comes_8 ?_
  have w_w_2 := wf_8 hwf 0
  refine xi_iconst hx hb dX12_comes_11 ?_
  refine xi_iadd hx hb dX12_comes_12 ?_
  refine mr_put K hK hW hin 8 (by decide) lM_payments rfl rfl (S' := (pI S 8 (0) ((S.1 8 (0)) + 1))) (X' := (mX (I) (aM) (qM) (tM))) rfl (fun i hi => mC_sc rfl hi (by decide)) dX12_comes_13 (fun H locs hW => ?_)
  refine lv_aload_n hx hb dX12_comes_16 rfl (lv_at hl 1 rfl) ?_
  refine mr_get K hK hW hin 9 (by decide) lM_from (v := .ref (ix 109)) rfl dX12_comes_17 ?_
  refine lv_iload hx hb dX12_comes_20 (lv_at hl 0 rfl) ?_
  refine lv_iload_n hx hb dX12_comes_22 rfl (lv_at hl 2 rfl) ?_
  refine mr_iast K hK hW 9 (by decide) rfl (n := 60) rfl rfl ⟨by omega, by omega⟩ dX12_comes_23 (fun H locs hW => ?_)
  refine lv_aload_n hx hb dX12_comes_24 rfl (lv_at hl 1 rfl) ?_
  refine mr_get K hK hW hin 10 (by decide) lM_to (v := .ref (ix 110)) rfl dX12_comes_25 ?_
  refine lv_iload hx hb dX12_comes_28 (lv_at hl 0 rfl) ?_
  refine lv_iload_n hx hb dX12_comes_30 rfl (lv_at hl 3 rfl) ?_
  refine mr_iast K hK hW 10 (by decide) rfl (n := 60) rfl rfl ⟨by omega, by omega⟩ dX12_comes_31 (fun H locs hW => ?_)
  refine lv_aload_n hx hb dX12_comes_32 rfl (lv_at hl 1 rfl) ?_
  refine mr_get K hK hW hin 11 (by decide) lM_currency (v := .ref (ix 111)) rfl dX12_comes_33 ?_
  refine lv_iload hx hb dX12_comes_36 (lv_at hl 0 rfl) ?_
  refine lv_iload_n hx hb dX12_comes_38 rfl (lv_at hl 4 rfl) ?_
  refine mr_iast K hK hW 11 (by decide) rfl (n := 60) rfl rfl ⟨by omega, by omega⟩ dX12_comes_39 (fun H locs hW => ?_)
  refine lv_aload_n hx hb dX12_comes_40 rfl (lv_at hl 1 rfl) ?_
  refine mr_get K hK hW hin 12 (by decide) lM_amount (v := .ref (ix 112)) rfl dX12_comes_41 ?_
  refine lv_iload hx hb dX12_comes_44 (lv_at hl 0 rfl) ?_
  refine lv_iload hx hb dX12_comes_46 (lv_at hl 5 rfl) ?_
  refine mr_iast K hK hW 12 (by decide) rfl (n := 60) rfl rfl ⟨by omega, by omega⟩ dX12_comes_48 (fun H locs hW => ?_)
  refine lv_aload_n hx hb dX12_comes_49 rfl (lv_at hl 1 rfl) ?_
  refine mr_get K hK hW hin 13 (by decide) lM_payee (v := .ref (ix 113)) rfl dX12_comes_50 ?_
  refine lv_iload hx hb dX12_comes_53 (lv_at hl 0 rfl) ?_
  refine lv_iload hx hb dX12_comes_55 (lv_at hl 6 rfl) ?_
  refine mr_iast K hK hW 13 (by decide) rfl (n := 60) rfl rfl ⟨by omega, by omega⟩ dX12_comes_57 (fun H locs hW => ?_)
  refine lv_aload_n hx hb dX12_comes_58 rfl (lv_at hl 1 rfl) ?_
  refine mr_get K hK hW hin 14 (by decide) lM_rank (v := .ref (ix 114)) rfl dX12_comes_59 ?_
  refine lv_iload hx hb dX12_comes_62 (lv_at hl 0 rfl) ?_
  refine lv_iload hx hb dX12_comes_64 (lv_at hl 7 rfl) ?_
  refine mr_iast K hK hW 14 (by decide) rfl (n := 60) rfl rfl ⟨by omega, by omega⟩ dX12_comes_66 (fun H locs hW => ?_)
  refine lv_aload_n hx hb dX12_comes_67 rfl (lv_at hl 1 rfl) ?_
  refine mr_get K hK hW hin 15 (by decide) lM_isReal (v := .ref (ix 115)) rfl dX12_comes_68 ?_
  refine lv_iload hx hb dX12_comes_71 (lv_at hl 0 rfl) ?_
  refine lv_iload hx hb dX12_comes_73 (lv_at hl 8 rfl) ?_
  refine mr_zast K hK hW 15 (by decide) rfl (by decide) (n := 60) rfl rfl ⟨by omega, by omega⟩ (bI_01 _) dX12_comes_75 (fun H locs hW => ?_)
  refine lv_aload_n hx hb dX12_comes_76 rfl (lv_at hl 1 rfl) ?_
  refine mr_get K hK hW hin 16 (by decide) lM_day (v := .ref (ix 116)) rfl dX12_comes_77 ?_
  refine lv_iload hx hb dX12_comes_80 (lv_at hl 0 rfl) ?_
  refine lv_iload hx hb dX12_comes_82 (lv_at hl 9 rfl) ?_
  refine mr_iast K hK hW 16 (by decide) rfl (n := 60) rfl rfl ⟨by omega, by omega⟩ dX12_comes_84 (fun H locs hW => ?_)
  refine lv_aload_n hx hb dX12_comes_85 rfl (lv_at hl 1 rfl) ?_
  refine mr_get K hK hW hin 17 (by decide) lM_stays (v := .ref (ix 117)) rfl dX12_comes_86 ?_
  refine lv_iload hx hb dX12_comes_89 (lv_at hl 0 rfl) ?_
  refine lv_iload hx hb dX12_comes_91 (lv_at hl 10 rfl) ?_
  refine mr_zast K hK hW 17 (by decide) rfl (by decide) (n := 60) rfl rfl ⟨by omega, by omega⟩ (bI_01 _) dX12_comes_93 (fun H locs hW => ?_)
  refine lv_aload_n hx hb dX12_comes_94 rfl (lv_at hl 1 rfl) ?_
  refine mr_get K hK hW hin 20 (by decide) lM_officer (v := .ref (ix 120)) rfl dX12_comes_95 ?_
  refine lv_iload hx hb dX12_comes_98 (lv_at hl 0 rfl) ?_
  refine xi_iconst hx hb dX12_comes_100 ?_
  refine mr_iast K hK hW 20 (by decide) rfl (n := 60) rfl rfl ⟨by omega, by omega⟩ dX12_comes_101 (fun H locs hW => ?_)
  refine lv_aload_n hx hb dX12_comes_102 rfl (lv_at hl 1 rfl) ?_
  refine mr_get K hK hW hin 21 (by decide) lM_leg (v := .ref (ix 121)) rfl dX12_comes_103 ?_
  refine lv_iload hx hb dX12_comes_106 (lv_at hl 0 rfl) ?_
  refine xi_iconst hx hb dX12_comes_108 ?_
  refine mr_iast K hK hW 21 (by decide) rfl (n := 60) rfl rfl ⟨by omega, by omega⟩ dX12_comes_109 (fun H locs hW => ?_)
  refine lv_aload_n hx hb dX12_comes_110 rfl (lv_at hl 1 rfl) ?_
  refine mr_get K hK hW hin 23 (by decide) lM_recalledOn (v := .ref (ix 123)) rfl dX12_comes_111 ?_
  refine lv_iload hx hb dX12_comes_114 (lv_at hl 0 rfl) ?_
  refine xi_iconst hx hb dX12_comes_116 ?_
  refine mr_iast K hK hW 23 (by decide) rfl (n := 60) rfl rfl ⟨by omega, by omega⟩ dX12_comes_117 (fun H locs hW => ?_)
  refine lv_aload_n hx hb dX12_comes_118 rfl (lv_at hl 1 rfl) ?_
  refine mr_get K hK hW hin 18 (by decide) lM_state (v := .ref (ix 118)) rfl dX12_comes_119 ?_
  refine lv_iload hx hb dX12_comes_122 (lv_at hl 0 rfl) ?_
  refine xi_iconst hx hb dX12_comes_124 ?_
  refine mr_iast K hK hW 18 (by decide) rfl (n := 60) rfl rfl ⟨by omega, by omega⟩ dX12_comes_125 (fun H locs hW => ?_)
  refine lv_iload hx hb dX12_comes_126 (lv_at hl 9 rfl) ?_
  refine lv_aload_n hx hb dX12_comes_128 rfl (lv_at hl 1 rfl) ?_
  refine mr_get K hK hW hin 0 (by decide) lM_today (v := .int (iI (S.1 0 (0)))) rfl dX12_comes_129 ?_
  have w_w_3 := wf_0 hwf 0
  refine xi_icmp_gt (tgt := 153) hx hb ⟨by omega, by omega⟩ ⟨by omega, by omega⟩ dX12_comes_132 (by decide) (fun c_4 => ?_) (fun c_4 => ?_)
  · refine lv_iload hx hb dX12_comes_153 (lv_at hl 0 rfl) ?_
    exact g_iret hx hb hr hW ⟨rfl, by unfold sCome; rw [mW_gCome, if_neg (by simp only [c_4, Int.not_le.mpr c_4, decide_true, decide_false, Bool.true_and, Bool.and_true, Bool.false_and, Bool.and_false, Bool.true_or, Bool.or_true, Bool.false_or, Bool.or_false, Bool.not_true, Bool.not_false, eq_self, if_true, if_false, ite_true, ite_false, Bool.false_eq_true, reduceCtorEq, not_false_eq_true])]; rfl⟩ dX12_comes_155 hlk
  · refine lv_aload_n hx hb dX12_comes_135 rfl (lv_at hl 1 rfl) ?_
    refine lv_iload_n hx hb dX12_comes_136 rfl (lv_at hl 4 rfl) ?_
    refine lv_aload_n hx hb dX12_comes_137 rfl (lv_at hl 1 rfl) ?_
    refine mr_get K hK hW hin 0 (by decide) lM_today (v := .int (iI (S.1 0 (0)))) rfl dX12_comes_138 ?_
    have w_w_5 := wf_0 hwf 0
    refine g_callV (i := 0) (As := [.int (iI (c)), .int (iI (S.1 0 (0)))]) (rest := []) K (c_M_isOpen (c) (S.1 0 (0)) ⟨by omega, by omega⟩ ⟨by omega, by omega⟩ (wf_pI (f := 18) (wf_pI (f := 23) (wf_pI (f := 21) (wf_pI (f := 20) (wf_pI (f := 17) (wf_pI (f := 16) (wf_pI (f := 15) (wf_pI (f := 14) (wf_pI (f := 13) (wf_pI (f := 12) (wf_pI (f := 11) (wf_pI (f := 10) (wf_pI (f := 9) (wf_pI (f := 8) hwf (0) ((S.1 8 (0)) + 1) (by simp only [rLo, rHi]; omega)) (S.1 8 (0)) (b) (by simp only [rLo, rHi]; omega)) (S.1 8 (0)) (u) (by simp only [rLo, rHi]; omega)) (S.1 8 (0)) (c) (by simp only [rLo, rHi]; omega)) (S.1 8 (0)) (v) (by simp only [rLo, rHi]; omega)) (S.1 8 (0)) (nm) (by simp only [rLo, rHi]; omega)) (S.1 8 (0)) (h) (by simp only [rLo, rHi]; omega)) (S.1 8 (0)) (bI (rl)) (by simp only [rLo, rHi]; omega)) (S.1 8 (0)) (d) (by simp only [rLo, rHi]; omega)) (S.1 8 (0)) (bI (st)) (by simp only [rLo, rHi]; omega)) (S.1 8 (0)) ((-1)) (by simp only [rLo, rHi]; omega)) (S.1 8 (0)) ((-1)) (by simp only [rLo, rHi]; omega)) (S.1 8 (0)) ((-1)) (by simp only [rLo, rHi]; omega)) (S.1 8 (0)) (0) (by simp only [rLo, rHi]; omega))) (cwV 2 hts gM_X12_isOpen rfl rfl rfl (by decide +kernel) ⟨Nat.le_of_ble_eq_true rfl, Nat.le_of_ble_eq_true rfl⟩) hK hW (mW_0 _ _ _ _ _) rfl rfl hl.1 rfl (Nat.le_of_ble_eq_true rfl) dX12_comes_141 ⟨Nat.le_refl _, Nat.le_refl _⟩ (fun v_ f_ H locs hp hW => ?_)
    obtain ⟨hpv, hpe⟩ := hp
    rw [hpe] at hW
    have hpv : v_ = some (.int (iI (bI (sOpen S (c) (S.1 0 (0)))))) := hpv
    subst hpv
    refine xi_ifb_eq (tgt := 153) hx hb dX12_comes_144 (by decide) (fun c_6 => ?_) (fun c_6 => ?_)
    · refine lv_iload hx hb dX12_comes_153 (lv_at hl 0 rfl) ?_
      exact g_iret hx hb hr hW ⟨rfl, by unfold sCome; rw [mW_gCome, if_neg (by simp only [c_4, Int.not_lt.mpr c_4, c_6, decide_true, decide_false, Bool.true_and, Bool.and_true, Bool.false_and, Bool.and_false, Bool.true_or, Bool.or_true, Bool.false_or, Bool.or_false, Bool.not_true, Bool.not_false, eq_self, if_true, if_false, ite_true, ite_false, Bool.false_eq_true, reduceCtorEq, not_false_eq_true])]; rfl⟩ dX12_comes_155 hlk
    · refine lv_aload_n hx hb dX12_comes_147 rfl (lv_at hl 1 rfl) ?_
      refine lv_iload hx hb dX12_comes_148 (lv_at hl 0 rfl) ?_
      refine g_callV (i := 0) (As := [.int (iI (S.1 8 (0)))]) (rest := []) K (c_M_enters (S.1 8 (0)) ⟨by omega, by omega⟩ (wf_pI (f := 18) (wf_pI (f := 23) (wf_pI (f := 21) (wf_pI (f := 20) (wf_pI (f := 17) (wf_pI (f := 16) (wf_pI (f := 15) (wf_pI (f := 14) (wf_pI (f := 13) (wf_pI (f := 12) (wf_pI (f := 11) (wf_pI (f := 10) (wf_pI (f := 9) (wf_pI (f := 8) hwf (0) ((S.1 8 (0)) + 1) (by simp only [rLo, rHi]; omega)) (S.1 8 (0)) (b) (by simp only [rLo, rHi]; omega)) (S.1 8 (0)) (u) (by simp only [rLo, rHi]; omega)) (S.1 8 (0)) (c) (by simp only [rLo, rHi]; omega)) (S.1 8 (0)) (v) (by simp only [rLo, rHi]; omega)) (S.1 8 (0)) (nm) (by simp only [rLo, rHi]; omega)) (S.1 8 (0)) (h) (by simp only [rLo, rHi]; omega)) (S.1 8 (0)) (bI (rl)) (by simp only [rLo, rHi]; omega)) (S.1 8 (0)) (d) (by simp only [rLo, rHi]; omega)) (S.1 8 (0)) (bI (st)) (by simp only [rLo, rHi]; omega)) (S.1 8 (0)) ((-1)) (by simp only [rLo, rHi]; omega)) (S.1 8 (0)) ((-1)) (by simp only [rLo, rHi]; omega)) (S.1 8 (0)) ((-1)) (by simp only [rLo, rHi]; omega)) (S.1 8 (0)) (0) (by simp only [rLo, rHi]; omega))) (cwV 1 hts gM_X12_enters rfl rfl rfl (by decide +kernel) ⟨Nat.le_of_ble_eq_true rfl, Nat.le_of_ble_eq_true rfl⟩) hK hW (mW_0 _ _ _ _ _) rfl rfl hl.1 rfl (Nat.le_of_ble_eq_true rfl) dX12_comes_150 ⟨Nat.le_refl _, Nat.le_refl _⟩ (fun v_ f_ H locs hp hW => ?_)
      obtain ⟨hpv, hpe⟩ := hp
      rw [hpe] at hW
      subst hpv
      refine lv_iload hx hb dX12_comes_153 (lv_at hl 0 rfl) ?_
      exact g_iret hx hb hr hW ⟨rfl, by unfold sCome; rw [mW_gCome, if_pos (by simp only [c_4, Int.not_lt.mpr c_4, c_6, decide_true, decide_false, Bool.true_and, Bool.and_true, Bool.false_and, Bool.and_false, Bool.true_or, Bool.or_true, Bool.false_or, Bool.or_false, Bool.not_true, Bool.not_false, eq_self, if_true, if_false, ite_true, ite_false, Bool.false_eq_true, reduceCtorEq, not_false_eq_true])]; rfl⟩ dX12_comes_155 hlk
set_option maxHeartbeats 4000000 in
set_option maxRecDepth 100000 in
theorem c_M_isAlike {l : Launch} {D : va_G} {cy : Nat → ClassId} {B0 : Nat} {ix : Nat → Nat} {S : ST} {I : Int → Bool} {aM qM : Int → Int64} {tM : Int} {G : gF} (k : Int) (u : Int) (c : Int) (v : Int) (nm : Int) (h : Int) (rl : Bool) (d : Int) (st : Bool) (hk : 0 ≤ k ∧ k ≤ 59) (hu : rI u) (hc : rI c) (hv : rI v) (hnm : rI nm) (hh : rI h) (hd : rI d) (hwf : wf S) : gM l yX12_isAlike vX12_isAlike 0 0 D cy B0 [.ref (ix 100), .int (iI k), .int (iI u), .int (iI c), .int (iI v), .int (iI nm), .int (iI h), .int (iI (bI rl)), .int (iI d), .int (iI (bI st))] (mW cy ix S (mX I aM qM tM) G) (fun r g => r = some (.int (iI (bI (sAlk S k u c v nm h rl d st)))) ∧ g = mW cy ix S (mX I aM qM tM) G) 0 0 := by
  refine g_start (cc := cX12_isAlike) (maxL := 10) (ret := (some .boolean)) (by decide) rfl (Nat.le_of_ble_eq_true rfl) ?_
  intro p_ e_ s_ m_ be_ me_ co_ ls H locs K hr hlk hnm hK hW hl
  have hin : ∀ w ∈ wsX120, w ∈ vX12_isAlike := wsM_cls
  obtain ⟨hx, hb, hml, hown, hts⟩ := id K
  have hl : lv_has ls 10 [(0, .ref (ix 100)), (1, .int (iI (k))), (2, .int (iI (u))), (3, .int (iI (c))), (4, .int (iI (v))), (5, .int (iI (nm))), (6, .int (iI (h))), (7, .int (iI (bI (rl)))), (8, .int (iI (d))), (9, .int (iI (bI (st))))] := hl
  refine lv_aload_n hx hb dX12_isAlike_0 rfl (lv_at hl 0 rfl) ?_
  refine mr_get K hK hW hin 10 (by decide) lM_to (v := .ref (ix 110)) rfl dX12_isAlike_1 ?_
  refine lv_iload_n hx hb dX12_isAlike_4 rfl (lv_at hl 1 rfl) ?_
  refine mr_iald K hK hW 10 (by decide) rfl (n := 60) rfl rfl ⟨by omega, by omega⟩ (v := S.1 10 (k)) rfl dX12_isAlike_5 ?_
  have w_1 := wf_10 hwf (k)
  refine lv_iload_n hx hb dX12_isAlike_6 rfl (lv_at hl 2 rfl) ?_
  refine xi_icmp_ne (tgt := 90) hx hb ⟨by omega, by omega⟩ ⟨by omega, by omega⟩ dX12_isAlike_7 (by decide) (fun c_2 => ?_) (fun c_2 => ?_)
  · refine xi_iconst hx hb dX12_isAlike_90 ?_
    exact g_zret hx hb hr (Or.inl rfl) hW ⟨congrArg (fun z => some (Value.int (iI z))) (bI_f (by simp only [sAlk, c_2, decide_true, decide_false, Bool.true_and, Bool.and_true, Bool.false_and, Bool.and_false, Bool.true_or, Bool.or_true, Bool.false_or, Bool.or_false, Bool.not_true, Bool.not_false, eq_self])), rfl⟩ dX12_isAlike_91 hlk
  · refine lv_aload_n hx hb dX12_isAlike_10 rfl (lv_at hl 0 rfl) ?_
    refine mr_get K hK hW hin 11 (by decide) lM_currency (v := .ref (ix 111)) rfl dX12_isAlike_11 ?_
    refine lv_iload_n hx hb dX12_isAlike_14 rfl (lv_at hl 1 rfl) ?_
    refine mr_iald K hK hW 11 (by decide) rfl (n := 60) rfl rfl ⟨by omega, by omega⟩ (v := S.1 11 (k)) rfl dX12_isAlike_15 ?_
    have w_3 := wf_11 hwf (k)
    refine lv_iload_n hx hb dX12_isAlike_16 rfl (lv_at hl 3 rfl) ?_
    refine xi_icmp_ne (tgt := 90) hx hb ⟨by omega, by omega⟩ ⟨by omega, by omega⟩ dX12_isAlike_17 (by decide) (fun c_4 => ?_) (fun c_4 => ?_)
    · refine xi_iconst hx hb dX12_isAlike_90 ?_
      exact g_zret hx hb hr (Or.inl rfl) hW ⟨congrArg (fun z => some (Value.int (iI z))) (bI_f (by simp only [sAlk, c_2, c_4, decide_true, decide_false, Bool.true_and, Bool.and_true, Bool.false_and, Bool.and_false, Bool.true_or, Bool.or_true, Bool.false_or, Bool.or_false, Bool.not_true, Bool.not_false, eq_self])), rfl⟩ dX12_isAlike_91 hlk
    · refine lv_aload_n hx hb dX12_isAlike_20 rfl (lv_at hl 0 rfl) ?_
      refine mr_get K hK hW hin 12 (by decide) lM_amount (v := .ref (ix 112)) rfl dX12_isAlike_21 ?_
      refine lv_iload_n hx hb dX12_isAlike_24 rfl (lv_at hl 1 rfl) ?_
      refine mr_iald K hK hW 12 (by decide) rfl (n := 60) rfl rfl ⟨by omega, by omega⟩ (v := S.1 12 (k)) rfl dX12_isAlike_25 ?_
      have w_5 := wf_12 hwf (k)
      refine lv_iload hx hb dX12_isAlike_26 (lv_at hl 4 rfl) ?_
      refine xi_icmp_ne (tgt := 90) hx hb ⟨by omega, by omega⟩ ⟨by omega, by omega⟩ dX12_isAlike_28 (by decide) (fun c_6 => ?_) (fun c_6 => ?_)
      · refine xi_iconst hx hb dX12_isAlike_90 ?_
        exact g_zret hx hb hr (Or.inl rfl) hW ⟨congrArg (fun z => some (Value.int (iI z))) (bI_f (by simp only [sAlk, c_2, c_4, c_6, decide_true, decide_false, Bool.true_and, Bool.and_true, Bool.false_and, Bool.and_false, Bool.true_or, Bool.or_true, Bool.false_or, Bool.or_false, Bool.not_true, Bool.not_false, eq_self])), rfl⟩ dX12_isAlike_91 hlk
      · refine lv_aload_n hx hb dX12_isAlike_31 rfl (lv_at hl 0 rfl) ?_
        refine mr_get K hK hW hin 13 (by decide) lM_payee (v := .ref (ix 113)) rfl dX12_isAlike_32 ?_
        refine lv_iload_n hx hb dX12_isAlike_35 rfl (lv_at hl 1 rfl) ?_
        refine mr_iald K hK hW 13 (by decide) rfl (n := 60) rfl rfl ⟨by omega, by omega⟩ (v := S.1 13 (k)) rfl dX12_isAlike_36 ?_
        have w_7 := wf_13 hwf (k)
        refine lv_iload hx hb dX12_isAlike_37 (lv_at hl 5 rfl) ?_
        refine xi_icmp_ne (tgt := 90) hx hb ⟨by omega, by omega⟩ ⟨by omega, by omega⟩ dX12_isAlike_39 (by decide) (fun c_8 => ?_) (fun c_8 => ?_)
        · refine xi_iconst hx hb dX12_isAlike_90 ?_
          exact g_zret hx hb hr (Or.inl rfl) hW ⟨congrArg (fun z => some (Value.int (iI z))) (bI_f (by simp only [sAlk, c_2, c_4, c_6, c_8, decide_true, decide_false, Bool.true_and, Bool.and_true, Bool.false_and, Bool.and_false, Bool.true_or, Bool.or_true, Bool.false_or, Bool.or_false, Bool.not_true, Bool.not_false, eq_self])), rfl⟩ dX12_isAlike_91 hlk
        · refine lv_aload_n hx hb dX12_isAlike_42 rfl (lv_at hl 0 rfl) ?_
          refine mr_get K hK hW hin 14 (by decide) lM_rank (v := .ref (ix 114)) rfl dX12_isAlike_43 ?_
          refine lv_iload_n hx hb dX12_isAlike_46 rfl (lv_at hl 1 rfl) ?_
          refine mr_iald K hK hW 14 (by decide) rfl (n := 60) rfl rfl ⟨by omega, by omega⟩ (v := S.1 14 (k)) rfl dX12_isAlike_47 ?_
          have w_9 := wf_14 hwf (k)
          refine lv_iload hx hb dX12_isAlike_48 (lv_at hl 6 rfl) ?_
          refine xi_icmp_ne (tgt := 90) hx hb ⟨by omega, by omega⟩ ⟨by omega, by omega⟩ dX12_isAlike_50 (by decide) (fun c_10 => ?_) (fun c_10 => ?_)
          · refine xi_iconst hx hb dX12_isAlike_90 ?_
            exact g_zret hx hb hr (Or.inl rfl) hW ⟨congrArg (fun z => some (Value.int (iI z))) (bI_f (by simp only [sAlk, c_2, c_4, c_6, c_8, c_10, decide_true, decide_false, Bool.true_and, Bool.and_true, Bool.false_and, Bool.and_false, Bool.true_or, Bool.or_true, Bool.false_or, Bool.or_false, Bool.not_true, Bool.not_false, eq_self])), rfl⟩ dX12_isAlike_91 hlk
          · refine lv_aload_n hx hb dX12_isAlike_53 rfl (lv_at hl 0 rfl) ?_
            refine mr_get K hK hW hin 15 (by decide) lM_isReal (v := .ref (ix 115)) rfl dX12_isAlike_54 ?_
            refine lv_iload_n hx hb dX12_isAlike_57 rfl (lv_at hl 1 rfl) ?_
            refine mr_zald K hK hW 15 (by decide) rfl (n := 60) rfl rfl ⟨by omega, by omega⟩ (v := S.1 15 (k)) rfl dX12_isAlike_58 ?_
            have w_11 := wf_15 hwf (k)
            refine lv_iload hx hb dX12_isAlike_59 (lv_at hl 7 rfl) ?_
            refine xi_icmp_ne (tgt := 90) hx hb ⟨by omega, by omega⟩ (bI_r _) dX12_isAlike_61 (by decide) (fun c_12 => ?_) (fun c_12 => ?_)
            · refine xi_iconst hx hb dX12_isAlike_90 ?_
              exact g_zret hx hb hr (Or.inl rfl) hW ⟨congrArg (fun z => some (Value.int (iI z))) (bI_f (by simp only [sAlk, c_2, c_4, c_6, c_8, c_10, c_12, decide_true, decide_false, Bool.true_and, Bool.and_true, Bool.false_and, Bool.and_false, Bool.true_or, Bool.or_true, Bool.false_or, Bool.or_false, Bool.not_true, Bool.not_false, eq_self])), rfl⟩ dX12_isAlike_91 hlk
            · refine lv_aload_n hx hb dX12_isAlike_64 rfl (lv_at hl 0 rfl) ?_
              refine mr_get K hK hW hin 16 (by decide) lM_day (v := .ref (ix 116)) rfl dX12_isAlike_65 ?_
              refine lv_iload_n hx hb dX12_isAlike_68 rfl (lv_at hl 1 rfl) ?_
              refine mr_iald K hK hW 16 (by decide) rfl (n := 60) rfl rfl ⟨by omega, by omega⟩ (v := S.1 16 (k)) rfl dX12_isAlike_69 ?_
              have w_13 := wf_16 hwf (k)
              refine lv_iload hx hb dX12_isAlike_70 (lv_at hl 8 rfl) ?_
              refine xi_icmp_ne (tgt := 90) hx hb ⟨by omega, by omega⟩ ⟨by omega, by omega⟩ dX12_isAlike_72 (by decide) (fun c_14 => ?_) (fun c_14 => ?_)
              · refine xi_iconst hx hb dX12_isAlike_90 ?_
                exact g_zret hx hb hr (Or.inl rfl) hW ⟨congrArg (fun z => some (Value.int (iI z))) (bI_f (by simp only [sAlk, c_2, c_4, c_6, c_8, c_10, c_12, c_14, decide_true, decide_false, Bool.true_and, Bool.and_true, Bool.false_and, Bool.and_false, Bool.true_or, Bool.or_true, Bool.false_or, Bool.or_false, Bool.not_true, Bool.not_false, eq_self])), rfl⟩ dX12_isAlike_91 hlk
              · refine lv_aload_n hx hb dX12_isAlike_75 rfl (lv_at hl 0 rfl) ?_
                refine mr_get K hK hW hin 17 (by decide) lM_stays (v := .ref (ix 117)) rfl dX12_isAlike_76 ?_
                refine lv_iload_n hx hb dX12_isAlike_79 rfl (lv_at hl 1 rfl) ?_
                refine mr_zald K hK hW 17 (by decide) rfl (n := 60) rfl rfl ⟨by omega, by omega⟩ (v := S.1 17 (k)) rfl dX12_isAlike_80 ?_
                have w_15 := wf_17 hwf (k)
                refine lv_iload hx hb dX12_isAlike_81 (lv_at hl 9 rfl) ?_
                refine xi_icmp_ne (tgt := 90) hx hb ⟨by omega, by omega⟩ (bI_r _) dX12_isAlike_83 (by decide) (fun c_16 => ?_) (fun c_16 => ?_)
                · refine xi_iconst hx hb dX12_isAlike_90 ?_
                  exact g_zret hx hb hr (Or.inl rfl) hW ⟨congrArg (fun z => some (Value.int (iI z))) (bI_f (by simp only [sAlk, c_2, c_4, c_6, c_8, c_10, c_12, c_14, c_16, decide_true, decide_false, Bool.true_and, Bool.and_true, Bool.false_and, Bool.and_false, Bool.true_or, Bool.or_true, Bool.false_or, Bool.or_false, Bool.not_true, Bool.not_false, eq_self])), rfl⟩ dX12_isAlike_91 hlk
                · refine xi_iconst hx hb dX12_isAlike_86 ?_
                  refine lv_goto (tgt := 91) hx hb dX12_isAlike_87 (by decide) ?_
                  exact g_zret hx hb hr (Or.inr rfl) hW ⟨congrArg (fun z => some (Value.int (iI z))) (bI_t (by simp only [sAlk, c_2, c_4, c_6, c_8, c_10, c_12, c_14, c_16, decide_true, decide_false, Bool.true_and, Bool.and_true, Bool.false_and, Bool.and_false, Bool.true_or, Bool.or_true, Bool.false_or, Bool.or_false, Bool.not_true, Bool.not_false, eq_self])), rfl⟩ dX12_isAlike_91 hlk
set_option maxHeartbeats 4000000 in
set_option maxRecDepth 100000 in
theorem c_M_canJoin {l : Launch} {D : va_G} {cy : Nat → ClassId} {B0 : Nat} {ix : Nat → Nat} {S : ST} {I : Int → Bool} {aM qM : Int → Int64} {tM : Int} {G : gF} (k : Int) (u : Int) (hk : 0 ≤ k ∧ k ≤ 59) (hu : 0 ≤ u ∧ u ≤ 59) (hwf : wf S) : gM l yX12_canJoin vX12_canJoin 1 21 D cy B0 [.ref (ix 100), .int (iI k), .int (iI u)] (mW cy ix S (mX I aM qM tM) G) (fun r g => r = some (.int (iI (bI (sJoin S k u)))) ∧ g = mW cy ix S (mX I aM qM tM) G) 0 0 := by
  refine g_start (cc := cX12_canJoin) (maxL := 4) (ret := (some .boolean)) (by decide) rfl (Nat.le_of_ble_eq_true rfl) ?_
  intro p_ e_ s_ m_ be_ me_ co_ ls H locs K hr hlk hnm hK hW hl
  have hin : ∀ w ∈ wsX120, w ∈ vX12_canJoin := wsM_cls
  obtain ⟨hx, hb, hml, hown, hts⟩ := id K
  have hl : lv_has ls 4 [(0, .ref (ix 100)), (1, .int (iI (k))), (2, .int (iI (u)))] := hl
  have j_1 : ∀ (z : Bool) (H : Heap) (locs : List Loc), z = (sJ1 S k u) → gW D B0 s_.heap (mW cy ix S (mX (I) (aM) (qM) (tM)) G) H locs → W p_ l e_ { frames := 1, cells := 0, slots := 0, locals := 21 } s_ m_ ([.ref (ix 100), .int (iI k), .int (iI u)] : List Value).toArray be_ me_ co_ H locs 0 0 (MQ be_ (gQ D B0 (fun (r : Option Value) (g : gF) => r = some (.int (iI (bI (sJoin S k u)))) ∧ g = mW cy ix S (mX I aM qM tM) G)) ([.ref (ix 100), .int (iI k), .int (iI u)] : List Value).toArray s_ 0 0 (fun q : Nat => B0 ≤ q)) (F0 m_ 59 ls [.int (iI (bI (z)))]) := by
    intro z H locs hz hW
    subst hz
    refine lv_istore_n (lv' := [(3, .int (iI (bI (sJ1 S k u)))), (0, .ref (ix 100)), (1, .int (iI (k))), (2, .int (iI (u)))]) hx hb dX12_canJoin_59 rfl hl (by decide) rfl (fun ls hl => ?_)
    refine lv_iload_n hx hb dX12_canJoin_60 rfl (lv_at hl 0 rfl) ?_
    refine xi_ifb_eq (tgt := 118) hx hb dX12_canJoin_61 (by decide) (fun c_2 => ?_) (fun c_2 => ?_)
    · refine xi_iconst hx hb dX12_canJoin_118 ?_
      exact g_zret hx hb hr (Or.inl rfl) hW ⟨congrArg (fun z => some (Value.int (iI z))) (bI_f (by simp only [sJoin, c_2, decide_true, decide_false, Bool.true_and, Bool.and_true, Bool.false_and, Bool.and_false, Bool.true_or, Bool.or_true, Bool.false_or, Bool.or_false, Bool.not_true, Bool.not_false, eq_self])), rfl⟩ dX12_canJoin_119 hlk
    · refine lv_aload_n hx hb dX12_canJoin_64 rfl (lv_at hl 1 rfl) ?_
      refine mr_get K hK hW hin 9 (by decide) lM_from (v := .ref (ix 109)) rfl dX12_canJoin_65 ?_
      refine lv_iload_n hx hb dX12_canJoin_68 rfl (lv_at hl 2 rfl) ?_
      refine mr_iald K hK hW 9 (by decide) rfl (n := 60) rfl rfl ⟨by omega, by omega⟩ (v := S.1 9 (k)) rfl dX12_canJoin_69 ?_
      have w_3 := wf_9 hwf (k)
      refine lv_aload_n hx hb dX12_canJoin_70 rfl (lv_at hl 1 rfl) ?_
      refine mr_get K hK hW hin 10 (by decide) lM_to (v := .ref (ix 110)) rfl dX12_canJoin_71 ?_
      refine lv_iload_n hx hb dX12_canJoin_74 rfl (lv_at hl 3 rfl) ?_
      refine mr_iald K hK hW 10 (by decide) rfl (n := 60) rfl rfl ⟨by omega, by omega⟩ (v := S.1 10 (u)) rfl dX12_canJoin_75 ?_
      have w_4 := wf_10 hwf (u)
      refine xi_icmp_ne (tgt := 118) hx hb ⟨by omega, by omega⟩ ⟨by omega, by omega⟩ dX12_canJoin_76 (by decide) (fun c_5 => ?_) (fun c_5 => ?_)
      · refine xi_iconst hx hb dX12_canJoin_118 ?_
        exact g_zret hx hb hr (Or.inl rfl) hW ⟨congrArg (fun z => some (Value.int (iI z))) (bI_f (by simp only [sJoin, c_2, c_5, decide_true, decide_false, Bool.true_and, Bool.and_true, Bool.false_and, Bool.and_false, Bool.true_or, Bool.or_true, Bool.false_or, Bool.or_false, Bool.not_true, Bool.not_false, eq_self])), rfl⟩ dX12_canJoin_119 hlk
      · refine lv_aload_n hx hb dX12_canJoin_79 rfl (lv_at hl 1 rfl) ?_
        refine mr_get K hK hW hin 10 (by decide) lM_to (v := .ref (ix 110)) rfl dX12_canJoin_80 ?_
        refine lv_iload_n hx hb dX12_canJoin_83 rfl (lv_at hl 2 rfl) ?_
        refine mr_iald K hK hW 10 (by decide) rfl (n := 60) rfl rfl ⟨by omega, by omega⟩ (v := S.1 10 (k)) rfl dX12_canJoin_84 ?_
        have w_6 := wf_10 hwf (k)
        refine lv_aload_n hx hb dX12_canJoin_85 rfl (lv_at hl 1 rfl) ?_
        refine mr_get K hK hW hin 9 (by decide) lM_from (v := .ref (ix 109)) rfl dX12_canJoin_86 ?_
        refine lv_iload_n hx hb dX12_canJoin_89 rfl (lv_at hl 3 rfl) ?_
        refine mr_iald K hK hW 9 (by decide) rfl (n := 60) rfl rfl ⟨by omega, by omega⟩ (v := S.1 9 (u)) rfl dX12_canJoin_90 ?_
        have w_7 := wf_9 hwf (u)
        refine xi_icmp_ne (tgt := 118) hx hb ⟨by omega, by omega⟩ ⟨by omega, by omega⟩ dX12_canJoin_91 (by decide) (fun c_8 => ?_) (fun c_8 => ?_)
        · refine xi_iconst hx hb dX12_canJoin_118 ?_
          exact g_zret hx hb hr (Or.inl rfl) hW ⟨congrArg (fun z => some (Value.int (iI z))) (bI_f (by simp only [sJoin, c_2, c_5, c_8, decide_true, decide_false, Bool.true_and, Bool.and_true, Bool.false_and, Bool.and_false, Bool.true_or, Bool.or_true, Bool.false_or, Bool.or_false, Bool.not_true, Bool.not_false, eq_self])), rfl⟩ dX12_canJoin_119 hlk
        · refine lv_aload_n hx hb dX12_canJoin_94 rfl (lv_at hl 1 rfl) ?_
          refine mr_get K hK hW hin 21 (by decide) lM_leg (v := .ref (ix 121)) rfl dX12_canJoin_95 ?_
          refine lv_iload_n hx hb dX12_canJoin_98 rfl (lv_at hl 2 rfl) ?_
          refine mr_iald K hK hW 21 (by decide) rfl (n := 60) rfl rfl ⟨by omega, by omega⟩ (v := S.1 21 (k)) rfl dX12_canJoin_99 ?_
          have w_9 := wf_21 hwf (k)
          refine xi_iconst hx hb dX12_canJoin_100 ?_
          refine xi_icmp_ne (tgt := 118) hx hb ⟨by omega, by omega⟩ ⟨by omega, by omega⟩ dX12_canJoin_101 (by decide) (fun c_10 => ?_) (fun c_10 => ?_)
          · refine xi_iconst hx hb dX12_canJoin_118 ?_
            exact g_zret hx hb hr (Or.inl rfl) hW ⟨congrArg (fun z => some (Value.int (iI z))) (bI_f (by simp only [sJoin, c_2, c_5, c_8, c_10, decide_true, decide_false, Bool.true_and, Bool.and_true, Bool.false_and, Bool.and_false, Bool.true_or, Bool.or_true, Bool.false_or, Bool.or_false, Bool.not_true, Bool.not_false, eq_self])), rfl⟩ dX12_canJoin_119 hlk
          · refine lv_aload_n hx hb dX12_canJoin_104 rfl (lv_at hl 1 rfl) ?_
            refine mr_get K hK hW hin 21 (by decide) lM_leg (v := .ref (ix 121)) rfl dX12_canJoin_105 ?_
            refine lv_iload_n hx hb dX12_canJoin_108 rfl (lv_at hl 3 rfl) ?_
            refine mr_iald K hK hW 21 (by decide) rfl (n := 60) rfl rfl ⟨by omega, by omega⟩ (v := S.1 21 (u)) rfl dX12_canJoin_109 ?_
            have w_11 := wf_21 hwf (u)
            refine xi_iconst hx hb dX12_canJoin_110 ?_
            refine xi_icmp_ne (tgt := 118) hx hb ⟨by omega, by omega⟩ ⟨by omega, by omega⟩ dX12_canJoin_111 (by decide) (fun c_12 => ?_) (fun c_12 => ?_)
            · refine xi_iconst hx hb dX12_canJoin_118 ?_
              exact g_zret hx hb hr (Or.inl rfl) hW ⟨congrArg (fun z => some (Value.int (iI z))) (bI_f (by simp only [sJoin, c_2, c_5, c_8, c_10, c_12, decide_true, decide_false, Bool.true_and, Bool.and_true, Bool.false_and, Bool.and_false, Bool.true_or, Bool.or_true, Bool.false_or, Bool.or_false, Bool.not_true, Bool.not_false, eq_self])), rfl⟩ dX12_canJoin_119 hlk
            · refine xi_iconst hx hb dX12_canJoin_114 ?_
              refine lv_goto (tgt := 119) hx hb dX12_canJoin_115 (by decide) ?_
              exact g_zret hx hb hr (Or.inr rfl) hW ⟨congrArg (fun z => some (Value.int (iI z))) (bI_t (by simp only [sJoin, c_2, c_5, c_8, c_10, c_12, decide_true, decide_false, Bool.true_and, Bool.and_true, Bool.false_and, Bool.and_false, Bool.true_or, Bool.or_true, Bool.false_or, Bool.or_false, Bool.not_true, Bool.not_false, eq_self])), rfl⟩ dX12_canJoin_119 hlk
  refine lv_iload_n hx hb dX12_canJoin_0 rfl (lv_at hl 1 rfl) ?_
  refine lv_iload_n hx hb dX12_canJoin_1 rfl (lv_at hl 2 rfl) ?_
  refine xi_icmp_eq (tgt := 58) hx hb ⟨by omega, by omega⟩ ⟨by omega, by omega⟩ dX12_canJoin_2 (by decide) (fun c_13 => ?_) (fun c_13 => ?_)
  · refine xi_iconst hx hb dX12_canJoin_58 ?_
    exact xi_eq (bI_f (by simp only [sJ1, c_13, decide_true, decide_false, Bool.true_and, Bool.and_true, Bool.false_and, Bool.and_false, Bool.true_or, Bool.or_true, Bool.false_or, Bool.or_false, Bool.not_true, Bool.not_false, eq_self])) (j_1 _ _ _ rfl hW)
  · refine lv_aload_n hx hb dX12_canJoin_5 rfl (lv_at hl 0 rfl) ?_
    refine lv_iload_n hx hb dX12_canJoin_6 rfl (lv_at hl 1 rfl) ?_
    refine g_callV (i := 0) (As := [.int (iI (k))]) (rest := []) K (c_M_ends (k) ⟨by omega, by omega⟩ hwf) (cwV 1 hts gM_X12_ends rfl rfl rfl (by decide +kernel) ⟨Nat.le_of_ble_eq_true rfl, Nat.le_of_ble_eq_true rfl⟩) hK hW (mW_0 _ _ _ _ _) rfl rfl hl.1 rfl (Nat.le_of_ble_eq_true rfl) dX12_canJoin_7 ⟨Nat.le_refl _, Nat.le_refl _⟩ (fun v_ f_ H locs hp hW => ?_)
    obtain ⟨hpv, hpe⟩ := hp
    rw [hpe] at hW
    have hpv : v_ = some (.int (iI (bI (sEnds S (k))))) := hpv
    subst hpv
    refine xi_ifb_ne (tgt := 58) hx hb dX12_canJoin_10 (by decide) (fun c_14 => ?_) (fun c_14 => ?_)
    · refine xi_iconst hx hb dX12_canJoin_58 ?_
      exact xi_eq (bI_f (by simp only [sJ1, c_13, c_14, decide_true, decide_false, Bool.true_and, Bool.and_true, Bool.false_and, Bool.and_false, Bool.true_or, Bool.or_true, Bool.false_or, Bool.or_false, Bool.not_true, Bool.not_false, eq_self])) (j_1 _ _ _ rfl hW)
    · refine lv_aload_n hx hb dX12_canJoin_13 rfl (lv_at hl 0 rfl) ?_
      refine lv_iload_n hx hb dX12_canJoin_14 rfl (lv_at hl 2 rfl) ?_
      refine g_callV (i := 0) (As := [.int (iI (u))]) (rest := []) K (c_M_ends (u) ⟨by omega, by omega⟩ hwf) (cwV 1 hts gM_X12_ends rfl rfl rfl (by decide +kernel) ⟨Nat.le_of_ble_eq_true rfl, Nat.le_of_ble_eq_true rfl⟩) hK hW (mW_0 _ _ _ _ _) rfl rfl hl.1 rfl (Nat.le_of_ble_eq_true rfl) dX12_canJoin_15 ⟨Nat.le_refl _, Nat.le_refl _⟩ (fun v_ f_ H locs hp hW => ?_)
      obtain ⟨hpv, hpe⟩ := hp
      rw [hpe] at hW
      have hpv : v_ = some (.int (iI (bI (sEnds S (u))))) := hpv
      subst hpv
      refine xi_ifb_ne (tgt := 58) hx hb dX12_canJoin_18 (by decide) (fun c_15 => ?_) (fun c_15 => ?_)
      · refine xi_iconst hx hb dX12_canJoin_58 ?_
        exact xi_eq (bI_f (by simp only [sJ1, c_13, c_14, c_15, decide_true, decide_false, Bool.true_and, Bool.and_true, Bool.false_and, Bool.and_false, Bool.true_or, Bool.or_true, Bool.false_or, Bool.or_false, Bool.not_true, Bool.not_false, eq_self])) (j_1 _ _ _ rfl hW)
      · refine lv_aload_n hx hb dX12_canJoin_21 rfl (lv_at hl 0 rfl) ?_
        refine mr_get K hK hW hin 15 (by decide) lM_isReal (v := .ref (ix 115)) rfl dX12_canJoin_22 ?_
        refine lv_iload_n hx hb dX12_canJoin_25 rfl (lv_at hl 1 rfl) ?_
        refine mr_zald K hK hW 15 (by decide) rfl (n := 60) rfl rfl ⟨by omega, by omega⟩ (v := S.1 15 (k)) rfl dX12_canJoin_26 ?_
        have w_16 := wf_15 hwf (k)
        refine xi_if_eq (tgt := 58) hx hb ⟨by omega, by omega⟩ dX12_canJoin_27 (by decide) (fun c_17 => ?_) (fun c_17 => ?_)
        · refine xi_iconst hx hb dX12_canJoin_58 ?_
          exact xi_eq (bI_f (by simp only [sJ1, c_13, c_14, c_15, c_17, decide_true, decide_false, Bool.true_and, Bool.and_true, Bool.false_and, Bool.and_false, Bool.true_or, Bool.or_true, Bool.false_or, Bool.or_false, Bool.not_true, Bool.not_false, eq_self])) (j_1 _ _ _ rfl hW)
        · refine lv_aload_n hx hb dX12_canJoin_30 rfl (lv_at hl 0 rfl) ?_
          refine mr_get K hK hW hin 15 (by decide) lM_isReal (v := .ref (ix 115)) rfl dX12_canJoin_31 ?_
          refine lv_iload_n hx hb dX12_canJoin_34 rfl (lv_at hl 2 rfl) ?_
          refine mr_zald K hK hW 15 (by decide) rfl (n := 60) rfl rfl ⟨by omega, by omega⟩ (v := S.1 15 (u)) rfl dX12_canJoin_35 ?_
          have w_18 := wf_15 hwf (u)
          refine xi_if_eq (tgt := 58) hx hb ⟨by omega, by omega⟩ dX12_canJoin_36 (by decide) (fun c_19 => ?_) (fun c_19 => ?_)
          · refine xi_iconst hx hb dX12_canJoin_58 ?_
            exact xi_eq (bI_f (by simp only [sJ1, c_13, c_14, c_15, c_17, c_19, decide_true, decide_false, Bool.true_and, Bool.and_true, Bool.false_and, Bool.and_false, Bool.true_or, Bool.or_true, Bool.false_or, Bool.or_false, Bool.not_true, Bool.not_false, eq_self])) (j_1 _ _ _ rfl hW)
          · refine lv_aload_n hx hb dX12_canJoin_39 rfl (lv_at hl 0 rfl) ?_
            refine mr_get K hK hW hin 11 (by decide) lM_currency (v := .ref (ix 111)) rfl dX12_canJoin_40 ?_
            refine lv_iload_n hx hb dX12_canJoin_43 rfl (lv_at hl 1 rfl) ?_
            refine mr_iald K hK hW 11 (by decide) rfl (n := 60) rfl rfl ⟨by omega, by omega⟩ (v := S.1 11 (k)) rfl dX12_canJoin_44 ?_
            have w_20 := wf_11 hwf (k)
            refine lv_aload_n hx hb dX12_canJoin_45 rfl (lv_at hl 0 rfl) ?_
            refine mr_get K hK hW hin 11 (by decide) lM_currency (v := .ref (ix 111)) rfl dX12_canJoin_46 ?_
            refine lv_iload_n hx hb dX12_canJoin_49 rfl (lv_at hl 2 rfl) ?_
            refine mr_iald K hK hW 11 (by decide) rfl (n := 60) rfl rfl ⟨by omega, by omega⟩ (v := S.1 11 (u)) rfl dX12_canJoin_50 ?_
            have w_21 := wf_11 hwf (u)
            refine xi_icmp_eq (tgt := 58) hx hb ⟨by omega, by omega⟩ ⟨by omega, by omega⟩ dX12_canJoin_51 (by decide) (fun c_22 => ?_) (fun c_22 => ?_)
            · refine xi_iconst hx hb dX12_canJoin_58 ?_
              exact xi_eq (bI_f (by simp only [sJ1, c_13, c_14, c_15, c_17, c_19, c_22, decide_true, decide_false, Bool.true_and, Bool.and_true, Bool.false_and, Bool.and_false, Bool.true_or, Bool.or_true, Bool.false_or, Bool.or_false, Bool.not_true, Bool.not_false, eq_self])) (j_1 _ _ _ rfl hW)
            · refine xi_iconst hx hb dX12_canJoin_54 ?_
              refine lv_goto (tgt := 59) hx hb dX12_canJoin_55 (by decide) ?_
              exact xi_eq (bI_t (by simp only [sJ1, c_13, c_14, c_15, c_17, c_19, c_22, decide_true, decide_false, Bool.true_and, Bool.and_true, Bool.false_and, Bool.and_false, Bool.true_or, Bool.or_true, Bool.false_or, Bool.or_false, Bool.not_true, Bool.not_false, eq_self])) (j_1 _ _ _ rfl hW)
set_option maxHeartbeats 4000000 in
set_option maxRecDepth 100000 in
theorem c_M_returns {l : Launch} {D : va_G} {cy : Nat → ClassId} {B0 : Nat} {ix : Nat → Nat} {S : ST} {I : Int → Bool} {aM qM : Int → Int64} {tM : Int} {G : gF} (k : Int) (hk : 0 ≤ k ∧ k ≤ 59) (hwf : wf S) : gM l yX12_returns vX12_returns 0 0 D cy B0 [.ref (ix 100), .int (iI k)] (mW cy ix S (mX I aM qM tM) G) (fun r g => r = some (.int (iI (sRetN S k))) ∧ g = mW cy ix (sRet S k) (mX I aM qM tM) G) 0 0 := by
  refine g_start (cc := cX12_returns) (maxL := 3) (ret := (some .int)) (by decide) rfl (Nat.le_of_ble_eq_true rfl) ?_
  intro p_ e_ s_ m_ be_ me_ co_ ls H locs K hr hlk hnm hK hW hl
  have hin : ∀ w ∈ wsX120, w ∈ vX12_returns := wsM_cls
  obtain ⟨hx, hb, hml, hown, hts⟩ := id K
  have hl : lv_has ls 3 [(0, .ref (ix 100)), (1, .int (iI (k)))] := hl
  refine xi_iconst hx hb dX12_returns_0 ?_
  refine lv_istore_n (lv' := [(2, .int (iI (1))), (0, .ref (ix 100)), (1, .int (iI (k)))]) hx hb dX12_returns_1 rfl hl (by decide) rfl (fun ls hl => ?_)
  refine lv_aload_n hx hb dX12_returns_2 rfl (lv_at hl 1 rfl) ?_
  refine mr_get K hK hW hin 18 (by decide) lM_state (v := .ref (ix 118)) rfl dX12_returns_3 ?_
  refine lv_iload_n hx hb dX12_returns_6 rfl (lv_at hl 2 rfl) ?_
  refine xi_iconst hx hb dX12_returns_7 ?_
  refine mr_iast K hK hW 18 (by decide) rfl (n := 60) rfl rfl ⟨by omega, by omega⟩ dX12_returns_8 (fun H locs hW => ?_)
  refine lv_aload_n hx hb dX12_returns_9 rfl (lv_at hl 1 rfl) ?_
  refine mr_get K hK hW hin 21 (by decide) lM_leg (v := .ref (ix 121)) rfl dX12_returns_10 ?_
  refine lv_iload_n hx hb dX12_returns_13 rfl (lv_at hl 2 rfl) ?_
  refine mr_iald K hK hW 21 (by decide) rfl (n := 60) rfl rfl ⟨by omega, by omega⟩ (v := S.1 21 (k)) rfl dX12_returns_14 ?_
  have w_1 := wf_21 hwf (k)
  refine xi_iconst hx hb dX12_returns_15 ?_
  refine xi_icmp_eq (tgt := 49) hx hb ⟨by omega, by omega⟩ ⟨by omega, by omega⟩ dX12_returns_16 (by decide) (fun c_2 => ?_) (fun c_2 => ?_)
  · refine lv_iload_n hx hb dX12_returns_49 rfl (lv_at hl 0 rfl) ?_
    exact g_iret hx hb hr hW ⟨by rw [sRetN, (show sRe1 S k = false by simp only [sRe1, c_2, decide_true, decide_false, Bool.true_and, Bool.and_true, Bool.false_and, Bool.and_false, Bool.true_or, Bool.or_true, Bool.false_or, Bool.or_false, Bool.not_true, Bool.not_false, eq_self])]; rfl, by rw [sRet, (show sRe1 S k = false by simp only [sRe1, c_2, decide_true, decide_false, Bool.true_and, Bool.and_true, Bool.false_and, Bool.and_false, Bool.true_or, Bool.or_true, Bool.false_or, Bool.or_false, Bool.not_true, Bool.not_false, eq_self])]; rfl⟩ dX12_returns_50 hlk
  · refine lv_aload_n hx hb dX12_returns_19 rfl (lv_at hl 1 rfl) ?_
    refine mr_get K hK hW hin 18 (by decide) lM_state (v := .ref (ix 118)) rfl dX12_returns_20 ?_
    refine lv_aload_n hx hb dX12_returns_23 rfl (lv_at hl 1 rfl) ?_
    refine mr_get K hK hW hin 21 (by decide) lM_leg (v := .ref (ix 121)) rfl dX12_returns_24 ?_
    refine lv_iload_n hx hb dX12_returns_27 rfl (lv_at hl 2 rfl) ?_
    refine mr_iald K hK hW 21 (by decide) rfl (n := 60) rfl rfl ⟨by omega, by omega⟩ (v := S.1 21 (k)) rfl dX12_returns_28 ?_
    have w_3 := wf_21 hwf (k)
    refine mr_iald K hK hW 18 (by decide) rfl (n := 60) rfl rfl ⟨by omega, by omega⟩ (v := (pI S 18 (k) (5)).1 18 (S.1 21 (k))) rfl dX12_returns_29 ?_
    have w_4 : (pI S 18 (k) (5)).1 18 (S.1 21 (k)) ≥ -100000000 ∧ (pI S 18 (k) (5)).1 18 (S.1 21 (k)) ≤ 100000000 := by have h := wf_18 (wf_pI (f := 18) hwf (k) (5) (by simp only [rLo, rHi]; omega)) (S.1 21 (k)); exact ⟨by have := h.1; omega, by have := h.2; omega⟩
    refine xi_iconst hx hb dX12_returns_30 ?_
    refine xi_icmp_eq (tgt := 49) hx hb ⟨by omega, by omega⟩ ⟨by omega, by omega⟩ dX12_returns_31 (by decide) (fun c_5 => ?_) (fun c_5 => ?_)
    · refine lv_iload_n hx hb dX12_returns_49 rfl (lv_at hl 0 rfl) ?_
      exact g_iret hx hb hr hW ⟨by rw [sRetN, (show sRe1 S k = false by simp only [sRe1, c_2, c_5, decide_true, decide_false, Bool.true_and, Bool.and_true, Bool.false_and, Bool.and_false, Bool.true_or, Bool.or_true, Bool.false_or, Bool.or_false, Bool.not_true, Bool.not_false, eq_self])]; rfl, by rw [sRet, (show sRe1 S k = false by simp only [sRe1, c_2, c_5, decide_true, decide_false, Bool.true_and, Bool.and_true, Bool.false_and, Bool.and_false, Bool.true_or, Bool.or_true, Bool.false_or, Bool.or_false, Bool.not_true, Bool.not_false, eq_self])]; rfl⟩ dX12_returns_50 hlk
    · refine lv_aload_n hx hb dX12_returns_34 rfl (lv_at hl 1 rfl) ?_
      refine mr_get K hK hW hin 18 (by decide) lM_state (v := .ref (ix 118)) rfl dX12_returns_35 ?_
      refine lv_aload_n hx hb dX12_returns_38 rfl (lv_at hl 1 rfl) ?_
      refine mr_get K hK hW hin 21 (by decide) lM_leg (v := .ref (ix 121)) rfl dX12_returns_39 ?_
      refine lv_iload_n hx hb dX12_returns_42 rfl (lv_at hl 2 rfl) ?_
      refine mr_iald K hK hW 21 (by decide) rfl (n := 60) rfl rfl ⟨by omega, by omega⟩ (v := S.1 21 (k)) rfl dX12_returns_43 ?_
      have w_6 := wf_21 hwf (k)
      refine xi_iconst hx hb dX12_returns_44 ?_
      refine mr_iast K hK hW 18 (by decide) rfl (n := 60) rfl rfl ⟨by omega, by omega⟩ dX12_returns_45 (fun H locs hW => ?_)
      refine xi_iinc (lv' := [(2, .int (iI (1 + 1))), (0, .ref (ix 100)), (1, .int (iI (k)))]) hx hb dX12_returns_46 hl (k := 0) rfl (by decide) rfl (fun ls hl => ?_)
      refine lv_iload_n hx hb dX12_returns_49 rfl (lv_at hl 0 rfl) ?_
      exact g_iret hx hb hr hW ⟨by rw [sRetN, (show sRe1 S k = true by simp only [sRe1, c_2, c_5, decide_true, decide_false, Bool.true_and, Bool.and_true, Bool.false_and, Bool.and_false, Bool.true_or, Bool.or_true, Bool.false_or, Bool.or_false, Bool.not_true, Bool.not_false, eq_self])]; rfl, by rw [sRet, (show sRe1 S k = true by simp only [sRe1, c_2, c_5, decide_true, decide_false, Bool.true_and, Bool.and_true, Bool.false_and, Bool.and_false, Bool.true_or, Bool.or_true, Bool.false_or, Bool.or_false, Bool.not_true, Bool.not_false, eq_self])]; rfl⟩ dX12_returns_50 hlk
set_option maxHeartbeats 4000000 in
set_option maxRecDepth 100000 in
theorem c_M_adviceAt {l : Launch} {D : va_G} {cy : Nat → ClassId} {B0 : Nat} {ix : Nat → Nat} {S : ST} {I : Int → Bool} {aM qM : Int → Int64} {tM : Int} {G : gF} (b : Int) (p : Int) (hb0 : 0 ≤ b ∧ b ≤ 5) (hp0 : 0 ≤ p ∧ p ≤ 60) (hwf : wf S) : gM l yX12_adviceAt vX12_adviceAt 0 0 D cy B0 [.ref (ix 100), .int (iI b), .int (iI p)] (mW cy ix S (mX I aM qM tM) G) (fun r g => r = some (.int (iI (aAt S b p))) ∧ g = mW cy ix S (mX I aM qM tM) G) 0 0 := by
  refine g_start (cc := cX12_adviceAt) (maxL := 5) (ret := (some .int)) (by decide) rfl (Nat.le_of_ble_eq_true rfl) ?_
  intro p_ e_ s_ m_ be_ me_ co_ ls H locs K hr hlk hnm hK hW hl
  have hin : ∀ w ∈ wsX120, w ∈ vX12_adviceAt := wsM_cls
  obtain ⟨hx, hb, hml, hown, hts⟩ := id K
  have hl : lv_has ls 5 [(0, .ref (ix 100)), (1, .int (iI (b))), (2, .int (iI (p)))] := hl
  refine lv_iload_n hx hb dX12_adviceAt_0 rfl (lv_at hl 2 rfl) ?_
  refine lv_istore_n (lv' := [(3, .int (iI (p))), (0, .ref (ix 100)), (1, .int (iI (b))), (2, .int (iI (p)))]) hx hb dX12_adviceAt_1 rfl hl (by decide) rfl (fun ls hl => ?_)
  refine xi_iconst hx hb dX12_adviceAt_2 ?_
  refine lv_istore (lv' := [(4, .int (iI (0))), (3, .int (iI (p))), (0, .ref (ix 100)), (1, .int (iI (b))), (2, .int (iI (p)))]) hx hb dX12_adviceAt_3 hl (by decide) rfl (fun ls hl => ?_)
  refine lp_w2 (Wg := fun (H : Heap) (locs : List Loc) (ls : Array Slot) => W p_ l e_ { frames := 0, cells := 0, slots := 0, locals := 0 } s_ m_ ([.ref (ix 100), .int (iI b), .int (iI p)] : List Value).toArray be_ me_ co_ H locs 0 0 (MQ be_ (gQ D B0 (fun (r : Option Value) (g : gF) => r = some (.int (iI (aAt S b p))) ∧ g = mW cy ix S (mX I aM qM tM) G)) ([.ref (ix 100), .int (iI b), .int (iI p)] : List Value).toArray s_ 0 0 (fun q : Nat => B0 ≤ q)) (F0 m_ 5 ls [])) (fun (k : Int) (le : Int) (H : Heap) (locs : List Loc) (ls : Array Slot) => ((0 ≤ k ∧ k ≤ S.1 27 0) ∧ 0 ≤ le ∧ le = p - (aL S b k.toNat).length) ∧ gW D B0 s_.heap (mW cy ix S (mX (I) (aM) (qM) (tM)) G) H locs ∧ lv_has ls 5 [(4, .int (iI (k))), (3, .int (iI (le))), (2, .int (iI (p))), (1, .int (iI (b))), (0, .ref (ix 100))]) (fun (k : Int) (le : Int) => (60 - k).toNat) (fun k le H locs ls hI ih_lp_1 => ?_) (0) (p) _ _ _ ⟨⟨⟨by omega, (wf_27 hwf 0).1⟩, by omega, by simp [aL]⟩, hW, lv_sub hl [0, 1, 4, 3, 2] rfl⟩
  obtain ⟨hI_lp_1, hW, hl⟩ := hI
  obtain ⟨hk, hl2, hl3⟩ := hI_lp_1
  refine lv_iload hx hb dX12_adviceAt_5 (lv_at hl 0 rfl) ?_
  refine lv_aload_n hx hb dX12_adviceAt_7 rfl (lv_at hl 4 rfl) ?_
  refine mr_get K hK hW hin 27 (by decide) lM_finals (v := .int (iI (S.1 27 (0)))) rfl dX12_adviceAt_8 ?_
  have w_w_2 := wf_27 hwf 0
  refine xi_icmp_ge (tgt := 51) hx hb ⟨by omega, by omega⟩ ⟨by omega, by omega⟩ dX12_adviceAt_11 (by decide) (fun c_3 => ?_) (fun c_3 => ?_)
  · refine xi_iconst hx hb dX12_adviceAt_51 ?_
    exact g_iret hx hb hr hW ⟨by rw [← aL_miss (p := p) (by rw [show S.1 27 0 = k by omega]; omega)], rfl⟩ dX12_adviceAt_52 hlk
  · refine lv_aload_n hx hb dX12_adviceAt_14 rfl (lv_at hl 4 rfl) ?_
    refine mr_get K hK hW hin 10 (by decide) lM_to (v := .ref (ix 110)) rfl dX12_adviceAt_15 ?_
    refine lv_aload_n hx hb dX12_adviceAt_18 rfl (lv_at hl 4 rfl) ?_
    refine mr_get K hK hW hin 28 (by decide) lM_finished (v := .ref (ix 128)) rfl dX12_adviceAt_19 ?_
    refine lv_iload hx hb dX12_adviceAt_22 (lv_at hl 0 rfl) ?_
    refine mr_iald K hK hW 28 (by decide) rfl (n := 60) rfl rfl ⟨by omega, by omega⟩ (v := S.1 28 (k)) rfl dX12_adviceAt_24 ?_
    have w_4 := wf_28 hwf (k)
    refine mr_iald K hK hW 10 (by decide) rfl (n := 60) rfl rfl ⟨by omega, by omega⟩ (v := S.1 10 (S.1 28 (k))) rfl dX12_adviceAt_25 ?_
    have w_5 := wf_10 hwf (S.1 28 (k))
    refine lv_iload_n hx hb dX12_adviceAt_26 rfl (lv_at hl 3 rfl) ?_
    refine xi_icmp_ne (tgt := 45) hx hb ⟨by omega, by omega⟩ ⟨by omega, by omega⟩ dX12_adviceAt_27 (by decide) (fun c_6 => ?_) (fun c_6 => ?_)
    · refine xi_iinc (lv' := [(4, .int (iI (k + 1))), (3, .int (iI (le))), (2, .int (iI (p))), (1, .int (iI (b))), (0, .ref (ix 100))]) hx hb dX12_adviceAt_45 hl (k := 0) rfl (by decide) rfl (fun ls hl => ?_)
      refine lv_goto (tgt := 5) hx hb dX12_adviceAt_48 (by decide) ?_
      exact ih_lp_1 (k + 1) (le) _ _ _ (by have := wf_27 hwf 0; first | omega | (dsimp only; omega)) ⟨⟨⟨by omega, by omega⟩, by omega, by rw [show (k + 1).toNat = k.toNat + 1 by omega, aL_s, show ((k.toNat : Nat) : Int) = k by omega, if_neg c_6]; simp; omega⟩, hW, lv_sub hl [0, 1, 2, 3, 4] rfl⟩
    · refine lv_iload_n hx hb dX12_adviceAt_30 rfl (lv_at hl 1 rfl) ?_
      refine xi_if_ne (tgt := 42) hx hb ⟨by omega, by omega⟩ dX12_adviceAt_31 (by decide) (fun c_7 => ?_) (fun c_7 => ?_)
      · refine xi_iinc (lv' := [(3, .int (iI (le + (-1)))), (4, .int (iI (k))), (2, .int (iI (p))), (1, .int (iI (b))), (0, .ref (ix 100))]) hx hb dX12_adviceAt_42 hl (k := 1) rfl (by decide) rfl (fun ls hl => ?_)
        refine xi_iinc (lv' := [(4, .int (iI (k + 1))), (3, .int (iI (le + (-1)))), (2, .int (iI (p))), (1, .int (iI (b))), (0, .ref (ix 100))]) hx hb dX12_adviceAt_45 hl (k := 1) rfl (by decide) rfl (fun ls hl => ?_)
        refine lv_goto (tgt := 5) hx hb dX12_adviceAt_48 (by decide) ?_
        exact ih_lp_1 (k + 1) (le + (-1)) _ _ _ (by have := wf_27 hwf 0; first | omega | (dsimp only; omega)) ⟨⟨⟨by omega, by omega⟩, by omega, by rw [show (k + 1).toNat = k.toNat + 1 by omega, aL_s, show ((k.toNat : Nat) : Int) = k by omega, if_pos c_6]; simp; omega⟩, hW, lv_sub hl [0, 1, 2, 3, 4] rfl⟩
      · refine lv_aload_n hx hb dX12_adviceAt_34 rfl (lv_at hl 4 rfl) ?_
        refine mr_get K hK hW hin 28 (by decide) lM_finished (v := .ref (ix 128)) rfl dX12_adviceAt_35 ?_
        refine lv_iload hx hb dX12_adviceAt_38 (lv_at hl 0 rfl) ?_
        refine mr_iald K hK hW 28 (by decide) rfl (n := 60) rfl rfl ⟨by omega, by omega⟩ (v := S.1 28 (k)) rfl dX12_adviceAt_40 ?_
        have w_8 := wf_28 hwf (k)
        exact g_iret hx hb hr hW ⟨by rw [← aL_hit (p := p) ⟨by omega, by omega⟩ c_6 (by omega)], rfl⟩ dX12_adviceAt_41 hlk
end
section
/-! sets of payments: what they change, whether they can settle; a queue's first one; the queues' run -/
def nP (S : ST) : Nat := (S.1 8 0).toNat
theorem nP_le {S : ST} (h : wf S) : nP S ≤ 60 := by
  have := wf_8 h 0
  unfold nP
  omega
theorem dS_congr {S : ST} {I J : Int → Bool} {x : Int} : ∀ {n : Nat}, (∀ j : Int, 0 ≤ j → j < n → I j = J j) → dS S I n x = dS S J n x := fun {n} h => suL_congr (n := n) (fun k h1 h2 => by rw [h k h1 h2])
theorem pS_congr {S : ST} {I J : Int → Bool} {x : Int} : ∀ {n : Nat}, (∀ j : Int, 0 ≤ j → j < n → I j = J j) → pS S I n x = pS S J n x := fun {n} h => suL_congr (n := n) (fun k h1 h2 => by rw [h k h1 h2])
theorem alB_congr {p q : Int → Bool} : ∀ {n : Nat}, (∀ j : Int, 0 ≤ j → j < n → p j = q j) → alB p n = alB q n
  | 0, _ => rfl
  | n + 1, h => by rw [alB, alB, alB_congr (fun j a b => h j a (by omega)), h n (by omega) (by omega)]
theorem anB_congr {p q : Int → Bool} : ∀ {n : Nat}, (∀ j : Int, 0 ≤ j → j < n → p j = q j) → anB p n = anB q n
  | 0, _ => rfl
  | n + 1, h => by rw [anB, anB, anB_congr (fun j a b => h j a (by omega)), h n (by omega) (by omega)]
theorem anB_iff (q : Int → Bool) : ∀ n : Nat, anB q n = true ↔ ∃ k : Int, 0 ≤ k ∧ k < n ∧ q k = true
  | 0 => ⟨fun h => (by cases h), fun ⟨k, h1, h2, _⟩ => (by omega)⟩
  | n + 1 => by
    rw [anB, Bool.or_eq_true, anB_iff q n]
    constructor
    · rintro (⟨k, h1, h2, h3⟩ | h)
      · exact ⟨k, h1, by omega, h3⟩
      · exact ⟨n, by omega, by omega, h⟩
    · rintro ⟨k, h1, h2, h3⟩
      by_cases h : k = n
      · rw [h] at h3; exact Or.inr h3
      · exact Or.inl ⟨k, h1, by omega, h3⟩
theorem shX_congr {S : ST} {a a' : Int → Int64} {b c : Int} (h : a (3 * b + c) = a' (3 * b + c)) : shX S a b c = shX S a' b c := by
  unfold shX
  rw [h]
theorem paX_congr {S : ST} {q q' : Int → Int64} {b u c : Int} (h : q (3 * (6 * b + u) + c) = q' (3 * (6 * b + u) + c)) : paX S q b u c = paX S q' b u c := by
  unfold paX
  rw [h]
theorem fiX_congr {S : ST} {a a' q q' : Int → Int64} {c : Int} (hc : 0 ≤ c ∧ c ≤ 2) (ha : ∀ x : Int, 0 ≤ x → x < 21 → a x = a' x) (hq : ∀ x : Int, 0 ≤ x → x < 108 → q x = q' x) : fiX S a q c = fiX S a' q' c := by
  unfold fiX
  refine alB_congr (fun b h1 h2 => ?_)
  rw [shX_congr (ha (3 * b + c) (by omega) (by omega)), alB_congr (fun u h3 h4 => by rw [paX_congr (hq (3 * (6 * b + u) + c) (by omega) (by omega))])]
def fit (S : ST) (I : Int → Bool) (c : Int) : Bool := fiX S (dS S I (nP S)) (pS S I (nP S)) c
def wrk (S : ST) (I : Int → Bool) : Bool := wrkS S I (nP S)
theorem wrkS_congr {S : ST} {I J : Int → Bool} {n : Nat} (h : ∀ j : Int, 0 ≤ j → j < n → I j = J j) : wrkS S I n = wrkS S J n := alB_congr (fun j a b => by rw [h j a b])
theorem cnB_congr {I J : Int → Bool} {n : Nat} (h : ∀ j : Int, 0 ≤ j → j < n → I j = J j) : cnB I n = cnB J n := suI_congr (fun j a b => by rw [h j a b])
theorem sSets_congr {S : ST} {I J : Int → Bool} {n : Nat} (h : ∀ j : Int, 0 ≤ j → j < n → I j = J j) : sSets S I n = sSets S J n := foS_congr (fun j a b x => by rw [h j a b])
theorem fit_congr {S : ST} {I J : Int → Bool} {c : Int} (hc : 0 ≤ c ∧ c ≤ 2) (h : ∀ j : Int, 0 ≤ j → j < nP S → I j = J j) : fit S I c = fit S J c := fiX_congr hc (fun _ _ _ => dS_congr h) (fun _ _ _ => pS_congr h)
theorem qR_mem {S : ST} {b c h k : Int} : ∀ {n : Nat}, k ∈ qR S b c h n → 0 ≤ k ∧ k < n ∧ isQ S b c h k = true
  | 0, hk => by simp [qR] at hk
  | n + 1, hk => by
    rw [qR_s, List.mem_append] at hk
    rcases hk with hk | hk
    · obtain ⟨h1, h2, h3⟩ := qR_mem hk
      exact ⟨h1, by omega, h3⟩
    · split at hk
      · rename_i hq
        rw [List.mem_singleton] at hk
        subst hk
        exact ⟨by omega, by omega, hq⟩
      · simp at hk
theorem isQ_iff {S : ST} {b c h k : Int} : isQ S b c h k = true ↔ S.1 18 k = 2 ∧ S.1 9 k = b ∧ S.1 11 k = c ∧ S.1 14 k = h := by
  simp [isQ, and_assoc]
theorem qL_mem {S : ST} {b c k : Int} (hw : wf S) (h : k ∈ qL S b c) : 0 ≤ k ∧ k < S.1 8 0 ∧ S.1 18 k = 2 ∧ S.1 9 k = b ∧ S.1 11 k = c := by
  have h8 := wf_8 hw 0
  unfold qL at h
  rw [List.mem_append, List.mem_append] at h
  rcases h with h | h | h <;>
    (obtain ⟨h1, h2, h3⟩ := qR_mem h
     have h4 := isQ_iff.mp h3
     exact ⟨h1, by omega, h4.1, h4.2.1, h4.2.2.1⟩)
theorem qAt_r {S : ST} {b c p z : Int} (hw : wf S) (h : z = qAt S b c p) : z = -1 ∨ (0 ≤ z ∧ z < S.1 8 0 ∧ S.1 18 z = 2 ∧ S.1 9 z = b ∧ S.1 11 z = c) := by
  unfold qAt at h
  rw [List.getD_eq_getElem?_getD] at h
  cases hq : (qL S b c)[p.toNat]? with
  | none => rw [hq] at h; exact Or.inl h
  | some y =>
    rw [hq] at h
    have hz : z = y := h
    subst hz
    exact Or.inr (qL_mem hw (List.mem_of_getElem? hq))
/-- the first one of a queue, with its leg -/
def fstI (S : ST) (k : Int) : Int → Bool := fun j => decide (j = k) || decide (j = S.1 21 k)
def fstOk (S : ST) (k : Int) : Bool := (decide (S.1 21 k = -1) || decide (S.1 18 (S.1 21 k) = 2)) && wrk S (fstI S k) && fit S (fstI S k) 0 && fit S (fstI S k) 1 && fit S (fstI S k) 2
def sFirst (S : ST) (b c : Int) : Int × ST := if (!decide (qAt S b c 0 = -1) && fstOk S (qAt S b c 0)) = true then (cnB (fstI S (qAt S b c 0)) (nP S), sSets S (fstI S (qAt S b c 0)) (nP S)) else (0, S)
theorem sFirst_no {S : ST} {b c k : Int} (hk : k = qAt S b c 0) (h : k = -1 ∨ (¬ S.1 21 k = -1 ∧ ¬ S.1 18 (S.1 21 k) = 2)) : sFirst S b c = (0, S) := by
  unfold sFirst
  rw [← hk, if_neg]
  rcases h with h | ⟨h1, h2⟩
  · simp [h]
  · simp [fstOk, h1, h2]
theorem sFirst_bad {S : ST} {b c k : Int} {J : Int → Bool} {a q : Int → Int64} (hk : k = qAt S b c 0) (hw : wf S) (hJ : ∀ j : Int, 0 ≤ j → j < 60 → J j = fstI S k j) (hA : ∀ x : Int, 0 ≤ x → x < 21 → a x = dS S J (S.1 8 0).toNat x) (hQ : ∀ x : Int, 0 ≤ x → x < 108 → q x = pS S J (S.1 8 0).toNat x)
    (h : (wrkS S J (S.1 8 0).toNat && fiX S a q 0 && fiX S a q 1 && fiX S a q 2) = false) : sFirst S b c = (0, S) := by
  have h8 := nP_le hw
  have e1 : wrkS S J (S.1 8 0).toNat = wrk S (fstI S k) := wrkS_congr (fun j a b => hJ j a (by unfold nP at h8; omega))
  have e2 : ∀ c : Int, 0 ≤ c → c ≤ 2 → fiX S a q c = fit S (fstI S k) c := fun c h1 h2 => (fiX_congr ⟨h1, h2⟩ hA hQ).trans (fit_congr (I := J) ⟨h1, h2⟩ (fun j a b => hJ j a (by omega)))
  rw [e1, e2 0 (by decide) (by decide), e2 1 (by decide) (by decide), e2 2 (by decide) (by decide)] at h
  unfold sFirst
  rw [← hk, if_neg]
  unfold fstOk
  intro hh
  simp only [Bool.and_eq_true] at hh
  obtain ⟨_, ⟨⟨⟨_, q1⟩, q2⟩, q3⟩, q4⟩ := hh
  rw [q1, q2, q3, q4] at h
  simp at h
theorem sFirst_go {S : ST} {b c k : Int} {J : Int → Bool} {a q : Int → Int64} (hk : k = qAt S b c 0) (hn : ¬ k = -1) (hw : wf S) (hl : S.1 21 k = -1 ∨ S.1 18 (S.1 21 k) = 2) (hJ : ∀ j : Int, 0 ≤ j → j < 60 → J j = fstI S k j) (hA : ∀ x : Int, 0 ≤ x → x < 21 → a x = dS S J (S.1 8 0).toNat x) (hQ : ∀ x : Int, 0 ≤ x → x < 108 → q x = pS S J (S.1 8 0).toNat x)
    (h0 : wrkS S J (S.1 8 0).toNat = true) (h1 : fiX S a q 0 = true) (h2 : fiX S a q 1 = true) (h3 : fiX S a q 2 = true) : sFirst S b c = (cnB J (S.1 8 0).toNat, sSets S J (S.1 8 0).toNat) := by
  have h8 := nP_le hw
  have e1 : wrkS S J (S.1 8 0).toNat = wrk S (fstI S k) := wrkS_congr (fun j a b => hJ j a (by unfold nP at h8; omega))
  have e2 : ∀ c : Int, 0 ≤ c → c ≤ 2 → fiX S a q c = fit S (fstI S k) c := fun c h1 h2 => (fiX_congr ⟨h1, h2⟩ hA hQ).trans (fit_congr (I := J) ⟨h1, h2⟩ (fun j a b => hJ j a (by omega)))
  rw [e1] at h0
  rw [e2 0 (by decide) (by decide)] at h1
  rw [e2 1 (by decide) (by decide)] at h2
  rw [e2 2 (by decide) (by decide)] at h3
  unfold sFirst
  rw [← hk, if_pos, ← cnB_congr (I := J) (fun j a b => hJ j a (by omega)), ← sSets_congr (I := J) (fun j a b => hJ j a (by omega))]
  · rfl
  · unfold fstOk
    rw [h0, h1, h2, h3]
    rcases hl with hl | hl <;> simp [hn, hl]
theorem cnB_nn (I : Int → Bool) (n : Nat) : 0 ≤ cnB I n := suI_nn (fun j _ _ => by rcases bI_01 (I j) with h | h <;> omega)
theorem sFirst_ok {S : ST} (ho : okS S) (b c : Int) : okS (sFirst S b c).2 ∧ 0 ≤ (sFirst S b c).1 ∧ cNF (sFirst S b c).2 = cNF S - (sFirst S b c).1 ∧ ∀ f : Nat, cht f → (sFirst S b c).2.1 f = S.1 f := by
  unfold sFirst
  split
  · rename_i h
    simp only [Bool.and_eq_true, Bool.not_eq_true', decide_eq_false_iff_not, fstOk, Bool.or_eq_true, decide_eq_true_eq] at h
    obtain ⟨h1, ⟨⟨⟨h2, _⟩, _⟩, _⟩, _⟩ := h
    have hq := qAt_r ho.1 (rfl : qAt S b c 0 = _)
    have hI : ∀ j : Int, 0 ≤ j → j < nP S → fstI S (qAt S b c 0) j = true → S.1 18 j ≠ 4 := by
      intro j a1 a2 hj
      simp only [fstI, Bool.or_eq_true, decide_eq_true_eq] at hj
      rcases hj with hj | hj
      · rw [hj]
        rcases hq with q | q
        · exact absurd q h1
        · rw [q.2.2.1]; decide
      · rcases h2 with q | q
        · omega
        · rw [hj, q]; decide
    obtain ⟨r1, r2, r3, r4⟩ := sSets_inv (I := fstI S (qAt S b c 0)) ho (nP S) (nP_le ho.1) hI
    exact ⟨r1, cnB_nn _ _, r4, r2⟩
  · exact ⟨ho, Int.le_refl 0, by simp, fun _ _ => rfl⟩
/-- a round through the queues, and rounds as long as something settles -/
def rdB (c : Int) (b : Int) (x : Int × ST) : Int × ST := (x.1 + (sFirst x.2 b c).1, (sFirst x.2 b c).2)
def rdC (c : Int) (x : Int × ST) : Int × ST := foS (rdB c) x 6
def sRound (S : ST) : Int × ST := foS rdC (0, S) 3
def sRunN : Nat → Int → ST → Int × ST
  | 0, a, S => (a, S)
  | n + 1, a, S => if (sRound S).1 ≤ 0 then (a + (sRound S).1, (sRound S).2) else sRunN n (a + (sRound S).1) (sRound S).2
def sRuns (S : ST) : Int × ST := sRunN 61 0 S
/-- what a part of a round keeps -/
def rdOk (S : ST) (x : Int × ST) : Prop := okS x.2 ∧ 0 ≤ x.1 ∧ cNF x.2 + x.1 = cNF S ∧ ∀ f : Nat, cht f → x.2.1 f = S.1 f
theorem rdOk_0 {S : ST} (h : okS S) : rdOk S (0, S) := ⟨h, Int.le_refl 0, by simp, fun _ _ => rfl⟩
theorem rdOk_mk {S T : ST} {n : Int} (h1 : okS T) (h2 : 0 ≤ n) (h3 : cNF T + n = cNF S) (h4 : ∀ f : Nat, cht f → T.1 f = S.1 f) : rdOk S (n, T) := ⟨h1, h2, h3, h4⟩
theorem rdB_ok {S : ST} {x : Int × ST} {b c : Int} (h : rdOk S x) : rdOk S (rdB c b x) := by
  obtain ⟨h1, h2, h3, h4⟩ := h
  obtain ⟨r1, r2, r3, r4⟩ := sFirst_ok h1 b c
  exact ⟨r1, by show 0 ≤ x.1 + (sFirst x.2 b c).1; omega, by show cNF (sFirst x.2 b c).2 + (x.1 + (sFirst x.2 b c).1) = cNF S; omega, fun f hf => (r4 f hf).trans (h4 f hf)⟩
theorem foS_keeps {σ : Type} {P : σ → Prop} {f : Int → σ → σ} {s : σ} (h0 : P s) (h : ∀ (k : Int) (x : σ), P x → P (f k x)) : ∀ n : Nat, P (foS f s n)
  | 0 => h0
  | n + 1 => h n _ (foS_keeps h0 h n)
theorem rdC_ok {S : ST} {x : Int × ST} {c : Int} (h : rdOk S x) : rdOk S (rdC c x) := foS_keeps (P := rdOk S) h (fun _ _ h => rdB_ok h) 6
theorem sRound_ok {S : ST} (h : okS S) : rdOk S (sRound S) := foS_keeps (P := rdOk S) (rdOk_0 h) (fun _ _ h => rdC_ok h) 3
theorem sRunN_ok {S : ST} : ∀ (n : Nat) (a : Int) (x : ST), rdOk S (a, x) → rdOk S (sRunN n a x)
  | 0, _, _, h => h
  | n + 1, a, x, h => by
    obtain ⟨h1, h2, h3, h4⟩ := h
    obtain ⟨r1, r2, r3, r4⟩ := sRound_ok h1
    have h2' : 0 ≤ a := h2
    have h3' : cNF x + a = cNF S := h3
    unfold sRunN
    generalize sRound x = y at r1 r2 r3 r4 ⊢
    have key : rdOk S (a + y.1, y.2) := rdOk_mk r1 (by omega) (by omega) (fun f hf => (r4 f hf).trans (h4 f hf))
    split
    · exact key
    · exact sRunN_ok n _ _ key
theorem sRuns_ok {S : ST} (h : okS S) : rdOk S (sRuns S) := sRunN_ok 61 0 S (rdOk_0 h)
/-- with rounds enough it is the same -/
theorem sRunN_more : ∀ (n : Nat) (a : Int) (x : ST), okS x → cNF x < n → sRunN (n + 1) a x = sRunN n a x
  | 0, _, x, _, hn => by have := cNF_nn x; omega
  | n + 1, a, x, h, hn => by
    obtain ⟨r1, r2, r3, r4⟩ := sRound_ok h
    conv => lhs; unfold sRunN
    conv => rhs; unfold sRunN
    by_cases hz : (sRound x).1 ≤ 0
    · rw [if_pos hz, if_pos hz]
    · rw [if_neg hz, if_neg hz]
      exact sRunN_more n _ _ r1 (by omega)
end
section
set_option maxHeartbeats 4000000 in
set_option maxRecDepth 100000 in
theorem c_M_settlesFirst {l : Launch} {D : va_G} {cy : Nat → ClassId} {B0 : Nat} {ix : Nat → Nat} {S : ST} {I : Int → Bool} {aM qM : Int → Int64} {tM : Int} {G : gF} (b : Int) (c : Int) (hb0 : 0 ≤ b ∧ b ≤ 5) (hc : 0 ≤ c ∧ c ≤ 2) (ho : okS S) : gM l yX12_settlesFirst vX12_settlesFirst 3 70 D cy B0 [.ref (ix 100), .int (iI b), .int (iI c)] (mW cy ix S (mX I aM qM tM) G) (fun r g => r = some (.int (iI (sFirst S b c).1)) ∧ ∃ (J : Int → Bool) (a q : Int → Int64), g = mW cy ix (sFirst S b c).2 (mX J a q tM) G) 0 0 := by
  refine g_start (cc := cX12_settlesFirst) (maxL := 4) (ret := (some .int)) (by decide) rfl (Nat.le_of_ble_eq_true rfl) ?_
  intro p_ e_ s_ m_ be_ me_ co_ ls H locs K hr hlk hnm hK hW hl
  have hin : ∀ w ∈ wsX120, w ∈ vX12_settlesFirst := wsM_cls
  obtain ⟨hx, hb, hml, hown, hts⟩ := id K
  have hl : lv_has ls 4 [(0, .ref (ix 100)), (1, .int (iI (b))), (2, .int (iI (c)))] := hl
  have hwf : wf S := ho.1
  refine lv_aload_n hx hb dX12_settlesFirst_0 rfl (lv_at hl 0 rfl) ?_
  refine lv_iload_n hx hb dX12_settlesFirst_1 rfl (lv_at hl 1 rfl) ?_
  refine lv_iload_n hx hb dX12_settlesFirst_2 rfl (lv_at hl 2 rfl) ?_
  refine xi_iconst hx hb dX12_settlesFirst_3 ?_
  refine g_callV (i := 0) (As := [.int (iI (b)), .int (iI (c)), .int (iI (0))]) (rest := []) K (c_M_queued (b) (c) (0) ⟨by omega, by omega⟩ ⟨by omega, by omega⟩ ⟨by omega, by omega⟩ ho.1) (cwV 3 hts gM_X12_queued rfl rfl rfl (by decide +kernel) ⟨Nat.le_of_ble_eq_true rfl, Nat.le_of_ble_eq_true rfl⟩) hK hW (mW_0 _ _ _ _ _) rfl rfl hl.1 rfl (Nat.le_of_ble_eq_true rfl) dX12_settlesFirst_4 ⟨Nat.le_refl _, Nat.le_refl _⟩ (fun v_ f_ H locs hp hW => ?_)
  obtain ⟨hpv, hpe⟩ := hp
  rw [hpe] at hW
  obtain ⟨its, hits⟩ : ∃ z : Int, z = qAt S b c 0 := ⟨_, rfl⟩
  rw [← hits] at hpv
  subst hpv
  have hir := qAt_r ho.1 hits
  have h80 := wf_8 ho.1 0
  refine lv_istore_n (lv' := [(3, .int (iI (its))), (0, .ref (ix 100)), (1, .int (iI (b))), (2, .int (iI (c)))]) hx hb dX12_settlesFirst_7 rfl hl (by decide) rfl (fun ls hl => ?_)
  refine lv_iload_n hx hb dX12_settlesFirst_8 rfl (lv_at hl 0 rfl) ?_
  refine xi_iconst hx hb dX12_settlesFirst_9 ?_
  refine xi_icmp_eq (tgt := 38) hx hb ⟨by omega, by omega⟩ ⟨by omega, by omega⟩ dX12_settlesFirst_10 (by decide) (fun c_1 => ?_) (fun c_1 => ?_)
  · refine xi_iconst hx hb dX12_settlesFirst_38 ?_
    exact g_iret hx hb hr hW ⟨by rw [sFirst_no hits (Or.inl c_1)], _, _, _, by rw [sFirst_no hits (Or.inl c_1)]⟩ dX12_settlesFirst_39 hlk
  · refine lv_aload_n hx hb dX12_settlesFirst_13 rfl (lv_at hl 1 rfl) ?_
    refine mr_get K hK hW hin 21 (by decide) lM_leg (v := .ref (ix 121)) rfl dX12_settlesFirst_14 ?_
    refine lv_iload_n hx hb dX12_settlesFirst_17 rfl (lv_at hl 0 rfl) ?_
    refine mr_iald K hK hW 21 (by decide) rfl (n := 60) rfl rfl ⟨by omega, by omega⟩ (v := S.1 21 (its)) rfl dX12_settlesFirst_18 ?_
    have w_2 := wf_21 hwf (its)
    refine xi_iconst hx hb dX12_settlesFirst_19 ?_
    refine xi_icmp_eq (tgt := 40) hx hb ⟨by omega, by omega⟩ ⟨by omega, by omega⟩ dX12_settlesFirst_20 (by decide) (fun c_3 => ?_) (fun c_3 => ?_)
    · refine lv_aload_n hx hb dX12_settlesFirst_40 rfl (lv_at hl 1 rfl) ?_
      refine g_callV (i := 0) (As := []) (rest := []) K c_M_clears (cwV 0 hts gM_X12_clears rfl rfl rfl (by decide +kernel) ⟨Nat.le_of_ble_eq_true rfl, Nat.le_of_ble_eq_true rfl⟩) hK hW (mW_0 _ _ _ _ _) rfl rfl hl.1 rfl (Nat.le_of_ble_eq_true rfl) dX12_settlesFirst_41 ⟨Nat.le_refl _, Nat.le_refl _⟩ (fun v_ f_ H locs hp hW => ?_)
      obtain ⟨hpv, J, hJ, hpe⟩ := hp
      rw [hpe] at hW
      subst hpv
      refine lv_aload_n hx hb dX12_settlesFirst_44 rfl (lv_at hl 1 rfl) ?_
      refine mr_get K hK hW hin 33 (by decide) lM_isIn (v := .ref (ix 133)) rfl dX12_settlesFirst_45 ?_
      refine lv_iload_n hx hb dX12_settlesFirst_48 rfl (lv_at hl 0 rfl) ?_
      refine xi_iconst hx hb dX12_settlesFirst_49 ?_
      refine mr_zastI K hK hW rfl (v := true) ⟨by omega, by omega⟩ dX12_settlesFirst_50 (fun H locs hW => ?_)
      refine lv_aload_n hx hb dX12_settlesFirst_51 rfl (lv_at hl 1 rfl) ?_
      refine mr_get K hK hW hin 21 (by decide) lM_leg (v := .ref (ix 121)) rfl dX12_settlesFirst_52 ?_
      refine lv_iload_n hx hb dX12_settlesFirst_55 rfl (lv_at hl 0 rfl) ?_
      refine mr_iald K hK hW 21 (by decide) rfl (n := 60) rfl rfl ⟨by omega, by omega⟩ (v := S.1 21 (its)) rfl dX12_settlesFirst_56 ?_
      have w_4 := wf_21 hwf (its)
      refine xi_iconst hx hb dX12_settlesFirst_57 ?_
      refine xi_icmp_eq (tgt := 73) hx hb ⟨by omega, by omega⟩ ⟨by omega, by omega⟩ dX12_settlesFirst_58 (by decide) (fun c_5 => ?_) (fun c_5 => ?_)
      · have hJJ : ∀ j : Int, 0 ≤ j → j < 60 → (iup J (its) (true)) j = fstI S its j := by
          intro j h1 h2
          have e2 : ¬ j = S.1 21 its := by rw [c_3]; omega
          by_cases e1 : j = its <;> simp [iup, fstI, e1, e2, hJ j h1 h2]
        have hlg : S.1 21 its = -1 ∨ S.1 18 (S.1 21 its) = 2 := Or.inl c_3
        have hmm : ∀ j : Int, 0 ≤ j → j < S.1 8 0 → (iup J (its) (true)) j = true → S.1 18 j ≠ 4 := by
          intro j h1 h2 h3
          rw [hJJ j h1 (by omega)] at h3
          simp only [fstI, Bool.or_eq_true, decide_eq_true_eq] at h3
          rcases h3 with h3 | h3
          · rw [h3]; omega
          · rcases hlg with q1 | q1
            · omega
            · rw [h3, q1]; decide
        refine lv_aload_n hx hb dX12_settlesFirst_73 rfl (lv_at hl 1 rfl) ?_
        refine g_callV (i := 0) (As := []) (rest := []) K (c_M_sums  hwf) (cwV 0 hts gM_X12_sums rfl rfl rfl (by decide +kernel) ⟨Nat.le_of_ble_eq_true rfl, Nat.le_of_ble_eq_true rfl⟩) hK hW (mW_0 _ _ _ _ _) rfl rfl hl.1 rfl (Nat.le_of_ble_eq_true rfl) dX12_settlesFirst_74 ⟨Nat.le_refl _, Nat.le_refl _⟩ (fun v_ f_ H locs hp hW => ?_)
        obtain ⟨hpv, a, q, hA, hQ, hpe⟩ := hp
        rw [hpe] at hW
        subst hpv
        refine lv_aload_n hx hb dX12_settlesFirst_77 rfl (lv_at hl 1 rfl) ?_
        refine g_callV (i := 0) (As := []) (rest := []) K (c_M_areAtWork  hwf) (cwV 0 hts gM_X12_areAtWork rfl rfl rfl (by decide +kernel) ⟨Nat.le_of_ble_eq_true rfl, Nat.le_of_ble_eq_true rfl⟩) hK hW (mW_0 _ _ _ _ _) rfl rfl hl.1 rfl (Nat.le_of_ble_eq_true rfl) dX12_settlesFirst_78 ⟨Nat.le_refl _, Nat.le_refl _⟩ (fun v_ f_ H locs hp hW => ?_)
        obtain ⟨hpv, hpe⟩ := hp
        rw [hpe] at hW
        have hpv : v_ = some (.int (iI (bI (wrkS S (iup J (its) (true)) (S.1 8 0).toNat)))) := hpv
        subst hpv
        refine xi_ifb_eq (tgt := 115) hx hb dX12_settlesFirst_81 (by decide) (fun c_6 => ?_) (fun c_6 => ?_)
        · refine xi_iconst hx hb dX12_settlesFirst_115 ?_
          exact g_iret hx hb hr hW ⟨by rw [sFirst_bad hits ho.1 hJJ hA hQ (by simp only [c_6, decide_true, decide_false, Bool.true_and, Bool.and_true, Bool.false_and, Bool.and_false, Bool.true_or, Bool.or_true, Bool.false_or, Bool.or_false, Bool.not_true, Bool.not_false, eq_self])], _, _, _, by rw [sFirst_bad hits ho.1 hJJ hA hQ (by simp only [c_6, decide_true, decide_false, Bool.true_and, Bool.and_true, Bool.false_and, Bool.and_false, Bool.true_or, Bool.or_true, Bool.false_or, Bool.or_false, Bool.not_true, Bool.not_false, eq_self])]⟩ dX12_settlesFirst_116 hlk
        · refine lv_aload_n hx hb dX12_settlesFirst_84 rfl (lv_at hl 1 rfl) ?_
          refine xi_iconst hx hb dX12_settlesFirst_85 ?_
          refine g_callV (i := 0) (As := [.int (iI (0))]) (rest := []) K (c_M_fits (0) ⟨by omega, by omega⟩ hwf) (cwV 1 hts gM_X12_fits rfl rfl rfl (by decide +kernel) ⟨Nat.le_of_ble_eq_true rfl, Nat.le_of_ble_eq_true rfl⟩) hK hW (mW_0 _ _ _ _ _) rfl rfl hl.1 rfl (Nat.le_of_ble_eq_true rfl) dX12_settlesFirst_86 ⟨Nat.le_refl _, Nat.le_refl _⟩ (fun v_ f_ H locs hp hW => ?_)
          obtain ⟨hpv, hpe⟩ := hp
          rw [hpe] at hW
          have hpv : v_ = some (.int (iI (bI (fiX S a q (0))))) := hpv
          subst hpv
          refine xi_ifb_eq (tgt := 115) hx hb dX12_settlesFirst_89 (by decide) (fun c_7 => ?_) (fun c_7 => ?_)
          · refine xi_iconst hx hb dX12_settlesFirst_115 ?_
            exact g_iret hx hb hr hW ⟨by rw [sFirst_bad hits ho.1 hJJ hA hQ (by simp only [c_6, c_7, decide_true, decide_false, Bool.true_and, Bool.and_true, Bool.false_and, Bool.and_false, Bool.true_or, Bool.or_true, Bool.false_or, Bool.or_false, Bool.not_true, Bool.not_false, eq_self])], _, _, _, by rw [sFirst_bad hits ho.1 hJJ hA hQ (by simp only [c_6, c_7, decide_true, decide_false, Bool.true_and, Bool.and_true, Bool.false_and, Bool.and_false, Bool.true_or, Bool.or_true, Bool.false_or, Bool.or_false, Bool.not_true, Bool.not_false, eq_self])]⟩ dX12_settlesFirst_116 hlk
          · refine lv_aload_n hx hb dX12_settlesFirst_92 rfl (lv_at hl 1 rfl) ?_
            refine xi_iconst hx hb dX12_settlesFirst_93 ?_
            refine g_callV (i := 0) (As := [.int (iI (1))]) (rest := []) K (c_M_fits (1) ⟨by omega, by omega⟩ hwf) (cwV 1 hts gM_X12_fits rfl rfl rfl (by decide +kernel) ⟨Nat.le_of_ble_eq_true rfl, Nat.le_of_ble_eq_true rfl⟩) hK hW (mW_0 _ _ _ _ _) rfl rfl hl.1 rfl (Nat.le_of_ble_eq_true rfl) dX12_settlesFirst_94 ⟨Nat.le_refl _, Nat.le_refl _⟩ (fun v_ f_ H locs hp hW => ?_)
            obtain ⟨hpv, hpe⟩ := hp
            rw [hpe] at hW
            have hpv : v_ = some (.int (iI (bI (fiX S a q (1))))) := hpv
            subst hpv
            refine xi_ifb_eq (tgt := 115) hx hb dX12_settlesFirst_97 (by decide) (fun c_8 => ?_) (fun c_8 => ?_)
            · refine xi_iconst hx hb dX12_settlesFirst_115 ?_
              exact g_iret hx hb hr hW ⟨by rw [sFirst_bad hits ho.1 hJJ hA hQ (by simp only [c_6, c_7, c_8, decide_true, decide_false, Bool.true_and, Bool.and_true, Bool.false_and, Bool.and_false, Bool.true_or, Bool.or_true, Bool.false_or, Bool.or_false, Bool.not_true, Bool.not_false, eq_self])], _, _, _, by rw [sFirst_bad hits ho.1 hJJ hA hQ (by simp only [c_6, c_7, c_8, decide_true, decide_false, Bool.true_and, Bool.and_true, Bool.false_and, Bool.and_false, Bool.true_or, Bool.or_true, Bool.false_or, Bool.or_false, Bool.not_true, Bool.not_false, eq_self])]⟩ dX12_settlesFirst_116 hlk
            · refine lv_aload_n hx hb dX12_settlesFirst_100 rfl (lv_at hl 1 rfl) ?_
              refine xi_iconst hx hb dX12_settlesFirst_101 ?_
              refine g_callV (i := 0) (As := [.int (iI (2))]) (rest := []) K (c_M_fits (2) ⟨by omega, by omega⟩ hwf) (cwV 1 hts gM_X12_fits rfl rfl rfl (by decide +kernel) ⟨Nat.le_of_ble_eq_true rfl, Nat.le_of_ble_eq_true rfl⟩) hK hW (mW_0 _ _ _ _ _) rfl rfl hl.1 rfl (Nat.le_of_ble_eq_true rfl) dX12_settlesFirst_102 ⟨Nat.le_refl _, Nat.le_refl _⟩ (fun v_ f_ H locs hp hW => ?_)
              obtain ⟨hpv, hpe⟩ := hp
              rw [hpe] at hW
              have hpv : v_ = some (.int (iI (bI (fiX S a q (2))))) := hpv
              subst hpv
              refine xi_ifb_eq (tgt := 115) hx hb dX12_settlesFirst_105 (by decide) (fun c_9 => ?_) (fun c_9 => ?_)
              · refine xi_iconst hx hb dX12_settlesFirst_115 ?_
                exact g_iret hx hb hr hW ⟨by rw [sFirst_bad hits ho.1 hJJ hA hQ (by simp only [c_6, c_7, c_8, c_9, decide_true, decide_false, Bool.true_and, Bool.and_true, Bool.false_and, Bool.and_false, Bool.true_or, Bool.or_true, Bool.false_or, Bool.or_false, Bool.not_true, Bool.not_false, eq_self])], _, _, _, by rw [sFirst_bad hits ho.1 hJJ hA hQ (by simp only [c_6, c_7, c_8, c_9, decide_true, decide_false, Bool.true_and, Bool.and_true, Bool.false_and, Bool.and_false, Bool.true_or, Bool.or_true, Bool.false_or, Bool.or_false, Bool.not_true, Bool.not_false, eq_self])]⟩ dX12_settlesFirst_116 hlk
              · refine lv_aload_n hx hb dX12_settlesFirst_108 rfl (lv_at hl 1 rfl) ?_
                refine g_callV (i := 0) (As := []) (rest := []) K (c_M_settles  ho hmm) (cwV 0 hts gM_X12_settles rfl rfl rfl (by decide +kernel) ⟨Nat.le_of_ble_eq_true rfl, Nat.le_of_ble_eq_true rfl⟩) hK hW (mW_0 _ _ _ _ _) rfl rfl hl.1 rfl (Nat.le_of_ble_eq_true rfl) dX12_settlesFirst_109 ⟨Nat.le_refl _, Nat.le_refl _⟩ (fun v_ f_ H locs hp hW => ?_)
                obtain ⟨hpv, hpe⟩ := hp
                rw [hpe] at hW
                have hpv : v_ = some (.int (iI (cnB (iup J (its) (true)) (S.1 8 0).toNat))) := hpv
                subst hpv
                refine lv_goto (tgt := 116) hx hb dX12_settlesFirst_112 (by decide) ?_
                exact g_iret hx hb hr hW ⟨by rw [sFirst_go hits c_1 ho.1 hlg hJJ hA hQ c_6 c_7 c_8 c_9], _, _, _, by rw [sFirst_go hits c_1 ho.1 hlg hJJ hA hQ c_6 c_7 c_8 c_9]⟩ dX12_settlesFirst_116 hlk
      · exact absurd c_3 c_5
    · refine lv_aload_n hx hb dX12_settlesFirst_23 rfl (lv_at hl 1 rfl) ?_
      refine mr_get K hK hW hin 18 (by decide) lM_state (v := .ref (ix 118)) rfl dX12_settlesFirst_24 ?_
      refine lv_aload_n hx hb dX12_settlesFirst_27 rfl (lv_at hl 1 rfl) ?_
      refine mr_get K hK hW hin 21 (by decide) lM_leg (v := .ref (ix 121)) rfl dX12_settlesFirst_28 ?_
      refine lv_iload_n hx hb dX12_settlesFirst_31 rfl (lv_at hl 0 rfl) ?_
      refine mr_iald K hK hW 21 (by decide) rfl (n := 60) rfl rfl ⟨by omega, by omega⟩ (v := S.1 21 (its)) rfl dX12_settlesFirst_32 ?_
      have w_10 := wf_21 hwf (its)
      refine mr_iald K hK hW 18 (by decide) rfl (n := 60) rfl rfl ⟨by omega, by omega⟩ (v := S.1 18 (S.1 21 (its))) rfl dX12_settlesFirst_33 ?_
      have w_11 := wf_18 hwf (S.1 21 (its))
      refine xi_iconst hx hb dX12_settlesFirst_34 ?_
      refine xi_icmp_eq (tgt := 40) hx hb ⟨by omega, by omega⟩ ⟨by omega, by omega⟩ dX12_settlesFirst_35 (by decide) (fun c_12 => ?_) (fun c_12 => ?_)
      · refine lv_aload_n hx hb dX12_settlesFirst_40 rfl (lv_at hl 1 rfl) ?_
        refine g_callV (i := 0) (As := []) (rest := []) K c_M_clears (cwV 0 hts gM_X12_clears rfl rfl rfl (by decide +kernel) ⟨Nat.le_of_ble_eq_true rfl, Nat.le_of_ble_eq_true rfl⟩) hK hW (mW_0 _ _ _ _ _) rfl rfl hl.1 rfl (Nat.le_of_ble_eq_true rfl) dX12_settlesFirst_41 ⟨Nat.le_refl _, Nat.le_refl _⟩ (fun v_ f_ H locs hp hW => ?_)
        obtain ⟨hpv, J, hJ, hpe⟩ := hp
        rw [hpe] at hW
        subst hpv
        refine lv_aload_n hx hb dX12_settlesFirst_44 rfl (lv_at hl 1 rfl) ?_
        refine mr_get K hK hW hin 33 (by decide) lM_isIn (v := .ref (ix 133)) rfl dX12_settlesFirst_45 ?_
        refine lv_iload_n hx hb dX12_settlesFirst_48 rfl (lv_at hl 0 rfl) ?_
        refine xi_iconst hx hb dX12_settlesFirst_49 ?_
        refine mr_zastI K hK hW rfl (v := true) ⟨by omega, by omega⟩ dX12_settlesFirst_50 (fun H locs hW => ?_)
        refine lv_aload_n hx hb dX12_settlesFirst_51 rfl (lv_at hl 1 rfl) ?_
        refine mr_get K hK hW hin 21 (by decide) lM_leg (v := .ref (ix 121)) rfl dX12_settlesFirst_52 ?_
        refine lv_iload_n hx hb dX12_settlesFirst_55 rfl (lv_at hl 0 rfl) ?_
        refine mr_iald K hK hW 21 (by decide) rfl (n := 60) rfl rfl ⟨by omega, by omega⟩ (v := S.1 21 (its)) rfl dX12_settlesFirst_56 ?_
        have w_13 := wf_21 hwf (its)
        refine xi_iconst hx hb dX12_settlesFirst_57 ?_
        refine xi_icmp_eq (tgt := 73) hx hb ⟨by omega, by omega⟩ ⟨by omega, by omega⟩ dX12_settlesFirst_58 (by decide) (fun c_14 => ?_) (fun c_14 => ?_)
        · exact absurd c_14 c_3
        · refine lv_aload_n hx hb dX12_settlesFirst_61 rfl (lv_at hl 1 rfl) ?_
          refine mr_get K hK hW hin 33 (by decide) lM_isIn (v := .ref (ix 133)) rfl dX12_settlesFirst_62 ?_
          refine lv_aload_n hx hb dX12_settlesFirst_65 rfl (lv_at hl 1 rfl) ?_
          refine mr_get K hK hW hin 21 (by decide) lM_leg (v := .ref (ix 121)) rfl dX12_settlesFirst_66 ?_
          refine lv_iload_n hx hb dX12_settlesFirst_69 rfl (lv_at hl 0 rfl) ?_
          refine mr_iald K hK hW 21 (by decide) rfl (n := 60) rfl rfl ⟨by omega, by omega⟩ (v := S.1 21 (its)) rfl dX12_settlesFirst_70 ?_
          have w_15 := wf_21 hwf (its)
          refine xi_iconst hx hb dX12_settlesFirst_71 ?_
          refine mr_zastI K hK hW rfl (v := true) ⟨by omega, by omega⟩ dX12_settlesFirst_72 (fun H locs hW => ?_)
          have hJJ : ∀ j : Int, 0 ≤ j → j < 60 → (iup (iup J (its) (true)) (S.1 21 (its)) (true)) j = fstI S its j := by
            intro j h1 h2
            by_cases e1 : j = its <;> by_cases e2 : j = S.1 21 its <;> simp [iup, fstI, e1, e2, hJ j h1 h2]
          have hlg : S.1 21 its = -1 ∨ S.1 18 (S.1 21 its) = 2 := Or.inr c_12
          have hmm : ∀ j : Int, 0 ≤ j → j < S.1 8 0 → (iup (iup J (its) (true)) (S.1 21 (its)) (true)) j = true → S.1 18 j ≠ 4 := by
            intro j h1 h2 h3
            rw [hJJ j h1 (by omega)] at h3
            simp only [fstI, Bool.or_eq_true, decide_eq_true_eq] at h3
            rcases h3 with h3 | h3
            · rw [h3]; omega
            · rcases hlg with q1 | q1
              · omega
              · rw [h3, q1]; decide
          refine lv_aload_n hx hb dX12_settlesFirst_73 rfl (lv_at hl 1 rfl) ?_
          refine g_callV (i := 0) (As := []) (rest := []) K (c_M_sums  hwf) (cwV 0 hts gM_X12_sums rfl rfl rfl (by decide +kernel) ⟨Nat.le_of_ble_eq_true rfl, Nat.le_of_ble_eq_true rfl⟩) hK hW (mW_0 _ _ _ _ _) rfl rfl hl.1 rfl (Nat.le_of_ble_eq_true rfl) dX12_settlesFirst_74 ⟨Nat.le_refl _, Nat.le_refl _⟩ (fun v_ f_ H locs hp hW => ?_)
          obtain ⟨hpv, a, q, hA, hQ, hpe⟩ := hp
          rw [hpe] at hW
          subst hpv
          refine lv_aload_n hx hb dX12_settlesFirst_77 rfl (lv_at hl 1 rfl) ?_
          refine g_callV (i := 0) (As := []) (rest := []) K (c_M_areAtWork  hwf) (cwV 0 hts gM_X12_areAtWork rfl rfl rfl (by decide +kernel) ⟨Nat.le_of_ble_eq_true rfl, Nat.le_of_ble_eq_true rfl⟩) hK hW (mW_0 _ _ _ _ _) rfl rfl hl.1 rfl (Nat.le_of_ble_eq_true rfl) dX12_settlesFirst_78 ⟨Nat.le_refl _, Nat.le_refl _⟩ (fun v_ f_ H locs hp hW => ?_)
          obtain ⟨hpv, hpe⟩ := hp
          rw [hpe] at hW
          have hpv : v_ = some (.int (iI (bI (wrkS S (iup (iup J (its) (true)) (S.1 21 (its)) (true)) (S.1 8 0).toNat)))) := hpv
          subst hpv
          refine xi_ifb_eq (tgt := 115) hx hb dX12_settlesFirst_81 (by decide) (fun c_16 => ?_) (fun c_16 => ?_)
          · refine xi_iconst hx hb dX12_settlesFirst_115 ?_
            exact g_iret hx hb hr hW ⟨by rw [sFirst_bad hits ho.1 hJJ hA hQ (by simp only [c_16, decide_true, decide_false, Bool.true_and, Bool.and_true, Bool.false_and, Bool.and_false, Bool.true_or, Bool.or_true, Bool.false_or, Bool.or_false, Bool.not_true, Bool.not_false, eq_self])], _, _, _, by rw [sFirst_bad hits ho.1 hJJ hA hQ (by simp only [c_16, decide_true, decide_false, Bool.true_and, Bool.and_true, Bool.false_and, Bool.and_false, Bool.true_or, Bool.or_true, Bool.false_or, Bool.or_false, Bool.not_true, Bool.not_false, eq_self])]⟩ dX12_settlesFirst_116 hlk
          · refine lv_aload_n hx hb dX12_settlesFirst_84 rfl (lv_at hl 1 rfl) ?_
            refine xi_iconst hx hb dX12_settlesFirst_85 ?_
            refine g_callV (i := 0) (As := [.int (iI (0))]) (rest := []) K (c_M_fits (0) ⟨by omega, by omega⟩ hwf) (cwV 1 hts gM_X12_fits rfl rfl rfl (by decide +kernel) ⟨Nat.le_of_ble_eq_true rfl, Nat.le_of_ble_eq_true rfl⟩) hK hW (mW_0 _ _ _ _ _) rfl rfl hl.1 rfl (Nat.le_of_ble_eq_true rfl) dX12_settlesFirst_86 ⟨Nat.le_refl _, Nat.le_refl _⟩ (fun v_ f_ H locs hp hW => ?_)
            obtain ⟨hpv, hpe⟩ := hp
            rw [hpe] at hW
            have hpv : v_ = some (.int (iI (bI (fiX S a q (0))))) := hpv
            subst hpv
            refine xi_ifb_eq (tgt := 115) hx hb dX12_settlesFirst_89 (by decide) (fun c_17 => ?_) (fun c_17 => ?_)
            · refine xi_iconst hx hb dX12_settlesFirst_115 ?_
              exact g_iret hx hb hr hW ⟨by rw [sFirst_bad hits ho.1 hJJ hA hQ (by simp only [c_16, c_17, decide_true, decide_false, Bool.true_and, Bool.and_true, Bool.false_and, Bool.and_false, Bool.true_or, Bool.or_true, Bool.false_or, Bool.or_false, Bool.not_true, Bool.not_false, eq_self])], _, _, _, by rw [sFirst_bad hits ho.1 hJJ hA hQ (by simp only [c_16, c_17, decide_true, decide_false, Bool.true_and, Bool.and_true, Bool.false_and, Bool.and_false, Bool.true_or, Bool.or_true, Bool.false_or, Bool.or_false, Bool.not_true, Bool.not_false, eq_self])]⟩ dX12_settlesFirst_116 hlk
            · refine lv_aload_n hx hb dX12_settlesFirst_92 rfl (lv_at hl 1 rfl) ?_
              refine xi_iconst hx hb dX12_settlesFirst_93 ?_
              refine g_callV (i := 0) (As := [.int (iI (1))]) (rest := []) K (c_M_fits (1) ⟨by omega, by omega⟩ hwf) (cwV 1 hts gM_X12_fits rfl rfl rfl (by decide +kernel) ⟨Nat.le_of_ble_eq_true rfl, Nat.le_of_ble_eq_true rfl⟩) hK hW (mW_0 _ _ _ _ _) rfl rfl hl.1 rfl (Nat.le_of_ble_eq_true rfl) dX12_settlesFirst_94 ⟨Nat.le_refl _, Nat.le_refl _⟩ (fun v_ f_ H locs hp hW => ?_)
              obtain ⟨hpv, hpe⟩ := hp
              rw [hpe] at hW
              have hpv : v_ = some (.int (iI (bI (fiX S a q (1))))) := hpv
              subst hpv
              refine xi_ifb_eq (tgt := 115) hx hb dX12_settlesFirst_97 (by decide) (fun c_18 => ?_) (fun c_18 => ?_)
              · refine xi_iconst hx hb dX12_settlesFirst_115 ?_
                exact g_iret hx hb hr hW ⟨by rw [sFirst_bad hits ho.1 hJJ hA hQ (by simp only [c_16, c_17, c_18, decide_true, decide_false, Bool.true_and, Bool.and_true, Bool.false_and, Bool.and_false, Bool.true_or, Bool.or_true, Bool.false_or, Bool.or_false, Bool.not_true, Bool.not_false, eq_self])], _, _, _, by rw [sFirst_bad hits ho.1 hJJ hA hQ (by simp only [c_16, c_17, c_18, decide_true, decide_false, Bool.true_and, Bool.and_true, Bool.false_and, Bool.and_false, Bool.true_or, Bool.or_true, Bool.false_or, Bool.or_false, Bool.not_true, Bool.not_false, eq_self])]⟩ dX12_settlesFirst_116 hlk
              · refine lv_aload_n hx hb dX12_settlesFirst_100 rfl (lv_at hl 1 rfl) ?_
                refine xi_iconst hx hb dX12_settlesFirst_101 ?_
                refine g_callV (i := 0) (As := [.int (iI (2))]) (rest := []) K (c_M_fits (2) ⟨by omega, by omega⟩ hwf) (cwV 1 hts gM_X12_fits rfl rfl rfl (by decide +kernel) ⟨Nat.le_of_ble_eq_true rfl, Nat.le_of_ble_eq_true rfl⟩) hK hW (mW_0 _ _ _ _ _) rfl rfl hl.1 rfl (Nat.le_of_ble_eq_true rfl) dX12_settlesFirst_102 ⟨Nat.le_refl _, Nat.le_refl _⟩ (fun v_ f_ H locs hp hW => ?_)
                obtain ⟨hpv, hpe⟩ := hp
                rw [hpe] at hW
                have hpv : v_ = some (.int (iI (bI (fiX S a q (2))))) := hpv
                subst hpv
                refine xi_ifb_eq (tgt := 115) hx hb dX12_settlesFirst_105 (by decide) (fun c_19 => ?_) (fun c_19 => ?_)
                · refine xi_iconst hx hb dX12_settlesFirst_115 ?_
                  exact g_iret hx hb hr hW ⟨by rw [sFirst_bad hits ho.1 hJJ hA hQ (by simp only [c_16, c_17, c_18, c_19, decide_true, decide_false, Bool.true_and, Bool.and_true, Bool.false_and, Bool.and_false, Bool.true_or, Bool.or_true, Bool.false_or, Bool.or_false, Bool.not_true, Bool.not_false, eq_self])], _, _, _, by rw [sFirst_bad hits ho.1 hJJ hA hQ (by simp only [c_16, c_17, c_18, c_19, decide_true, decide_false, Bool.true_and, Bool.and_true, Bool.false_and, Bool.and_false, Bool.true_or, Bool.or_true, Bool.false_or, Bool.or_false, Bool.not_true, Bool.not_false, eq_self])]⟩ dX12_settlesFirst_116 hlk
                · refine lv_aload_n hx hb dX12_settlesFirst_108 rfl (lv_at hl 1 rfl) ?_
                  refine g_callV (i := 0) (As := []) (rest := []) K (c_M_settles  ho hmm) (cwV 0 hts gM_X12_settles rfl rfl rfl (by decide +kernel) ⟨Nat.le_of_ble_eq_true rfl, Nat.le_of_ble_eq_true rfl⟩) hK hW (mW_0 _ _ _ _ _) rfl rfl hl.1 rfl (Nat.le_of_ble_eq_true rfl) dX12_settlesFirst_109 ⟨Nat.le_refl _, Nat.le_refl _⟩ (fun v_ f_ H locs hp hW => ?_)
                  obtain ⟨hpv, hpe⟩ := hp
                  rw [hpe] at hW
                  have hpv : v_ = some (.int (iI (cnB (iup (iup J (its) (true)) (S.1 21 (its)) (true)) (S.1 8 0).toNat))) := hpv
                  subst hpv
                  refine lv_goto (tgt := 116) hx hb dX12_settlesFirst_112 (by decide) ?_
                  exact g_iret hx hb hr hW ⟨by rw [sFirst_go hits c_1 ho.1 hlg hJJ hA hQ c_16 c_17 c_18 c_19], _, _, _, by rw [sFirst_go hits c_1 ho.1 hlg hJJ hA hQ c_16 c_17 c_18 c_19]⟩ dX12_settlesFirst_116 hlk
      · refine xi_iconst hx hb dX12_settlesFirst_38 ?_
        exact g_iret hx hb hr hW ⟨by rw [sFirst_no hits (Or.inr ⟨c_3, c_12⟩)], _, _, _, by rw [sFirst_no hits (Or.inr ⟨c_3, c_12⟩)]⟩ dX12_settlesFirst_39 hlk
theorem foS_s {σ : Type} (f : Int → σ → σ) (s : σ) (n : Nat) : foS f s (n + 1) = f n (foS f s n) := rfl
set_option maxHeartbeats 4000000 in
set_option maxRecDepth 100000 in
theorem c_M_runs {l : Launch} {D : va_G} {cy : Nat → ClassId} {B0 : Nat} {ix : Nat → Nat} {S : ST} {I : Int → Bool} {aM qM : Int → Int64} {tM : Int} {G : gF}  (ho : okS S) : gM l yX12_runs vX12_runs 4 93 D cy B0 [.ref (ix 100)] (mW cy ix S (mX I aM qM tM) G) (fun r g => r = some (.int (iI (sRuns S).1)) ∧ ∃ (J : Int → Bool) (a q : Int → Int64), g = mW cy ix (sRuns S).2 (mX J a q tM) G) 0 0 := by
  refine g_start (cc := cX12_runs) (maxL := 5) (ret := (some .int)) (by decide) rfl (Nat.le_of_ble_eq_true rfl) ?_
  intro p_ e_ s_ m_ be_ me_ co_ ls H locs K hr hlk hnm hK hW hl
  have hin : ∀ w ∈ wsX120, w ∈ vX12_runs := wsM_cls
  obtain ⟨hx, hb, hml, hown, hts⟩ := id K
  have hl : lv_has ls 5 [(0, .ref (ix 100))] := hl
  have hwf : wf S := ho.1
  refine xi_iconst hx hb dX12_runs_0 ?_
  refine lv_istore_n (lv' := [(1, .int (iI (0))), (0, .ref (ix 100))]) hx hb dX12_runs_1 rfl hl (by decide) rfl (fun ls hl => ?_)
  refine xi_iconst hx hb dX12_runs_2 ?_
  refine lv_istore_n (lv' := [(2, .int (iI (1))), (1, .int (iI (0))), (0, .ref (ix 100))]) hx hb dX12_runs_3 rfl hl (by decide) rfl (fun ls hl => ?_)
  refine lp_w4 (Wg := fun (H : Heap) (locs : List Loc) (ls : Array Slot) => W p_ l e_ { frames := 4, cells := 0, slots := 0, locals := 93 } s_ m_ ([.ref (ix 100)] : List Value).toArray be_ me_ co_ H locs 0 0 (MQ be_ (gQ D B0 (fun (r : Option Value) (g : gF) => r = some (.int (iI (sRuns S).1)) ∧ ∃ (J : Int → Bool) (a q : Int → Int64), g = mW cy ix (sRuns S).2 (mX J a q tM) G)) ([.ref (ix 100)] : List Value).toArray s_ 0 0 (fun q : Nat => B0 ≤ q)) (F0 m_ 4 ls [])) (fun (sum : Int) (now : Int) (T : ST) (XX : (Int → Bool) × (Int → Int64) × (Int → Int64)) (H : Heap) (locs : List Loc) (ls : Array Slot) => ((0 ≤ now ∧ now ≤ 60) ∧ okS T ∧ (0 < now → ∃ n : Nat, cNF T < n ∧ sRunN n sum T = sRuns S) ∧ (now ≤ 0 → (sum, T) = sRuns S)) ∧ gW D B0 s_.heap (mW cy ix T (mX (XX.1) (XX.2.1) (XX.2.2) (tM)) G) H locs ∧ lv_has ls 5 [(1, .int (iI (sum))), (2, .int (iI (now))), (0, .ref (ix 100))]) (fun (sum : Int) (now : Int) (T : ST) (XX : (Int → Bool) × (Int → Int64) × (Int → Int64)) => (if 0 < now then cNF T + 1 else 0).toNat) (fun sum now T XX H locs ls hI ih_lp_1 => ?_) (0) (1) (S) ((I, aM, qM)) _ _ _ ⟨⟨⟨by decide, by decide⟩, ho, fun _ => ⟨61, by have := ho.2.1; have := wf_27 ho.1 0; omega, rfl⟩, fun h => by omega⟩, hW, lv_sub hl [1, 0, 2] rfl⟩
  obtain ⟨hI_lp_1, hW, hl⟩ := hI
  obtain ⟨hnow, hoT, hgo, hend⟩ := hI_lp_1
  have hfT : cNF T ≤ 60 := by have h1 := hoT.2.1; have h2 := wf_27 hoT.1 0; omega
  refine lv_iload_n hx hb dX12_runs_4 rfl (lv_at hl 1 rfl) ?_
  refine xi_if_le (tgt := 56) hx hb ⟨by omega, by omega⟩ dX12_runs_5 (by decide) (fun c_2 => ?_) (fun c_2 => ?_)
  · refine lv_iload_n hx hb dX12_runs_56 rfl (lv_at hl 0 rfl) ?_
    exact g_iret hx hb hr hW ⟨by rw [← hend c_2], _, _, _, by rw [← hend c_2]⟩ dX12_runs_57 hlk
  · refine xi_iconst hx hb dX12_runs_8 ?_
    refine lv_istore_n (lv' := [(2, .int (iI (0))), (1, .int (iI (sum))), (0, .ref (ix 100))]) hx hb dX12_runs_9 rfl hl (by decide) rfl (fun ls hl => ?_)
    refine xi_iconst hx hb dX12_runs_10 ?_
    refine lv_istore_n (lv' := [(3, .int (iI (0))), (2, .int (iI (0))), (1, .int (iI (sum))), (0, .ref (ix 100))]) hx hb dX12_runs_11 rfl hl (by decide) rfl (fun ls hl => ?_)
    refine lp_w3 (Wg := fun (H : Heap) (locs : List Loc) (ls : Array Slot) => W p_ l e_ { frames := 4, cells := 0, slots := 0, locals := 93 } s_ m_ ([.ref (ix 100)] : List Value).toArray be_ me_ co_ H locs 0 0 (MQ be_ (gQ D B0 (fun (r : Option Value) (g : gF) => r = some (.int (iI (sRuns S).1)) ∧ ∃ (J : Int → Bool) (a q : Int → Int64), g = mW cy ix (sRuns S).2 (mX J a q tM) G)) ([.ref (ix 100)] : List Value).toArray s_ 0 0 (fun q : Nat => B0 ≤ q)) (F0 m_ 12 ls [])) (fun (c1 : Int) (y1 : Int × ST) (X1 : (Int → Bool) × (Int → Int64) × (Int → Int64)) (H : Heap) (locs : List Loc) (ls : Array Slot) => ((0 ≤ c1 ∧ c1 ≤ 3) ∧ y1 = foS rdC (0, T) c1.toNat) ∧ gW D B0 s_.heap (mW cy ix y1.2 (mX (X1.1) (X1.2.1) (X1.2.2) (tM)) G) H locs ∧ lv_has ls 5 [(3, .int (iI (c1))), (2, .int (iI (y1.1))), (1, .int (iI (sum))), (0, .ref (ix 100))]) (fun (c1 : Int) (y1 : Int × ST) (X1 : (Int → Bool) × (Int → Int64) × (Int → Int64)) => (3 - c1).toNat) (fun c1 y1 X1 H locs ls hI ih_lp_3 => ?_) (0) ((0, T)) (XX) _ _ _ ⟨⟨by decide, rfl⟩, hW, lv_sub hl [0, 1, 2, 3] rfl⟩
    obtain ⟨hI_lp_3, hW, hl⟩ := hI
    obtain ⟨hc1, hy1⟩ := hI_lp_3
    have hy1k : rdOk T y1 := by rw [hy1]; exact foS_keeps (P := rdOk T) (rdOk_0 hoT) (fun _ _ h => rdC_ok h) _
    refine lv_iload_n hx hb dX12_runs_12 rfl (lv_at hl 0 rfl) ?_
    refine xi_iconst hx hb dX12_runs_13 ?_
    refine xi_icmp_ge (tgt := 49) hx hb ⟨by omega, by omega⟩ ⟨by omega, by omega⟩ dX12_runs_14 (by decide) (fun c_4 => ?_) (fun c_4 => ?_)
    · refine lv_iload_n hx hb dX12_runs_49 rfl (lv_at hl 2 rfl) ?_
      refine lv_iload_n hx hb dX12_runs_50 rfl (lv_at hl 1 rfl) ?_
      refine xi_iadd hx hb dX12_runs_51 ?_
      refine lv_istore_n (lv' := [(1, .int (iI (sum + y1.1))), (3, .int (iI (c1))), (2, .int (iI (y1.1))), (0, .ref (ix 100))]) hx hb dX12_runs_52 rfl hl (by decide) rfl (fun ls hl => ?_)
      refine lv_goto (tgt := 4) hx hb dX12_runs_53 (by decide) ?_
      obtain ⟨n, hn, hrn⟩ := hgo c_2
      have hy1e : y1 = sRound T := by rw [hy1, show c1 = 3 by omega]; rfl
      obtain ⟨k1, k2, k3, k4⟩ := (hy1e ▸ sRound_ok hoT : rdOk T y1)
      have hcT := cNF_nn y1.2
      exact ih_lp_1 (sum + y1.1) (y1.1) (y1.2) (X1) _ _ _ (by rw [if_pos (show 0 < now by omega)]; split <;> omega) ⟨⟨⟨by omega, by omega⟩, k1, fun hpos => by
            cases n with
            | zero => have := cNF_nn T; omega
            | succ n =>
              refine ⟨n, by omega, ?_⟩
              rw [← hrn]
              conv => rhs; unfold sRunN
              rw [← hy1e, if_neg (by omega)], fun hz => by
            cases n with
            | zero => have := cNF_nn T; omega
            | succ n =>
              rw [← hrn]
              unfold sRunN
              rw [← hy1e, if_pos hz]⟩, hW, lv_sub hl [0, 2, 3] rfl⟩
    · refine xi_iconst hx hb dX12_runs_17 ?_
      refine lv_istore (lv' := [(4, .int (iI (0))), (3, .int (iI (c1))), (2, .int (iI (y1.1))), (1, .int (iI (sum))), (0, .ref (ix 100))]) hx hb dX12_runs_18 hl (by decide) rfl (fun ls hl => ?_)
      refine lp_w3 (Wg := fun (H : Heap) (locs : List Loc) (ls : Array Slot) => W p_ l e_ { frames := 4, cells := 0, slots := 0, locals := 93 } s_ m_ ([.ref (ix 100)] : List Value).toArray be_ me_ co_ H locs 0 0 (MQ be_ (gQ D B0 (fun (r : Option Value) (g : gF) => r = some (.int (iI (sRuns S).1)) ∧ ∃ (J : Int → Bool) (a q : Int → Int64), g = mW cy ix (sRuns S).2 (mX J a q tM) G)) ([.ref (ix 100)] : List Value).toArray s_ 0 0 (fun q : Nat => B0 ≤ q)) (F0 m_ 20 ls [])) (fun (b2 : Int) (y2 : Int × ST) (X2 : (Int → Bool) × (Int → Int64) × (Int → Int64)) (H : Heap) (locs : List Loc) (ls : Array Slot) => ((0 ≤ b2 ∧ b2 ≤ 6) ∧ y2 = foS (rdB c1) y1 b2.toNat) ∧ gW D B0 s_.heap (mW cy ix y2.2 (mX (X2.1) (X2.2.1) (X2.2.2) (tM)) G) H locs ∧ lv_has ls 5 [(4, .int (iI (b2))), (3, .int (iI (c1))), (2, .int (iI (y2.1))), (1, .int (iI (sum))), (0, .ref (ix 100))]) (fun (b2 : Int) (y2 : Int × ST) (X2 : (Int → Bool) × (Int → Int64) × (Int → Int64)) => (6 - b2).toNat) (fun b2 y2 X2 H locs ls hI ih_lp_5 => ?_) (0) (y1) (X1) _ _ _ ⟨⟨by decide, rfl⟩, hW, lv_sub hl [0, 1, 2, 3, 4] rfl⟩
      obtain ⟨hI_lp_5, hW, hl⟩ := hI
      obtain ⟨hb2, hy2e⟩ := hI_lp_5
      have hy2 : rdOk T y2 := by rw [hy2e]; exact foS_keeps (P := rdOk T) hy1k (fun _ _ h => rdB_ok h) _
      refine lv_iload hx hb dX12_runs_20 (lv_at hl 0 rfl) ?_
      refine xi_bipush hx hb dX12_runs_22 (by decide) ?_
      refine xi_icmp_ge (tgt := 43) hx hb ⟨by omega, by omega⟩ ⟨by omega, by omega⟩ dX12_runs_24 (by decide) (fun c_6 => ?_) (fun c_6 => ?_)
      · refine xi_iinc (lv' := [(3, .int (iI (c1 + 1))), (4, .int (iI (b2))), (2, .int (iI (y2.1))), (1, .int (iI (sum))), (0, .ref (ix 100))]) hx hb dX12_runs_43 hl (k := 1) rfl (by decide) rfl (fun ls hl => ?_)
        refine lv_goto (tgt := 12) hx hb dX12_runs_46 (by decide) ?_
        exact ih_lp_3 (c1 + 1) (y2) (X2) _ _ _ (by first | omega | (dsimp only; omega)) ⟨⟨⟨by omega, by omega⟩, by rw [show (c1 + 1).toNat = c1.toNat + 1 by omega, foS_s, show ((c1.toNat : Nat) : Int) = c1 by omega, ← hy1, hy2e, show b2 = 6 by omega]; rfl⟩, hW, lv_sub hl [0, 2, 3, 4] rfl⟩
      · refine lv_iload_n hx hb dX12_runs_27 rfl (lv_at hl 2 rfl) ?_
        refine lv_aload_n hx hb dX12_runs_28 rfl (lv_at hl 4 rfl) ?_
        refine lv_iload hx hb dX12_runs_29 (lv_at hl 0 rfl) ?_
        refine lv_iload_n hx hb dX12_runs_31 rfl (lv_at hl 1 rfl) ?_
        refine g_callV (i := 0) (As := [.int (iI (b2)), .int (iI (c1))]) (rest := [.int (iI (y2.1))]) K (c_M_settlesFirst (b2) (c1) ⟨by omega, by omega⟩ ⟨by omega, by omega⟩ hy2.1) (cwV 2 hts gM_X12_settlesFirst rfl rfl rfl (by decide +kernel) ⟨Nat.le_of_ble_eq_true rfl, Nat.le_of_ble_eq_true rfl⟩) hK hW (mW_0 _ _ _ _ _) rfl rfl hl.1 rfl (Nat.le_of_ble_eq_true rfl) dX12_runs_32 ⟨Nat.le_refl _, Nat.le_refl _⟩ (fun v_ f_ H locs hp hW => ?_)
        obtain ⟨hpv, J, a, q, hpe⟩ := hp
        rw [hpe] at hW
        subst hpv
        refine xi_iadd hx hb dX12_runs_35 ?_
        refine lv_istore_n (lv' := [(2, .int (iI (y2.1 + ((sFirst (y2.2) (b2) (c1)).1)))), (4, .int (iI (b2))), (3, .int (iI (c1))), (1, .int (iI (sum))), (0, .ref (ix 100))]) hx hb dX12_runs_36 rfl hl (by decide) rfl (fun ls hl => ?_)
        refine xi_iinc (lv' := [(4, .int (iI (b2 + 1))), (2, .int (iI (y2.1 + ((sFirst (y2.2) (b2) (c1)).1)))), (3, .int (iI (c1))), (1, .int (iI (sum))), (0, .ref (ix 100))]) hx hb dX12_runs_37 hl (k := 1) rfl (by decide) rfl (fun ls hl => ?_)
        refine lv_goto (tgt := 20) hx hb dX12_runs_40 (by decide) ?_
        exact ih_lp_5 (b2 + 1) (rdB c1 b2 y2) ((J, a, q)) _ _ _ (by first | omega | (dsimp only; omega)) ⟨⟨⟨by omega, by omega⟩, by rw [show (b2 + 1).toNat = b2.toNat + 1 by omega, foS_s, show ((b2.toNat : Nat) : Int) = b2 by omega, ← hy2e]⟩, hW, lv_sub hl [0, 2, 1, 3, 4] rfl⟩
end
section
/-! sums as whole numbers; who is taken out of a set, until it can settle -/
theorem suL_of (g : Int → Int) : ∀ n : Nat, suL (fun k => Int64.ofInt (g k)) n = Int64.ofInt (suI g n)
  | 0 => rfl
  | n + 1 => by rw [suL, suI, suL_of g n, Int64.ofInt_add]
def dKi (S : ST) (k x : Int) : Int := (if x = 3 * S.1 9 k + S.1 11 k then -(S.1 12 k) else 0) + (if x = 3 * S.1 10 k + S.1 11 k then S.1 12 k else 0)
def pKi (S : ST) (k y : Int) : Int := (if y = 3 * (6 * S.1 9 k + S.1 10 k) + S.1 11 k then S.1 12 k else 0) + (if y = 3 * (6 * S.1 10 k + S.1 9 k) + S.1 11 k then -(S.1 12 k) else 0)
theorem dK_of (S : ST) (k x : Int) : dK S k x = Int64.ofInt (dKi S k x) := by
  unfold dK dKi
  split <;> split <;> simp
theorem pK_of (S : ST) (k y : Int) : pK S k y = Int64.ofInt (pKi S k y) := by
  unfold pK pKi
  split <;> split <;> simp
def dSi (S : ST) (I : Int → Bool) (n : Nat) (x : Int) : Int := suI (fun k => if I k = true then dKi S k x else 0) n
def pSi (S : ST) (I : Int → Bool) (n : Nat) (y : Int) : Int := suI (fun k => if I k = true then pKi S k y else 0) n
theorem dS_of (S : ST) (I : Int → Bool) (n : Nat) (x : Int) : dS S I n x = Int64.ofInt (dSi S I n x) := by
  unfold dS dSi
  rw [← suL_of]
  refine suL_congr (fun k _ _ => ?_)
  by_cases h : I k = true
  · rw [if_pos h, if_pos h, dK_of]
  · rw [if_neg h, if_neg h]; rfl
theorem pS_of (S : ST) (I : Int → Bool) (n : Nat) (x : Int) : pS S I n x = Int64.ofInt (pSi S I n x) := by
  unfold pS pSi
  rw [← suL_of]
  refine suL_congr (fun k _ _ => ?_)
  by_cases h : I k = true
  · rw [if_pos h, if_pos h, pK_of]
  · rw [if_neg h, if_neg h]; rfl
theorem suI_bd {f : Int → Int} {B : Int} : ∀ {n : Nat}, (∀ k : Int, 0 ≤ k → k < n → -B ≤ f k ∧ f k ≤ B) → -(B * n) ≤ suI f n ∧ suI f n ≤ B * n
  | 0, _ => by simp [suI]
  | n + 1, h => by
    have h1 := suI_bd (f := f) (B := B) (n := n) (fun k a b => h k a (by omega))
    have h2 := h n (by omega) (by omega)
    have h3 : B * ((n + 1 : Nat) : Int) = B * n + B := by rw [Int.natCast_add, Int.mul_add]; simp
    rw [suI, h3]
    omega
theorem dKi_bd {S : ST} (h : wf S) (k x : Int) : -2000000 ≤ dKi S k x ∧ dKi S k x ≤ 2000000 := by
  have := wf_12 h k
  unfold dKi
  split <;> split <;> omega
theorem pKi_bd {S : ST} (h : wf S) (k x : Int) : -2000000 ≤ pKi S k x ∧ pKi S k x ≤ 2000000 := by
  have := wf_12 h k
  unfold pKi
  split <;> split <;> omega
theorem dSi_bd {S : ST} (h : wf S) (I : Int → Bool) {n : Nat} (hn : n ≤ 60) (x : Int) : -200000000 ≤ dSi S I n x ∧ dSi S I n x ≤ 200000000 := by
  have h1 := suI_bd (f := fun k => if I k = true then dKi S k x else 0) (B := 2000000) (n := n) (fun k _ _ => by have := dKi_bd h k x; split <;> omega)
  unfold dSi
  omega
theorem pSi_bd {S : ST} (h : wf S) (I : Int → Bool) {n : Nat} (hn : n ≤ 60) (x : Int) : -200000000 ≤ pSi S I n x ∧ pSi S I n x ≤ 200000000 := by
  have h1 := suI_bd (f := fun k => if I k = true then pKi S k x else 0) (B := 2000000) (n := n) (fun k _ _ => by have := pKi_bd h k x; split <;> omega)
  unfold pSi
  omega
theorem l_neg {z : Int} (h : -4000000000000000000 ≤ z ∧ z ≤ 4000000000000000000) : Int64.ofInt z < 0 ↔ z < 0 := by
  rw [Int64.lt_iff_toInt_lt, Int64.toInt_ofInt_of_le (by omega) (by omega)]
  rfl
theorem l_pos {z : Int} (h : -4000000000000000000 ≤ z ∧ z ≤ 4000000000000000000) : 0 < Int64.ofInt z ↔ 0 < z := by
  rw [Int64.lt_iff_toInt_lt, Int64.toInt_ofInt_of_le (by omega) (by omega)]
  rfl
theorem suI_pos {f : Int → Int} {n : Nat} (h : 0 < suI f n) : ∃ k : Int, 0 ≤ k ∧ k < n ∧ 0 < f k := by
  apply Classical.byContradiction
  intro hc
  have h1 : suI f n ≤ suI (fun _ => 0) n := suI_le (fun k a b => by
    have : ¬ 0 < f k := fun q => hc ⟨k, a, b, q⟩
    omega)
  have h2 : ∀ m : Nat, suI (fun _ => 0) m = 0 := by
    intro m
    induction m with
    | zero => rfl
    | succ m ih => rw [suI, ih]; rfl
  rw [h2] at h1
  omega
theorem suI_neg {f : Int → Int} {n : Nat} (h : suI f n < 0) : ∃ k : Int, 0 ≤ k ∧ k < n ∧ f k < 0 := by
  apply Classical.byContradiction
  intro hc
  have h1 := suI_nn (f := f) (n := n) (fun k a b => by
    have : ¬ f k < 0 := fun q => hc ⟨k, a, b, q⟩
    omega)
  omega
theorem short_mem {S : ST} {I : Int → Bool} {b c : Int} (hw : wf S) (hb : 0 ≤ b ∧ b ≤ 5) (hc : 0 ≤ c ∧ c ≤ 2) (h : shX S (dS S I (nP S)) b c = true) : ∃ k : Int, 0 ≤ k ∧ k < nP S ∧ I k = true ∧ S.1 9 k = b ∧ S.1 11 k = c := by
  unfold shX at h
  rw [Bool.and_eq_true, decide_eq_true_eq, dS_of] at h
  have h1 := (l_neg (by have := dSi_bd hw I (nP_le hw) (3 * b + c); omega)).mp h.1
  obtain ⟨k, k0, k1, k2⟩ := suI_neg h1
  by_cases hI : I k = true
  · rw [if_pos hI] at k2
    have w9 := wf_9 hw k
    have w10 := wf_10 hw k
    have w11 := wf_11 hw k
    have w12 := wf_12 hw k
    unfold dKi at k2
    refine ⟨k, k0, k1, hI, ?_, ?_⟩ <;> (split at k2 <;> split at k2 <;> omega)
  · rw [if_neg hI] at k2
    omega
theorem pass_mem {S : ST} {I : Int → Bool} {b u c : Int} (hw : wf S) (hb : 0 ≤ b ∧ b ≤ 5) (hu : 0 ≤ u ∧ u ≤ 5) (hc : 0 ≤ c ∧ c ≤ 2) (h : paX S (pS S I (nP S)) b u c = true) : ∃ k : Int, 0 ≤ k ∧ k < nP S ∧ I k = true ∧ S.1 9 k = b ∧ S.1 10 k = u ∧ S.1 11 k = c := by
  unfold paX at h
  rw [Bool.and_eq_true, Bool.and_eq_true, decide_eq_true_eq, pS_of] at h
  have h1 := (l_pos (by have := pSi_bd hw I (nP_le hw) (3 * (6 * b + u) + c); omega)).mp h.1.1
  obtain ⟨k, k0, k1, k2⟩ := suI_pos h1
  by_cases hI : I k = true
  · rw [if_pos hI] at k2
    have w9 := wf_9 hw k
    have w10 := wf_10 hw k
    have w11 := wf_11 hw k
    have w12 := wf_12 hw k
    unfold pKi at k2
    refine ⟨k, k0, k1, hI, ?_, ?_, ?_⟩ <;> (split at k2 <;> split at k2 <;> omega)
  · rw [if_neg hI] at k2
    omega
/-- of a bank, to another one or any -/
def isL (S : ST) (I : Int → Bool) (b u k : Int) : Prop := I k = true ∧ S.1 9 k = b ∧ (u = -1 ∨ S.1 10 k = u)
theorem laS_mem {S : ST} {I : Int → Bool} {b u : Int} {q : Bool} : ∀ {n : Nat}, laS S I b u q n = -1 ∨ (0 ≤ laS S I b u q n ∧ laS S I b u q n < n ∧ isL S I b u (laS S I b u q n))
  | 0 => Or.inl rfl
  | n + 1 => by
    rw [laS_s]
    unfold laN
    split
    · rename_i h
      simp only [Bool.and_eq_true, Bool.or_eq_true, decide_eq_true_eq] at h
      exact Or.inr ⟨by omega, by omega, h.1.1.1, h.1.1.2, h.1.2⟩
    · rcases laS_mem (S := S) (I := I) (b := b) (u := u) (q := q) (n := n) with h | ⟨h1, h2, h3⟩
      · exact Or.inl h
      · exact Or.inr ⟨h1, by omega, h3⟩
theorem laS_some {S : ST} {I : Int → Bool} {b u k : Int} {q : Bool} : ∀ {n : Nat}, 0 ≤ k → k < n → isL S I b u k → laS S I b u q n ≠ -1
  | 0, h0, h1, _ => by omega
  | n + 1, h0, h1, h => by
    rw [laS_s]
    unfold laN
    split
    · omega
    · rename_i hn
      by_cases hk : k = n
      · subst hk
        intro hl
        apply hn
        simp only [Bool.and_eq_true, Bool.or_eq_true, decide_eq_true_eq]
        exact ⟨⟨⟨h.1, h.2.1⟩, h.2.2⟩, Or.inl (Or.inl hl)⟩
      · exact laS_some h0 (by omega) h
def o1X (S : ST) (a : Int → Int64) (I : Int → Bool) (c : Int) (q : Bool) (n : Nat) : Int := foS (fun k r => if shX S a (5 - k) c = true then laS S I (5 - k) (-1) q (nP S) else r) (-1) n
def o2X (S : ST) (p : Int → Int64) (I : Int → Bool) (c : Int) (q : Bool) (n : Nat) : Int := foS (fun k r => if paX S p ((35 - k) / 6) ((35 - k) % 6) c = true then laS S I ((35 - k) / 6) ((35 - k) % 6) q (nP S) else r) (-1) n
theorem o1X_s (S : ST) (a : Int → Int64) (I : Int → Bool) (c : Int) (q : Bool) (n : Nat) : o1X S a I c q (n + 1) = if shX S a (5 - n) c = true then laS S I (5 - n) (-1) q (nP S) else o1X S a I c q n := rfl
theorem o2X_s (S : ST) (a : Int → Int64) (I : Int → Bool) (c : Int) (q : Bool) (n : Nat) : o2X S a I c q (n + 1) = if paX S a ((35 - n) / 6) ((35 - n) % 6) c = true then laS S I ((35 - n) / 6) ((35 - n) % 6) q (nP S) else o2X S a I c q n := rfl
def shA (S : ST) (a : Int → Int64) (c : Int) : Bool := anB (fun b => shX S a b c) 6
/-- who is taken out -/
def outX (S : ST) (a p : Int → Int64) (I : Int → Bool) (c : Int) (q : Bool) : Int := if shA S a c = true then o1X S a I c q 6 else o2X S p I c q 36
def outO (S : ST) (I : Int → Bool) (c : Int) (q : Bool) : Int := outX S (dS S I (nP S)) (pS S I (nP S)) I c q
theorem outX_congr {S : ST} {a a' p p' : Int → Int64} {I : Int → Bool} {c : Int} {q : Bool} (hc : 0 ≤ c ∧ c ≤ 2) (ha : ∀ x : Int, 0 ≤ x → x < 21 → a x = a' x) (hp : ∀ x : Int, 0 ≤ x → x < 108 → p x = p' x) : outX S a p I c q = outX S a' p' I c q := by
  unfold outX shA
  rw [anB_congr (q := fun b => shX S a' b c) (fun b h1 h2 => shX_congr (ha _ (by omega) (by omega)))]
  unfold o1X o2X
  rw [foS_congr (f := fun k r => if shX S a (5 - k) c = true then laS S I (5 - k) (-1) q (nP S) else r) (g := fun k r => if shX S a' (5 - k) c = true then laS S I (5 - k) (-1) q (nP S) else r) (n := 6) (fun k h1 h2 x => by rw [shX_congr (ha (3 * (5 - k) + c) (by omega) (by omega))]),
    foS_congr (f := fun k r => if paX S p ((35 - k) / 6) ((35 - k) % 6) c = true then laS S I ((35 - k) / 6) ((35 - k) % 6) q (nP S) else r) (g := fun k r => if paX S p' ((35 - k) / 6) ((35 - k) % 6) c = true then laS S I ((35 - k) / 6) ((35 - k) % 6) q (nP S) else r) (n := 36) (fun k h1 h2 x => by rw [paX_congr (hp (3 * (6 * ((35 - k) / 6) + (35 - k) % 6) + c) (by omega) (by omega))])]
theorem foS_pick {P : Int → Bool} {v : Int → Int} {good : Int → Prop} {o : Int} : ∀ {n : Nat}, (∀ k : Int, 0 ≤ k → k < n → P k = true → good (v k)) → (∃ k : Int, 0 ≤ k ∧ k < n ∧ P k = true) → good (foS (fun k r => if P k = true then v k else r) o n)
  | 0, _, ⟨k, h1, h2, _⟩ => by omega
  | n + 1, h, ⟨k, h1, h2, h3⟩ => by
    show good (if P n = true then v n else foS (fun k r => if P k = true then v k else r) o n)
    by_cases hn : P n = true
    · rw [if_pos hn]
      exact h n (by omega) (by omega) hn
    · rw [if_neg hn]
      have hk : k ≠ n := fun e => hn (e ▸ h3)
      exact foS_pick (fun k a b => h k a (by omega)) ⟨k, h1, by omega, h3⟩
theorem foS_none {P : Int → Bool} {v : Int → Int} {o : Int} : ∀ {n : Nat}, (∀ k : Int, 0 ≤ k → k < n → P k = false) → foS (fun k r => if P k = true then v k else r) o n = o
  | 0, _ => rfl
  | n + 1, h => by
    show (if P n = true then v n else foS (fun k r => if P k = true then v k else r) o n) = o
    rw [if_neg (by rw [h n (by omega) (by omega)]; decide)]
    exact foS_none (fun k a b => h k a (by omega))
theorem shA_iff {S : ST} {a : Int → Int64} {c : Int} : shA S a c = true ↔ ∃ b : Int, 0 ≤ b ∧ b < 6 ∧ shX S a b c = true := anB_iff _ 6
theorem o1X_none {S : ST} {a : Int → Int64} {I : Int → Bool} {c : Int} {q : Bool} {n : Nat} (hn : n ≤ 6) (h : shA S a c = false) : o1X S a I c q n = -1 := by
  refine foS_none (fun k h1 h2 => ?_)
  cases hs : shX S a (5 - k) c with
  | false => rfl
  | true =>
    have := shA_iff.mpr ⟨5 - k, by omega, by omega, hs⟩
    rw [h] at this
    cases this
def inI (S : ST) (I : Int → Bool) (k : Int) : Prop := 0 ≤ k ∧ k < nP S ∧ I k = true
theorem la_in {S : ST} {I : Int → Bool} {b u k : Int} {q : Bool} (h0 : 0 ≤ k) (h1 : k < nP S) (h : isL S I b u k) : inI S I (laS S I b u q (nP S)) := by
  have h2 := laS_some (q := q) h0 h1 h
  rcases laS_mem (S := S) (I := I) (b := b) (u := u) (q := q) (n := nP S) with h3 | ⟨h3, h4, h5⟩
  · exact absurd h3 h2
  · exact ⟨h3, h4, h5.1⟩
theorem o1X_in {S : ST} {I : Int → Bool} {c : Int} {q : Bool} (hw : wf S) (hc : 0 ≤ c ∧ c ≤ 2) (h : shA S (dS S I (nP S)) c = true) : inI S I (o1X S (dS S I (nP S)) I c q 6) := by
  obtain ⟨b, h1, h2, h3⟩ := shA_iff.mp h
  refine foS_pick (good := inI S I) (fun k k0 k1 k2 => ?_) ⟨5 - b, by omega, by omega, by rw [show 5 - (5 - b) = b by omega]; exact h3⟩
  obtain ⟨m, m0, m1, m2, m3, m4⟩ := short_mem hw (by omega) hc k2
  exact la_in m0 m1 ⟨m2, m3, Or.inl rfl⟩
theorem outO_in {S : ST} {I : Int → Bool} {c : Int} {q : Bool} (hw : wf S) (hc : 0 ≤ c ∧ c ≤ 2) (h : fit S I c = false) : inI S I (outO S I c q) := by
  unfold outO outX
  by_cases hs : shA S (dS S I (nP S)) c = true
  · rw [if_pos hs]
    exact o1X_in hw hc hs
  · rw [if_neg hs]
    have hf : ¬ fit S I c = true := by rw [h]; decide
    have hx : ∃ b u : Int, 0 ≤ b ∧ b < 6 ∧ 0 ≤ u ∧ u < 6 ∧ paX S (pS S I (nP S)) b u c = true := by
      apply Classical.byContradiction
      intro hn
      apply hf
      refine (alB_iff _ 6).mpr (fun b b0 b1 => ?_)
      rw [Bool.and_eq_true]
      refine ⟨?_, (alB_iff _ 6).mpr (fun u u0 u1 => ?_)⟩
      · cases hq : shX S (dS S I (nP S)) b c with
        | false => rfl
        | true => exact absurd (shA_iff.mpr ⟨b, b0, b1, hq⟩) hs
      · cases hq : paX S (pS S I (nP S)) b u c with
        | false => rfl
        | true => exact absurd ⟨b, u, b0, b1, u0, u1, hq⟩ hn
    obtain ⟨b, u, b0, b1, u0, u1, hp⟩ := hx
    refine foS_pick (good := inI S I) (fun k k0 k1 k2 => ?_) ⟨35 - (6 * b + u), by omega, by omega, ?_⟩
    · obtain ⟨m, m0, m1, m2, m3, m4, m5⟩ := pass_mem hw (by omega) (by omega) hc k2
      exact la_in m0 m1 ⟨m2, m3, Or.inr m4⟩
    · rw [show (35 - (35 - (6 * b + u))) / 6 = b by omega, show (35 - (35 - (6 * b + u))) % 6 = u by omega]
      exact hp
def sRedN (S : ST) (c : Int) (q : Bool) : Nat → (Int → Bool) → (Int → Bool)
  | 0, I => I
  | n + 1, I => if fit S I c = true then I else sRedN S c q n (iup I (outO S I c q) false)
def sRed (S : ST) (I : Int → Bool) (c : Int) (q : Bool) : Int → Bool := sRedN S c q 61 I
theorem cnB_iup {I : Int → Bool} {k : Int} {n : Nat} (h0 : 0 ≤ k) (h1 : k < n) (h : I k = true) : cnB (iup I k false) n = cnB I n - 1 := by
  have e := suI_at (f := fun j => bI (I j)) (g := fun j => bI (iup I k false j)) (k := k) (n := n) h0 h1 (fun j hj => by rw [iup_n _ _ hj])
  rw [iup_s, h] at e
  simp only [bI] at e
  unfold cnB
  simp only [bI]
  simp only [if_true, Bool.false_eq_true, if_false] at e
  omega
theorem cnB_le (I : Int → Bool) (n : Nat) : cnB I n ≤ n := by
  induction n with
  | zero => simp [cnB, suI]
  | succ n ih =>
    rw [cnB_s]
    rcases bI_01 (I n) with h | h <;> omega
/-- what is left is of the set -/
theorem sRedN_sub {S : ST} {c : Int} {q : Bool} : ∀ (n : Nat) (I : Int → Bool) (j : Int), sRedN S c q n I j = true → I j = true
  | 0, _, _, h => h
  | n + 1, I, j, h => by
    unfold sRedN at h
    split at h
    · exact h
    · have h1 := sRedN_sub n _ j h
      by_cases hj : j = outO S I c q
      · rw [hj, iup_s] at h1
        cases h1
      · rwa [iup_n _ _ hj] at h1
def sRedS (S : ST) (I : Int → Bool) (c : Int) (q : Bool) : Int × ST := (cnB (sRed S I c q) (nP S), sSets S (sRed S I c q) (nP S))
end
section
set_option maxHeartbeats 4000000 in
set_option maxRecDepth 100000 in
theorem c_M_reduces {l : Launch} {D : va_G} {cy : Nat → ClassId} {B0 : Nat} {ix : Nat → Nat} {S : ST} {I : Int → Bool} {aM qM : Int → Int64} {tM : Int} {G : gF} (c : Int) (bq : Bool) (hc : 0 ≤ c ∧ c ≤ 2) (ho : okS S) (hI : ∀ j : Int, 0 ≤ j → j < S.1 8 0 → I j = true → S.1 18 j ≠ 4) : gM l yX12_reduces vX12_reduces 3 70 D cy B0 [.ref (ix 100), .int (iI c), .int (iI (bI bq))] (mW cy ix S (mX I aM qM tM) G) (fun r g => r = some (.int (iI (sRedS S I c bq).1)) ∧ ∃ (J : Int → Bool) (a q : Int → Int64), g = mW cy ix (sRedS S I c bq).2 (mX J a q tM) G) 0 0 := by
  refine g_start (cc := cX12_reduces) (maxL := 5) (ret := (some .int)) (by decide) rfl (Nat.le_of_ble_eq_true rfl) ?_
  intro p_ e_ s_ m_ be_ me_ co_ ls H locs K hr hlk hnm hK hW hl
  have hin : ∀ w ∈ wsX120, w ∈ vX12_reduces := wsM_cls
  obtain ⟨hx, hb, hml, hown, hts⟩ := id K
  have hl : lv_has ls 5 [(0, .ref (ix 100)), (1, .int (iI (c))), (2, .int (iI (bI (bq))))] := hl
  have hwf : wf S := ho.1
  refine lv_aload_n hx hb dX12_reduces_0 rfl (lv_at hl 0 rfl) ?_
  refine g_callV (i := 0) (As := []) (rest := []) K (c_M_sums hwf) (cwV 0 hts gM_X12_sums rfl rfl rfl (by decide +kernel) ⟨Nat.le_of_ble_eq_true rfl, Nat.le_of_ble_eq_true rfl⟩) hK hW (mW_0 _ _ _ _ _) rfl rfl hl.1 rfl (Nat.le_of_ble_eq_true rfl) dX12_reduces_1 ⟨Nat.le_refl _, Nat.le_refl _⟩ (fun v_ f_ H locs hp hW => ?_)
  obtain ⟨hpv, a1, q1, hAa1, hQq1, hpe⟩ := hp
  rw [hpe] at hW
  subst hpv
  refine lp_w3 (Wg := fun (H : Heap) (locs : List Loc) (ls : Array Slot) => W p_ l e_ { frames := 3, cells := 0, slots := 0, locals := 70 } s_ m_ ([.ref (ix 100), .int (iI c), .int (iI (bI bq))] : List Value).toArray be_ me_ co_ H locs 0 0 (MQ be_ (gQ D B0 (fun (r : Option Value) (g : gF) => r = some (.int (iI (sRedS S I c bq).1)) ∧ ∃ (J : Int → Bool) (a q : Int → Int64), g = mW cy ix (sRedS S I c bq).2 (mX J a q tM) G)) ([.ref (ix 100), .int (iI c), .int (iI (bI bq))] : List Value).toArray s_ 0 0 (fun q : Nat => B0 ≤ q)) (F0 m_ 4 ls [])) (fun (J : Int → Bool) (a0 : Int → Int64) (q0 : Int → Int64) (H : Heap) (locs : List Loc) (ls : Array Slot) => ((∀ x : Int, 0 ≤ x → x < 21 → a0 x = dS S J (S.1 8 0).toNat x) ∧ (∀ x : Int, 0 ≤ x → x < 108 → q0 x = pS S J (S.1 8 0).toNat x) ∧ (∃ n : Nat, cnB J (nP S) < n ∧ sRedN S c bq n J = sRed S I c bq) ∧ ∀ j : Int, J j = true → I j = true) ∧ gW D B0 s_.heap (mW cy ix S (mX (J) (a0) (q0) (tM)) G) H locs ∧ lv_has ls 5 [(2, .int (iI (bI (bq)))), (1, .int (iI (c))), (0, .ref (ix 100))]) (fun (J : Int → Bool) (a0 : Int → Int64) (q0 : Int → Int64) => (cnB J (nP S)).toNat) (fun J a0 q0 H locs ls hI ih_lp_1 => ?_) (I) (a1) (q1) _ _ _ ⟨⟨hAa1, hQq1, ⟨61, by have := cnB_le I (nP S); have := nP_le hwf; omega, rfl⟩, fun _ h => h⟩, hW, lv_sub hl [2, 1, 0] rfl⟩
  obtain ⟨hI_lp_1, hW, hl⟩ := hI
  obtain ⟨hA0, hQ0, ⟨n, hn, hrn⟩, hsub⟩ := hI_lp_1
  have hcJ := cnB_nn J (nP S)
  have efit : fiX S a0 q0 c = fit S J c := fiX_congr hc hA0 hQ0
  refine lv_aload_n hx hb dX12_reduces_4 rfl (lv_at hl 2 rfl) ?_
  refine lv_iload_n hx hb dX12_reduces_5 rfl (lv_at hl 1 rfl) ?_
  refine g_callV (i := 0) (As := [.int (iI (c))]) (rest := []) K (c_M_fits (c) ⟨by omega, by omega⟩ hwf) (cwV 1 hts gM_X12_fits rfl rfl rfl (by decide +kernel) ⟨Nat.le_of_ble_eq_true rfl, Nat.le_of_ble_eq_true rfl⟩) hK hW (mW_0 _ _ _ _ _) rfl rfl hl.1 rfl (Nat.le_of_ble_eq_true rfl) dX12_reduces_6 ⟨Nat.le_refl _, Nat.le_refl _⟩ (fun v_ f_ H locs hp hW => ?_)
  obtain ⟨hpv, hpe⟩ := hp
  rw [hpe] at hW
  have hpv : v_ = some (.int (iI (bI (fiX S a0 q0 (c))))) := hpv
  subst hpv
  refine xi_ifb_ne (tgt := 131) hx hb dX12_reduces_9 (by decide) (fun c_2 => ?_) (fun c_2 => ?_)
  · have hR : J = sRed S I c bq := by
      rw [← hrn]
      cases n with
      | zero => omega
      | succ n => unfold sRedN; rw [if_pos (by rw [← efit]; exact c_2)]
    refine lv_aload_n hx hb dX12_reduces_131 rfl (lv_at hl 2 rfl) ?_
    refine g_callV (i := 0) (As := []) (rest := []) K (c_M_settles  ho (fun j h1 h2 h3 => hI j h1 h2 (hsub j h3))) (cwV 0 hts gM_X12_settles rfl rfl rfl (by decide +kernel) ⟨Nat.le_of_ble_eq_true rfl, Nat.le_of_ble_eq_true rfl⟩) hK hW (mW_0 _ _ _ _ _) rfl rfl hl.1 rfl (Nat.le_of_ble_eq_true rfl) dX12_reduces_132 ⟨Nat.le_refl _, Nat.le_refl _⟩ (fun v_ f_ H locs hp hW => ?_)
    obtain ⟨hpv, hpe⟩ := hp
    rw [hpe] at hW
    have hpv : v_ = some (.int (iI (cnB J (S.1 8 0).toNat))) := hpv
    subst hpv
    exact g_iret hx hb hr hW ⟨by rw [hR]; rfl, _, _, _, by rw [hR]; rfl⟩ dX12_reduces_135 hlk
  · have hfit : fit S J c = false := by rw [← efit]; exact c_2
    refine xi_iconst hx hb dX12_reduces_12 ?_
    refine lv_istore_n (lv' := [(3, .int (iI ((-1)))), (2, .int (iI (bI (bq)))), (1, .int (iI (c))), (0, .ref (ix 100))]) hx hb dX12_reduces_13 rfl hl (by decide) rfl (fun ls hl => ?_)
    refine xi_iconst hx hb dX12_reduces_14 ?_
    refine lv_istore (lv' := [(4, .int (iI (5))), (3, .int (iI ((-1)))), (2, .int (iI (bI (bq)))), (1, .int (iI (c))), (0, .ref (ix 100))]) hx hb dX12_reduces_15 hl (by decide) rfl (fun ls hl => ?_)
    refine lp_w2 (Wg := fun (H : Heap) (locs : List Loc) (ls : Array Slot) => W p_ l e_ { frames := 3, cells := 0, slots := 0, locals := 70 } s_ m_ ([.ref (ix 100), .int (iI c), .int (iI (bI bq))] : List Value).toArray be_ me_ co_ H locs 0 0 (MQ be_ (gQ D B0 (fun (r : Option Value) (g : gF) => r = some (.int (iI (sRedS S I c bq).1)) ∧ ∃ (J : Int → Bool) (a q : Int → Int64), g = mW cy ix (sRedS S I c bq).2 (mX J a q tM) G)) ([.ref (ix 100), .int (iI c), .int (iI (bI bq))] : List Value).toArray s_ 0 0 (fun q : Nat => B0 ≤ q)) (F0 m_ 17 ls [])) (fun (y : Int) (r1 : Int) (H : Heap) (locs : List Loc) (ls : Array Slot) => ((-1 ≤ y ∧ y ≤ 5) ∧ (-1 ≤ r1 ∧ r1 ≤ 59) ∧ r1 = o1X S a0 J c bq (5 - y).toNat) ∧ gW D B0 s_.heap (mW cy ix S (mX (J) (a0) (q0) (tM)) G) H locs ∧ lv_has ls 5 [(4, .int (iI (y))), (3, .int (iI (r1))), (2, .int (iI (bI (bq)))), (1, .int (iI (c))), (0, .ref (ix 100))]) (fun (y : Int) (r1 : Int) => (y + 1).toNat) (fun y r1 H locs ls hI ih_lp_3 => ?_) (5) (-1) _ _ _ ⟨⟨by decide, by decide, rfl⟩, hW, lv_sub hl [0, 1, 2, 3, 4] rfl⟩
    obtain ⟨hI_lp_3, hW, hl⟩ := hI
    obtain ⟨hy, hr1r, hr1⟩ := hI_lp_3
    refine lv_iload hx hb dX12_reduces_17 (lv_at hl 0 rfl) ?_
    refine xi_if_lt (tgt := 51) hx hb ⟨by omega, by omega⟩ dX12_reduces_19 (by decide) (fun c_4 => ?_) (fun c_4 => ?_)
    · have hr1e : r1 = o1X S a0 J c bq 6 := by rw [hr1, show y = -1 by omega]; rfl
      have hsA : shA S a0 c = true → 0 ≤ r1 := by
        intro hs
        have e1 : shA S a0 c = shA S (dS S J (nP S)) c := anB_congr (fun b h1 h2 => shX_congr (hA0 _ (by omega) (by omega)))
        have e2 := o1X_in (q := bq) hwf hc (by rw [← e1]; exact hs)
        have e3 : o1X S a0 J c bq 6 = o1X S (dS S J (nP S)) J c bq 6 := foS_congr (fun k h1 h2 x => by rw [shX_congr (hA0 _ (by omega) (by omega))]; rfl)
        rw [hr1e, e3]; exact e2.1
      refine xi_bipush hx hb dX12_reduces_51 (by decide) ?_
      refine lv_istore (lv' := [(4, .int (iI (35))), (3, .int (iI (r1))), (2, .int (iI (bI (bq)))), (1, .int (iI (c))), (0, .ref (ix 100))]) hx hb dX12_reduces_53 hl (by decide) rfl (fun ls hl => ?_)
      refine lp_w2 (Wg := fun (H : Heap) (locs : List Loc) (ls : Array Slot) => W p_ l e_ { frames := 3, cells := 0, slots := 0, locals := 70 } s_ m_ ([.ref (ix 100), .int (iI c), .int (iI (bI bq))] : List Value).toArray be_ me_ co_ H locs 0 0 (MQ be_ (gQ D B0 (fun (r : Option Value) (g : gF) => r = some (.int (iI (sRedS S I c bq).1)) ∧ ∃ (J : Int → Bool) (a q : Int → Int64), g = mW cy ix (sRedS S I c bq).2 (mX J a q tM) G)) ([.ref (ix 100), .int (iI c), .int (iI (bI bq))] : List Value).toArray s_ 0 0 (fun q : Nat => B0 ≤ q)) (F0 m_ 55 ls [])) (fun (z : Int) (r2 : Int) (H : Heap) (locs : List Loc) (ls : Array Slot) => ((-1 ≤ z ∧ z ≤ 35) ∧ (-1 ≤ r2 ∧ r2 ≤ 59) ∧ ((shA S a0 c = true ∧ z = 35 ∧ r2 = r1 ∧ 0 ≤ r1) ∨ (shA S a0 c = false ∧ r2 = o2X S q0 J c bq (35 - z).toNat))) ∧ gW D B0 s_.heap (mW cy ix S (mX (J) (a0) (q0) (tM)) G) H locs ∧ lv_has ls 5 [(4, .int (iI (z))), (3, .int (iI (r2))), (2, .int (iI (bI (bq)))), (1, .int (iI (c))), (0, .ref (ix 100))]) (fun (z : Int) (r2 : Int) => (z + 1).toNat) (fun z r2 H locs ls hI ih_lp_5 => ?_) (35) (r1) _ _ _ ⟨⟨by decide, hr1r, by
        cases hs : shA S a0 c with
        | true => exact Or.inl ⟨rfl, rfl, rfl, hsA hs⟩
        | false => exact Or.inr ⟨rfl, by rw [hr1e, o1X_none (by decide) hs]; rfl⟩⟩, hW, lv_sub hl [0, 1, 2, 3, 4] rfl⟩
      obtain ⟨hI_lp_5, hW, hl⟩ := hI
      obtain ⟨hz, hr2r, hr2⟩ := hI_lp_5
      refine lv_iload hx hb dX12_reduces_55 (lv_at hl 0 rfl) ?_
      refine xi_if_lt (tgt := 117) hx hb ⟨by omega, by omega⟩ dX12_reduces_57 (by decide) (fun c_6 => ?_) (fun c_6 => ?_)
      · obtain ⟨out, hot⟩ : ∃ x : Int, x = r2 := ⟨_, rfl⟩
        have hout : out = outO S J c bq := by
          rw [show outO S J c bq = outX S a0 q0 J c bq from (outX_congr hc hA0 hQ0).symm, hot]
          unfold outX
          rcases hr2 with h | h
          · rw [if_pos h.1, h.2.2.1, hr1e]
          · rw [if_neg (by rw [h.1]; decide), h.2, show z = -1 by omega]; rfl
        obtain ⟨hin0, hin1, hin2⟩ := hout ▸ outO_in (q := bq) hwf hc hfit
        rw [← hot] at hl
        have hl : lv_has ls 5 [(4, .int (iI (z))), (3, .int (iI (out))), (2, .int (iI (bI (bq)))), (1, .int (iI (c))), (0, .ref (ix 100))] := hl
        have h8 := nP_le hwf
        refine lv_aload_n hx hb dX12_reduces_117 rfl (lv_at hl 4 rfl) ?_
        refine mr_get K hK hW hin 33 (by decide) lM_isIn (v := .ref (ix 133)) rfl dX12_reduces_118 ?_
        refine lv_iload_n hx hb dX12_reduces_121 rfl (lv_at hl 1 rfl) ?_
        refine xi_iconst hx hb dX12_reduces_122 ?_
        refine mr_zastI K hK hW rfl (v := false) ⟨by omega, by omega⟩ dX12_reduces_123 (fun H locs hW => ?_)
        refine lv_aload_n hx hb dX12_reduces_124 rfl (lv_at hl 4 rfl) ?_
        refine g_callV (i := 0) (As := []) (rest := []) K (c_M_sums hwf) (cwV 0 hts gM_X12_sums rfl rfl rfl (by decide +kernel) ⟨Nat.le_of_ble_eq_true rfl, Nat.le_of_ble_eq_true rfl⟩) hK hW (mW_0 _ _ _ _ _) rfl rfl hl.1 rfl (Nat.le_of_ble_eq_true rfl) dX12_reduces_125 ⟨Nat.le_refl _, Nat.le_refl _⟩ (fun v_ f_ H locs hp hW => ?_)
        obtain ⟨hpv, a2, q2, hAa2, hQq2, hpe⟩ := hp
        rw [hpe] at hW
        subst hpv
        refine lv_goto (tgt := 4) hx hb dX12_reduces_128 (by decide) ?_
        have hcb := cnB_iup (n := nP S) hin0 hin1 hin2
        have hcn := cnB_nn (iup J out false) (nP S)
        exact ih_lp_1 (iup J out false) (a2) (q2) _ _ _ (by first | omega | (dsimp only; omega)) ⟨⟨hAa2, hQq2, by
                cases n with
                | zero => omega
                | succ n =>
                  refine ⟨n, by omega, ?_⟩
                  rw [← hrn]
                  conv => rhs; unfold sRedN
                  rw [if_neg (by rw [hfit]; decide), ← hout], fun j hj => hsub j (by
                  by_cases e : j = out
                  · rw [e, iup_s] at hj; cases hj
                  · rwa [iup_n _ _ e] at hj)⟩, hW, lv_sub hl [2, 3, 4] rfl⟩
      · refine lv_iload_n hx hb dX12_reduces_60 rfl (lv_at hl 1 rfl) ?_
        refine xi_iconst hx hb dX12_reduces_61 ?_
        refine xi_icmp_eq (tgt := 73) hx hb ⟨by omega, by omega⟩ ⟨by omega, by omega⟩ dX12_reduces_62 (by decide) (fun c_7 => ?_) (fun c_7 => ?_)
        · have hs0 : shA S a0 c = false ∧ r2 = o2X S q0 J c bq (35 - z).toNat := by
            rcases hr2 with h | h
            · omega
            · exact h
          have j_8 : ∀ (zJ : Int) (H : Heap) (locs : List Loc), zJ = (if paX S q0 (z / 6) (z % 6) c = true then laS S J (z / 6) (z % 6) bq (nP S) else r2) → gW D B0 s_.heap (mW cy ix S (mX (J) (a0) (q0) (tM)) G) H locs → W p_ l e_ { frames := 3, cells := 0, slots := 0, locals := 70 } s_ m_ ([.ref (ix 100), .int (iI c), .int (iI (bI bq))] : List Value).toArray be_ me_ co_ H locs 0 0 (MQ be_ (gQ D B0 (fun (r : Option Value) (g : gF) => r = some (.int (iI (sRedS S I c bq).1)) ∧ ∃ (J : Int → Bool) (a q : Int → Int64), g = mW cy ix (sRedS S I c bq).2 (mX J a q tM) G)) ([.ref (ix 100), .int (iI c), .int (iI (bI bq))] : List Value).toArray s_ 0 0 (fun q : Nat => B0 ≤ q)) (F0 m_ 110 ls [.int (iI (zJ))]) := by
            intro zJ H locs hzJ hW
            subst hzJ
            have hjr2 : -1 ≤ (if paX S q0 (z / 6) (z % 6) c = true then laS S J (z / 6) (z % 6) bq (nP S) else r2) ∧ (if paX S q0 (z / 6) (z % 6) c = true then laS S J (z / 6) (z % 6) bq (nP S) else r2) ≤ 59 := by
              have h8 := nP_le hwf
              have hm := laS_mem (S := S) (I := J) (b := z / 6) (u := z % 6) (q := bq) (n := nP S)
              split <;> omega
            refine lv_istore_n (lv' := [(3, .int (iI (if paX S q0 (z / 6) (z % 6) c = true then laS S J (z / 6) (z % 6) bq (nP S) else r2))), (4, .int (iI (z))), (2, .int (iI (bI (bq)))), (1, .int (iI (c))), (0, .ref (ix 100))]) hx hb dX12_reduces_110 rfl hl (by decide) rfl (fun ls hl => ?_)
            refine xi_iinc (lv' := [(4, .int (iI (z + (-1)))), (3, .int (iI (if paX S q0 (z / 6) (z % 6) c = true then laS S J (z / 6) (z % 6) bq (nP S) else r2))), (2, .int (iI (bI (bq)))), (1, .int (iI (c))), (0, .ref (ix 100))]) hx hb dX12_reduces_111 hl (k := 1) rfl (by decide) rfl (fun ls hl => ?_)
            refine lv_goto (tgt := 55) hx hb dX12_reduces_114 (by decide) ?_
            exact ih_lp_5 (z + (-1)) (if paX S q0 (z / 6) (z % 6) c = true then laS S J (z / 6) (z % 6) bq (nP S) else r2) _ _ _ (by first | omega | (dsimp only; omega)) ⟨⟨⟨by omega, by omega⟩, hjr2, Or.inr ⟨hs0.1, by rw [show (35 - (z + (-1))).toNat = (35 - z).toNat + 1 by omega, o2X_s, show (35 - (((35 - z).toNat : Nat) : Int)) = z by omega, ← hs0.2]⟩⟩, hW, lv_sub hl [0, 1, 2, 3, 4] rfl⟩
          refine lv_aload_n hx hb dX12_reduces_73 rfl (lv_at hl 4 rfl) ?_
          refine lv_iload hx hb dX12_reduces_74 (lv_at hl 0 rfl) ?_
          refine xi_bipush hx hb dX12_reduces_76 (by decide) ?_
          refine xi_idiv hx hb ⟨by omega, by omega⟩ ⟨by omega, by omega⟩ dX12_reduces_78 ?_
          refine lv_iload hx hb dX12_reduces_79 (lv_at hl 0 rfl) ?_
          refine xi_bipush hx hb dX12_reduces_81 (by decide) ?_
          refine xi_irem hx hb ⟨by omega, by omega⟩ ⟨by omega, by omega⟩ dX12_reduces_83 ?_
          refine lv_iload_n hx hb dX12_reduces_84 rfl (lv_at hl 3 rfl) ?_
          refine g_callV (i := 0) (As := [.int (iI (z / 6)), .int (iI (z % 6)), .int (iI (c))]) (rest := []) K (c_M_isPassed (z / 6) (z % 6) (c) ⟨by omega, by omega⟩ ⟨by omega, by omega⟩ ⟨by omega, by omega⟩ hwf) (cwV 3 hts gM_X12_isPassed rfl rfl rfl (by decide +kernel) ⟨Nat.le_of_ble_eq_true rfl, Nat.le_of_ble_eq_true rfl⟩) hK hW (mW_0 _ _ _ _ _) rfl rfl hl.1 rfl (Nat.le_of_ble_eq_true rfl) dX12_reduces_85 ⟨Nat.le_refl _, Nat.le_refl _⟩ (fun v_ f_ H locs hp hW => ?_)
          obtain ⟨hpv, hpe⟩ := hp
          rw [hpe] at hW
          have hpv : v_ = some (.int (iI (bI (paX S q0 (z / 6) (z % 6) (c))))) := hpv
          subst hpv
          refine xi_ifb_eq (tgt := 109) hx hb dX12_reduces_88 (by decide) (fun c_9 => ?_) (fun c_9 => ?_)
          · refine lv_iload_n hx hb dX12_reduces_109 rfl (lv_at hl 1 rfl) ?_
            exact xi_eq (z' := if paX S q0 (z / 6) (z % 6) c = true then laS S J (z / 6) (z % 6) bq (nP S) else r2) (by rw [if_neg (by rw [c_9]; decide)]) (j_8 _ _ _ rfl hW)
          · refine lv_aload_n hx hb dX12_reduces_91 rfl (lv_at hl 4 rfl) ?_
            refine lv_iload hx hb dX12_reduces_92 (lv_at hl 0 rfl) ?_
            refine xi_bipush hx hb dX12_reduces_94 (by decide) ?_
            refine xi_idiv hx hb ⟨by omega, by omega⟩ ⟨by omega, by omega⟩ dX12_reduces_96 ?_
            refine lv_iload hx hb dX12_reduces_97 (lv_at hl 0 rfl) ?_
            refine xi_bipush hx hb dX12_reduces_99 (by decide) ?_
            refine xi_irem hx hb ⟨by omega, by omega⟩ ⟨by omega, by omega⟩ dX12_reduces_101 ?_
            refine lv_iload_n hx hb dX12_reduces_102 rfl (lv_at hl 2 rfl) ?_
            refine g_callV (i := 0) (As := [.int (iI (z / 6)), .int (iI (z % 6)), .int (iI (bI (bq)))]) (rest := []) K (c_M_last (z / 6) (z % 6) (bq) ⟨by omega, by omega⟩ ⟨by omega, by omega⟩ hwf) (cwV 3 hts gM_X12_last rfl rfl rfl (by decide +kernel) ⟨Nat.le_of_ble_eq_true rfl, Nat.le_of_ble_eq_true rfl⟩) hK hW (mW_0 _ _ _ _ _) rfl rfl hl.1 rfl (Nat.le_of_ble_eq_true rfl) dX12_reduces_103 ⟨Nat.le_refl _, Nat.le_refl _⟩ (fun v_ f_ H locs hp hW => ?_)
            obtain ⟨hpv, hpe⟩ := hp
            rw [hpe] at hW
            have hpv : v_ = some (.int (iI (laS S J (z / 6) (z % 6) (bq) (nP S)))) := hpv
            subst hpv
            refine lv_goto (tgt := 110) hx hb dX12_reduces_106 (by decide) ?_
            exact xi_eq (z' := if paX S q0 (z / 6) (z % 6) c = true then laS S J (z / 6) (z % 6) bq (nP S) else r2) (by rw [if_pos c_9]) (j_8 _ _ _ rfl hW)
        · refine lv_aload_n hx hb dX12_reduces_65 rfl (lv_at hl 4 rfl) ?_
          refine lv_iload_n hx hb dX12_reduces_66 rfl (lv_at hl 3 rfl) ?_
          refine g_callV (i := 0) (As := [.int (iI (c))]) (rest := []) K (c_M_isShortAny (c) ⟨by omega, by omega⟩ hwf) (cwV 1 hts gM_X12_isShortAny rfl rfl rfl (by decide +kernel) ⟨Nat.le_of_ble_eq_true rfl, Nat.le_of_ble_eq_true rfl⟩) hK hW (mW_0 _ _ _ _ _) rfl rfl hl.1 rfl (Nat.le_of_ble_eq_true rfl) dX12_reduces_67 ⟨Nat.le_refl _, Nat.le_refl _⟩ (fun v_ f_ H locs hp hW => ?_)
          obtain ⟨hpv, hpe⟩ := hp
          rw [hpe] at hW
          have hpv : v_ = some (.int (iI (bI (shA S a0 (c))))) := hpv
          subst hpv
          refine xi_ifb_ne (tgt := 117) hx hb dX12_reduces_70 (by decide) (fun c_10 => ?_) (fun c_10 => ?_)
          · obtain ⟨out, hot⟩ : ∃ x : Int, x = r2 := ⟨_, rfl⟩
            have hout : out = outO S J c bq := by
              rw [show outO S J c bq = outX S a0 q0 J c bq from (outX_congr hc hA0 hQ0).symm, hot]
              unfold outX
              rcases hr2 with h | h
              · rw [if_pos h.1, h.2.2.1, hr1e]
              · rw [h.1] at c_10; cases c_10
            obtain ⟨hin0, hin1, hin2⟩ := hout ▸ outO_in (q := bq) hwf hc hfit
            rw [← hot] at hl
            have hl : lv_has ls 5 [(4, .int (iI (z))), (3, .int (iI (out))), (2, .int (iI (bI (bq)))), (1, .int (iI (c))), (0, .ref (ix 100))] := hl
            have h8 := nP_le hwf
            refine lv_aload_n hx hb dX12_reduces_117 rfl (lv_at hl 4 rfl) ?_
            refine mr_get K hK hW hin 33 (by decide) lM_isIn (v := .ref (ix 133)) rfl dX12_reduces_118 ?_
            refine lv_iload_n hx hb dX12_reduces_121 rfl (lv_at hl 1 rfl) ?_
            refine xi_iconst hx hb dX12_reduces_122 ?_
            refine mr_zastI K hK hW rfl (v := false) ⟨by omega, by omega⟩ dX12_reduces_123 (fun H locs hW => ?_)
            refine lv_aload_n hx hb dX12_reduces_124 rfl (lv_at hl 4 rfl) ?_
            refine g_callV (i := 0) (As := []) (rest := []) K (c_M_sums hwf) (cwV 0 hts gM_X12_sums rfl rfl rfl (by decide +kernel) ⟨Nat.le_of_ble_eq_true rfl, Nat.le_of_ble_eq_true rfl⟩) hK hW (mW_0 _ _ _ _ _) rfl rfl hl.1 rfl (Nat.le_of_ble_eq_true rfl) dX12_reduces_125 ⟨Nat.le_refl _, Nat.le_refl _⟩ (fun v_ f_ H locs hp hW => ?_)
            obtain ⟨hpv, a2, q2, hAa2, hQq2, hpe⟩ := hp
            rw [hpe] at hW
            subst hpv
            refine lv_goto (tgt := 4) hx hb dX12_reduces_128 (by decide) ?_
            have hcb := cnB_iup (n := nP S) hin0 hin1 hin2
            have hcn := cnB_nn (iup J out false) (nP S)
            exact ih_lp_1 (iup J out false) (a2) (q2) _ _ _ (by first | omega | (dsimp only; omega)) ⟨⟨hAa2, hQq2, by
                cases n with
                | zero => omega
                | succ n =>
                  refine ⟨n, by omega, ?_⟩
                  rw [← hrn]
                  conv => rhs; unfold sRedN
                  rw [if_neg (by rw [hfit]; decide), ← hout], fun j hj => hsub j (by
                  by_cases e : j = out
                  · rw [e, iup_s] at hj; cases hj
                  · rwa [iup_n _ _ e] at hj)⟩, hW, lv_sub hl [2, 3, 4] rfl⟩
          · have hs0 : shA S a0 c = false ∧ r2 = o2X S q0 J c bq (35 - z).toNat := by
              rcases hr2 with h | h
              · rw [h.1] at c_10; cases c_10
              · exact h
            have j_11 : ∀ (zJ : Int) (H : Heap) (locs : List Loc), zJ = (if paX S q0 (z / 6) (z % 6) c = true then laS S J (z / 6) (z % 6) bq (nP S) else r2) → gW D B0 s_.heap (mW cy ix S (mX (J) (a0) (q0) (tM)) G) H locs → W p_ l e_ { frames := 3, cells := 0, slots := 0, locals := 70 } s_ m_ ([.ref (ix 100), .int (iI c), .int (iI (bI bq))] : List Value).toArray be_ me_ co_ H locs 0 0 (MQ be_ (gQ D B0 (fun (r : Option Value) (g : gF) => r = some (.int (iI (sRedS S I c bq).1)) ∧ ∃ (J : Int → Bool) (a q : Int → Int64), g = mW cy ix (sRedS S I c bq).2 (mX J a q tM) G)) ([.ref (ix 100), .int (iI c), .int (iI (bI bq))] : List Value).toArray s_ 0 0 (fun q : Nat => B0 ≤ q)) (F0 m_ 110 ls [.int (iI (zJ))]) := by
              intro zJ H locs hzJ hW
              subst hzJ
              have hjr2 : -1 ≤ (if paX S q0 (z / 6) (z % 6) c = true then laS S J (z / 6) (z % 6) bq (nP S) else r2) ∧ (if paX S q0 (z / 6) (z % 6) c = true then laS S J (z / 6) (z % 6) bq (nP S) else r2) ≤ 59 := by
                have h8 := nP_le hwf
                have hm := laS_mem (S := S) (I := J) (b := z / 6) (u := z % 6) (q := bq) (n := nP S)
                split <;> omega
              refine lv_istore_n (lv' := [(3, .int (iI (if paX S q0 (z / 6) (z % 6) c = true then laS S J (z / 6) (z % 6) bq (nP S) else r2))), (4, .int (iI (z))), (2, .int (iI (bI (bq)))), (1, .int (iI (c))), (0, .ref (ix 100))]) hx hb dX12_reduces_110 rfl hl (by decide) rfl (fun ls hl => ?_)
              refine xi_iinc (lv' := [(4, .int (iI (z + (-1)))), (3, .int (iI (if paX S q0 (z / 6) (z % 6) c = true then laS S J (z / 6) (z % 6) bq (nP S) else r2))), (2, .int (iI (bI (bq)))), (1, .int (iI (c))), (0, .ref (ix 100))]) hx hb dX12_reduces_111 hl (k := 1) rfl (by decide) rfl (fun ls hl => ?_)
              refine lv_goto (tgt := 55) hx hb dX12_reduces_114 (by decide) ?_
              exact ih_lp_5 (z + (-1)) (if paX S q0 (z / 6) (z % 6) c = true then laS S J (z / 6) (z % 6) bq (nP S) else r2) _ _ _ (by first | omega | (dsimp only; omega)) ⟨⟨⟨by omega, by omega⟩, hjr2, Or.inr ⟨hs0.1, by rw [show (35 - (z + (-1))).toNat = (35 - z).toNat + 1 by omega, o2X_s, show (35 - (((35 - z).toNat : Nat) : Int)) = z by omega, ← hs0.2]⟩⟩, hW, lv_sub hl [0, 1, 2, 3, 4] rfl⟩
            refine lv_aload_n hx hb dX12_reduces_73 rfl (lv_at hl 4 rfl) ?_
            refine lv_iload hx hb dX12_reduces_74 (lv_at hl 0 rfl) ?_
            refine xi_bipush hx hb dX12_reduces_76 (by decide) ?_
            refine xi_idiv hx hb ⟨by omega, by omega⟩ ⟨by omega, by omega⟩ dX12_reduces_78 ?_
            refine lv_iload hx hb dX12_reduces_79 (lv_at hl 0 rfl) ?_
            refine xi_bipush hx hb dX12_reduces_81 (by decide) ?_
            refine xi_irem hx hb ⟨by omega, by omega⟩ ⟨by omega, by omega⟩ dX12_reduces_83 ?_
            refine lv_iload_n hx hb dX12_reduces_84 rfl (lv_at hl 3 rfl) ?_
            refine g_callV (i := 0) (As := [.int (iI (z / 6)), .int (iI (z % 6)), .int (iI (c))]) (rest := []) K (c_M_isPassed (z / 6) (z % 6) (c) ⟨by omega, by omega⟩ ⟨by omega, by omega⟩ ⟨by omega, by omega⟩ hwf) (cwV 3 hts gM_X12_isPassed rfl rfl rfl (by decide +kernel) ⟨Nat.le_of_ble_eq_true rfl, Nat.le_of_ble_eq_true rfl⟩) hK hW (mW_0 _ _ _ _ _) rfl rfl hl.1 rfl (Nat.le_of_ble_eq_true rfl) dX12_reduces_85 ⟨Nat.le_refl _, Nat.le_refl _⟩ (fun v_ f_ H locs hp hW => ?_)
            obtain ⟨hpv, hpe⟩ := hp
            rw [hpe] at hW
            have hpv : v_ = some (.int (iI (bI (paX S q0 (z / 6) (z % 6) (c))))) := hpv
            subst hpv
            refine xi_ifb_eq (tgt := 109) hx hb dX12_reduces_88 (by decide) (fun c_12 => ?_) (fun c_12 => ?_)
            · refine lv_iload_n hx hb dX12_reduces_109 rfl (lv_at hl 1 rfl) ?_
              exact xi_eq (z' := if paX S q0 (z / 6) (z % 6) c = true then laS S J (z / 6) (z % 6) bq (nP S) else r2) (by rw [if_neg (by rw [c_12]; decide)]) (j_11 _ _ _ rfl hW)
            · refine lv_aload_n hx hb dX12_reduces_91 rfl (lv_at hl 4 rfl) ?_
              refine lv_iload hx hb dX12_reduces_92 (lv_at hl 0 rfl) ?_
              refine xi_bipush hx hb dX12_reduces_94 (by decide) ?_
              refine xi_idiv hx hb ⟨by omega, by omega⟩ ⟨by omega, by omega⟩ dX12_reduces_96 ?_
              refine lv_iload hx hb dX12_reduces_97 (lv_at hl 0 rfl) ?_
              refine xi_bipush hx hb dX12_reduces_99 (by decide) ?_
              refine xi_irem hx hb ⟨by omega, by omega⟩ ⟨by omega, by omega⟩ dX12_reduces_101 ?_
              refine lv_iload_n hx hb dX12_reduces_102 rfl (lv_at hl 2 rfl) ?_
              refine g_callV (i := 0) (As := [.int (iI (z / 6)), .int (iI (z % 6)), .int (iI (bI (bq)))]) (rest := []) K (c_M_last (z / 6) (z % 6) (bq) ⟨by omega, by omega⟩ ⟨by omega, by omega⟩ hwf) (cwV 3 hts gM_X12_last rfl rfl rfl (by decide +kernel) ⟨Nat.le_of_ble_eq_true rfl, Nat.le_of_ble_eq_true rfl⟩) hK hW (mW_0 _ _ _ _ _) rfl rfl hl.1 rfl (Nat.le_of_ble_eq_true rfl) dX12_reduces_103 ⟨Nat.le_refl _, Nat.le_refl _⟩ (fun v_ f_ H locs hp hW => ?_)
              obtain ⟨hpv, hpe⟩ := hp
              rw [hpe] at hW
              have hpv : v_ = some (.int (iI (laS S J (z / 6) (z % 6) (bq) (nP S)))) := hpv
              subst hpv
              refine lv_goto (tgt := 110) hx hb dX12_reduces_106 (by decide) ?_
              exact xi_eq (z' := if paX S q0 (z / 6) (z % 6) c = true then laS S J (z / 6) (z % 6) bq (nP S) else r2) (by rw [if_pos c_12]) (j_11 _ _ _ rfl hW)
    · have j_13 : ∀ (zJ : Int) (H : Heap) (locs : List Loc), zJ = (if shX S a0 y c = true then laS S J y (-1) bq (nP S) else r1) → gW D B0 s_.heap (mW cy ix S (mX (J) (a0) (q0) (tM)) G) H locs → W p_ l e_ { frames := 3, cells := 0, slots := 0, locals := 70 } s_ m_ ([.ref (ix 100), .int (iI c), .int (iI (bI bq))] : List Value).toArray be_ me_ co_ H locs 0 0 (MQ be_ (gQ D B0 (fun (r : Option Value) (g : gF) => r = some (.int (iI (sRedS S I c bq).1)) ∧ ∃ (J : Int → Bool) (a q : Int → Int64), g = mW cy ix (sRedS S I c bq).2 (mX J a q tM) G)) ([.ref (ix 100), .int (iI c), .int (iI (bI bq))] : List Value).toArray s_ 0 0 (fun q : Nat => B0 ≤ q)) (F0 m_ 44 ls [.int (iI (zJ))]) := by
        intro zJ H locs hzJ hW
        subst hzJ
        have hjr : -1 ≤ (if shX S a0 y c = true then laS S J y (-1) bq (nP S) else r1) ∧ (if shX S a0 y c = true then laS S J y (-1) bq (nP S) else r1) ≤ 59 := by
          have h8 := nP_le hwf
          have hm := laS_mem (S := S) (I := J) (b := y) (u := -1) (q := bq) (n := nP S)
          split <;> omega
        refine lv_istore_n (lv' := [(3, .int (iI (if shX S a0 y c = true then laS S J y (-1) bq (nP S) else r1))), (4, .int (iI (y))), (2, .int (iI (bI (bq)))), (1, .int (iI (c))), (0, .ref (ix 100))]) hx hb dX12_reduces_44 rfl hl (by decide) rfl (fun ls hl => ?_)
        refine xi_iinc (lv' := [(4, .int (iI (y + (-1)))), (3, .int (iI (if shX S a0 y c = true then laS S J y (-1) bq (nP S) else r1))), (2, .int (iI (bI (bq)))), (1, .int (iI (c))), (0, .ref (ix 100))]) hx hb dX12_reduces_45 hl (k := 1) rfl (by decide) rfl (fun ls hl => ?_)
        refine lv_goto (tgt := 17) hx hb dX12_reduces_48 (by decide) ?_
        exact ih_lp_3 (y + (-1)) (if shX S a0 y c = true then laS S J y (-1) bq (nP S) else r1) _ _ _ (by first | omega | (dsimp only; omega)) ⟨⟨⟨by omega, by omega⟩, hjr, by rw [show (5 - (y + (-1))).toNat = (5 - y).toNat + 1 by omega, o1X_s, show (5 - (((5 - y).toNat : Nat) : Int)) = y by omega, ← hr1]⟩, hW, lv_sub hl [0, 1, 2, 3, 4] rfl⟩
      refine lv_aload_n hx hb dX12_reduces_22 rfl (lv_at hl 4 rfl) ?_
      refine lv_iload hx hb dX12_reduces_23 (lv_at hl 0 rfl) ?_
      refine lv_iload_n hx hb dX12_reduces_25 rfl (lv_at hl 3 rfl) ?_
      refine g_callV (i := 0) (As := [.int (iI (y)), .int (iI (c))]) (rest := []) K (c_M_isShort (y) (c) ⟨by omega, by omega⟩ ⟨by omega, by omega⟩ hwf) (cwV 2 hts gM_X12_isShort rfl rfl rfl (by decide +kernel) ⟨Nat.le_of_ble_eq_true rfl, Nat.le_of_ble_eq_true rfl⟩) hK hW (mW_0 _ _ _ _ _) rfl rfl hl.1 rfl (Nat.le_of_ble_eq_true rfl) dX12_reduces_26 ⟨Nat.le_refl _, Nat.le_refl _⟩ (fun v_ f_ H locs hp hW => ?_)
      obtain ⟨hpv, hpe⟩ := hp
      rw [hpe] at hW
      have hpv : v_ = some (.int (iI (bI (shX S a0 (y) (c))))) := hpv
      subst hpv
      refine xi_ifb_eq (tgt := 43) hx hb dX12_reduces_29 (by decide) (fun c_14 => ?_) (fun c_14 => ?_)
      · refine lv_iload_n hx hb dX12_reduces_43 rfl (lv_at hl 1 rfl) ?_
        exact xi_eq (z' := if shX S a0 y c = true then laS S J y (-1) bq (nP S) else r1) (by rw [if_neg (by rw [c_14]; decide)]) (j_13 _ _ _ rfl hW)
      · refine lv_aload_n hx hb dX12_reduces_32 rfl (lv_at hl 4 rfl) ?_
        refine lv_iload hx hb dX12_reduces_33 (lv_at hl 0 rfl) ?_
        refine xi_iconst hx hb dX12_reduces_35 ?_
        refine lv_iload_n hx hb dX12_reduces_36 rfl (lv_at hl 2 rfl) ?_
        refine g_callV (i := 0) (As := [.int (iI (y)), .int (iI ((-1))), .int (iI (bI (bq)))]) (rest := []) K (c_M_last (y) ((-1)) (bq) ⟨by omega, by omega⟩ ⟨by omega, by omega⟩ hwf) (cwV 3 hts gM_X12_last rfl rfl rfl (by decide +kernel) ⟨Nat.le_of_ble_eq_true rfl, Nat.le_of_ble_eq_true rfl⟩) hK hW (mW_0 _ _ _ _ _) rfl rfl hl.1 rfl (Nat.le_of_ble_eq_true rfl) dX12_reduces_37 ⟨Nat.le_refl _, Nat.le_refl _⟩ (fun v_ f_ H locs hp hW => ?_)
        obtain ⟨hpv, hpe⟩ := hp
        rw [hpe] at hW
        have hpv : v_ = some (.int (iI (laS S J (y) ((-1)) (bq) (nP S)))) := hpv
        subst hpv
        refine lv_goto (tgt := 44) hx hb dX12_reduces_40 (by decide) ?_
        exact xi_eq (z' := if shX S a0 y c = true then laS S J y (-1) bq (nP S) else r1) (by rw [if_pos c_14]) (j_13 _ _ _ rfl hW)
end
section
/-! what keeps the state in order -/
theorem sIn_iff {v a b : Int} : sIn v a b = true ↔ a ≤ v ∧ v ≤ b := by simp [sIn]
theorem okS_1 {S T : ST} (h : okS S) (e : T.1 = S.1) : okS T := by
  obtain ⟨h1, h2, h3, h4⟩ := h
  have ec : cNF T = cNF S := by unfold cNF; rw [e]
  exact ⟨fun f j => by rw [e]; exact h1 f j, by rw [e, ec]; exact h2, by rw [e, ec]; exact h3, fun b b0 b1 => by rw [e, ec]; exact h4 b b0 b1⟩
theorem okS_pL {S : ST} (h : okS S) (f : Nat) (k : Int) (v : Int64) : okS (pL S f k v) := okS_1 h rfl
theorem cNF_pI {S : ST} {f : Nat} {k v : Int} (hf : f ≠ 18) : cNF (pI S f k v) = cNF S := by
  unfold cNF
  rw [pI_f S k v (Ne.symm hf)]
theorem okS_pI {S : ST} (h : okS S) {f : Nat} (k v : Int) (hf : f ≠ 18 ∧ f ≠ 27 ∧ f ≠ 31 ∧ f ≠ 44) (hv : rLo f ≤ v ∧ v ≤ rHi f) : okS (pI S f k v) := by
  obtain ⟨h1, h2, h3, h4⟩ := h
  have ec := cNF_pI (S := S) (k := k) (v := v) hf.1
  refine ⟨wf_pI h1 k v hv, ?_, ?_, fun b b0 b1 => ?_⟩
  · rw [ec, pI_f S k v (Ne.symm hf.2.1)]; exact h2
  · rw [ec, pI_f S k v (Ne.symm hf.2.2.1)]; exact h3
  · rw [ec, pI_f S k v (Ne.symm hf.2.2.2)]; exact h4 b b0 b1
/-- a payment's state changes, but not to FINAL or from it -/
theorem cNF_18 {S : ST} {k v : Int} (h0 : 0 ≤ k) (h1 : k < 60) (hs : S.1 18 k ≠ 4) (hv : v ≠ 4) : cNF (pI S 18 k v) = cNF S := by
  have e := suI_at (f := fun j => if S.1 18 j = 4 then 0 else 1) (g := fun j => if (pI S 18 k v).1 18 j = 4 then 0 else 1) (k := k) (n := 60) h0 (by omega) (fun j hj => by rw [pI_n S k j v (Or.inr hj)])
  simp only [pI_s, hs, hv, if_false] at e
  unfold cNF
  omega
theorem okS_18 {S : ST} (h : okS S) {k v : Int} (h0 : 0 ≤ k) (h1 : k < 60) (hs : S.1 18 k ≠ 4) (hv : v ≠ 4) (hr : 0 ≤ v ∧ v ≤ 5) : okS (pI S 18 k v) := by
  obtain ⟨q1, q2, q3, q4⟩ := h
  have ec := cNF_18 h0 h1 hs hv
  refine ⟨wf_pI q1 k v hr, ?_, ?_, fun b b0 b1 => ?_⟩
  · rw [ec, pI_f S k v (show (27 : Nat) ≠ 18 by decide)]; exact q2
  · rw [ec, pI_f S k v (show (31 : Nat) ≠ 18 by decide)]; exact q3
  · rw [ec, pI_f S k v (show (44 : Nat) ≠ 18 by decide)]; exact q4 b b0 b1
theorem sEntV_r (S : ST) (k : Int) : 1 ≤ sEntV S k ∧ sEntV S k ≤ 3 := by
  unfold sEntV
  split
  · omega
  · split <;> omega
theorem okS_ent {S : ST} (h : okS S) {k : Int} (h0 : 0 ≤ k) (h1 : k < 60) (hs : S.1 18 k ≠ 4) : okS (sEnter S k) := by
  have := sEntV_r S k
  exact okS_18 h h0 h1 hs (by omega) (by omega)
theorem sBook_1 (S : ST) (b o c : Int) (v : Int64) (k : Int) : (sBook S b o c v k).1 = (pI S 31 0 (S.1 31 0 + 1)).1 := rfl
theorem cNF_book (S : ST) (b o c : Int) (v : Int64) (k : Int) : cNF (sBook S b o c v k) = cNF S := by
  unfold cNF
  rw [sBook_1, pI_f S 0 _ (show (18 : Nat) ≠ 31 by decide)]
theorem sBook_31 (S : ST) (b o c : Int) (v : Int64) (k : Int) : (sBook S b o c v k).1 31 0 = S.1 31 0 + 1 := by
  rw [sBook_1, pI_s]
theorem sBook_f (S : ST) (b o c : Int) (v : Int64) (k : Int) {f : Nat} (hf : f ≠ 31) : (sBook S b o c v k).1 f = S.1 f := by
  rw [sBook_1, pI_f S 0 _ hf]
theorem okS_book {S : ST} (h : okS S) (b o c : Int) (v : Int64) (k : Int) (he : S.1 31 0 + cNF S ≤ 28999) : okS (sBook S b o c v k) := by
  obtain ⟨q1, q2, q3, q4⟩ := h
  have h31 := wf_31 q1 0
  have hn := cNF_nn S
  have e : okS (pI S 31 0 (S.1 31 0 + 1)) := by
    have ec := cNF_pI (S := S) (f := 31) (k := 0) (v := S.1 31 0 + 1) (by decide)
    refine ⟨wf_pI q1 0 _ ⟨by simp only [rLo]; omega, by simp only [rHi]; omega⟩, ?_, ?_, fun b b0 b1 => ?_⟩
    · rw [ec, pI_f S 0 _ (show (27 : Nat) ≠ 31 by decide)]; exact q2
    · rw [ec, pI_s]; omega
    · rw [ec, pI_f S 0 _ (show (44 : Nat) ≠ 31 by decide)]; exact q4 b b0 b1
  exact okS_1 e (sBook_1 S b o c v k)
/-- legs: FINAL together; none is NETTED -/
def lg4 (S : ST) : Prop := ∀ k : Int, 0 ≤ k → k < S.1 8 0 → S.1 21 k = -1 ∨ ((S.1 18 k = 4 ↔ S.1 18 (S.1 21 k) = 4) ∧ S.1 18 k ≠ 3 ∧ S.1 18 (S.1 21 k) ≠ 3)
theorem okS_ret {S : ST} (h : okS S) {k : Int} (h0 : 0 ≤ k) (h1 : k < S.1 8 0) (hs : S.1 18 k ≠ 4) (hl : lg4 S) : okS (sRet S k) := by
  have h8 := wf_8 h.1 0
  have ha := okS_18 h h0 (by omega) hs (v := 5) (by decide) (by decide)
  unfold sRet
  split
  · rename_i hr
    simp only [sRe1, Bool.and_eq_true, Bool.not_eq_true', decide_eq_false_iff_not] at hr
    have h21 := wf_21 h.1 k
    rcases hl k h0 h1 with q | ⟨q, _, _⟩
    · exact absurd q hr.1
    · refine okS_18 ha (by omega) (by omega) ?_ (by decide) (by decide)
      by_cases e : S.1 21 k = k
      · rw [e, pI_s]; decide
      · rw [pI_n _ _ _ _ (Or.inr e)]
        exact fun x => hs (q.mpr x)
  · exact ha
theorem sRet_18 (S : ST) (k j : Int) : (sRet S k).1 18 j = 5 ∨ (sRet S k).1 18 j = S.1 18 j := by
  unfold sRet
  split
  · by_cases e : j = S.1 21 k
    · rw [e, pI_s]; exact Or.inl rfl
    · rw [pI_n _ _ _ _ (Or.inr e)]
      by_cases e2 : j = k
      · rw [e2, pI_s]; exact Or.inl rfl
      · rw [pI_n _ _ _ _ (Or.inr e2)]; exact Or.inr rfl
  · by_cases e2 : j = k
    · rw [e2, pI_s]; exact Or.inl rfl
    · rw [pI_n _ _ _ _ (Or.inr e2)]; exact Or.inr rfl
theorem sRet_f (S : ST) (k : Int) {f : Nat} (hf : f ≠ 18) : (sRet S k).1 f = S.1 f := by
  unfold sRet
  split
  · rw [pI_f _ _ _ hf, pI_f _ _ _ hf]
  · rw [pI_f _ _ _ hf]
theorem sRet_4 {S : ST} {k j : Int} (hs : S.1 18 k ≠ 4) (hg : S.1 21 k = -1 ∨ (S.1 18 k = 4 ↔ S.1 18 (S.1 21 k) = 4)) : (sRet S k).1 18 j = 4 ↔ S.1 18 j = 4 := by
  unfold sRet
  split
  · rename_i hr
    simp only [sRe1, Bool.and_eq_true, Bool.not_eq_true', decide_eq_false_iff_not] at hr
    have hleg : S.1 18 (S.1 21 k) ≠ 4 := by
      rcases hg with q | q
      · exact absurd q hr.1
      · exact fun x => hs (q.mpr x)
    by_cases e : j = S.1 21 k
    · rw [e, pI_s]
      constructor
      · intro x; omega
      · intro x; exact absurd x hleg
    · rw [pI_n _ _ _ _ (Or.inr e)]
      by_cases e2 : j = k
      · rw [e2, pI_s]
        constructor
        · intro x; omega
        · intro x; exact absurd x hs
      · rw [pI_n _ _ _ _ (Or.inr e2)]
  · by_cases e2 : j = k
    · rw [e2, pI_s]
      constructor
      · intro x; omega
      · intro x; exact absurd x hs
    · rw [pI_n _ _ _ _ (Or.inr e2)]
theorem lg4_ret {S : ST} {k : Int} (h0 : 0 ≤ k) (h1 : k < S.1 8 0) (hs : S.1 18 k ≠ 4) (hl : lg4 S) : lg4 (sRet S k) := by
  intro j j0 j1
  rw [sRet_f S k (show (8 : Nat) ≠ 18 by decide)] at j1
  rw [sRet_f S k (show (21 : Nat) ≠ 18 by decide)]
  have hg : S.1 21 k = -1 ∨ (S.1 18 k = 4 ↔ S.1 18 (S.1 21 k) = 4) := (hl k h0 h1).imp id (fun q => q.1)
  rcases hl j j0 j1 with q | ⟨q1, q2, q3⟩
  · exact Or.inl q
  · refine Or.inr ⟨by rw [sRet_4 hs hg, sRet_4 hs hg]; exact q1, ?_, ?_⟩
    · rcases sRet_18 S k j with e | e <;> rw [e]
      · decide
      · exact q2
    · rcases sRet_18 S k (S.1 21 j) with e | e <;> rw [e]
      · decide
      · exact q3
theorem cNF_ret {S : ST} {k : Int} (hs : S.1 18 k ≠ 4) (hg : S.1 21 k = -1 ∨ (S.1 18 k = 4 ↔ S.1 18 (S.1 21 k) = 4)) : cNF (sRet S k) = cNF S := by
  unfold cNF
  refine suI_congr (fun j _ _ => ?_)
  have := sRet_4 (j := j) hs hg
  by_cases e : S.1 18 j = 4
  · rw [if_pos e, if_pos (this.mpr e)]
  · rw [if_neg e, if_neg (fun x => e (this.mp x))]
/-! the parts of a day's end -/
def netI (S : ST) (c : Int) : Int → Bool := fun k => decide (k < S.1 8 0) && decide (S.1 18 k = 3) && decide (S.1 11 k = c) && decide (S.1 5 (S.1 9 k) = 0) && decide (S.1 5 (S.1 10 k) = 0)
def offI (S : ST) (c : Int) : Int → Bool := fun k => decide (k < S.1 8 0) && decide (S.1 18 k = 2) && decide (S.1 11 k = c) && decide (S.1 21 k = -1) && decide (S.1 5 (S.1 9 k) = 0) && decide (S.1 5 (S.1 10 k) = 0)
theorem sRedN_congr {S : ST} {c : Int} {q : Bool} (hc : 0 ≤ c ∧ c ≤ 2) : ∀ (n : Nat) (I J : Int → Bool), (∀ j : Int, 0 ≤ j → j < nP S → I j = J j) → ∀ j : Int, 0 ≤ j → j < nP S → sRedN S c q n I j = sRedN S c q n J j
  | 0, _, _, h, j, j0, j1 => h j j0 j1
  | n + 1, I, J, h, j, j0, j1 => by
    have ef := fit_congr (S := S) (c := c) hc h
    have eo : outO S I c q = outO S J c q := by
      unfold outO
      rw [outX_congr (a' := dS S J (nP S)) (p' := pS S J (nP S)) hc (fun x _ _ => dS_congr h) (fun x _ _ => pS_congr h)]
      have el : ∀ b u : Int, ∀ m : Nat, m ≤ nP S → laS S I b u q m = laS S J b u q m := by
        intro b u m
        induction m with
        | zero => intro _; rfl
        | succ m ih =>
          intro hm
          rw [laS_s, laS_s, ih (by omega)]
          unfold laN
          rw [h m (by omega) (by omega)]
      unfold outX o1X o2X
      rw [foS_congr (f := fun k r => if shX S (dS S J (nP S)) (5 - k) c = true then laS S I (5 - k) (-1) q (nP S) else r) (g := fun k r => if shX S (dS S J (nP S)) (5 - k) c = true then laS S J (5 - k) (-1) q (nP S) else r) (n := 6) (fun k h1 h2 x => by rw [el _ _ _ (Nat.le_refl _)]),
        foS_congr (f := fun k r => if paX S (pS S J (nP S)) ((35 - k) / 6) ((35 - k) % 6) c = true then laS S I ((35 - k) / 6) ((35 - k) % 6) q (nP S) else r) (g := fun k r => if paX S (pS S J (nP S)) ((35 - k) / 6) ((35 - k) % 6) c = true then laS S J ((35 - k) / 6) ((35 - k) % 6) q (nP S) else r) (n := 36) (fun k h1 h2 x => by rw [el _ _ _ (Nat.le_refl _)])]
    unfold sRedN
    rw [ef]
    split
    · exact h j j0 j1
    · refine sRedN_congr hc n _ _ (fun i i0 i1 => ?_) j j0 j1
      rw [eo]
      unfold iup
      split
      · rfl
      · exact h i i0 i1
theorem sRedS_congr {S : ST} {I J : Int → Bool} {c : Int} {q : Bool} (hc : 0 ≤ c ∧ c ≤ 2) (h : ∀ j : Int, 0 ≤ j → j < nP S → I j = J j) : sRedS S I c q = sRedS S J c q := by
  have h2 := sRedN_congr (q := q) hc 61 I J h
  unfold sRedS sRed
  rw [cnB_congr h2, sSets_congr h2]
theorem sRedS_ok {S : ST} (ho : okS S) {I : Int → Bool} {c : Int} {q : Bool} (hI : ∀ j : Int, 0 ≤ j → j < nP S → I j = true → S.1 18 j ≠ 4) : rdOk S (sRedS S I c q) ∧ ∀ j : Int, (sRedS S I c q).2.1 18 j = S.1 18 j ∨ (0 ≤ j ∧ j < nP S ∧ I j = true) := by
  have hI2 : ∀ j : Int, 0 ≤ j → j < nP S → sRed S I c q j = true → S.1 18 j ≠ 4 := fun j a b h => hI j a b (sRedN_sub 61 I j h)
  obtain ⟨r1, r2, r3, r4⟩ := sSets_inv (I := sRed S I c q) ho (nP S) (nP_le ho.1) hI2
  refine ⟨rdOk_mk r1 (cnB_nn _ _) (by omega) r2, fun j => ?_⟩
  have key : ∀ n : Nat, n ≤ nP S → (sSets S (sRed S I c q) n).1 18 j = S.1 18 j ∨ (0 ≤ j ∧ j < n ∧ I j = true) := by
    intro n
    induction n with
    | zero => intro _; exact Or.inl rfl
    | succ n ih =>
      intro hn
      rw [sSets_s]
      split
      · rename_i hs
        rw [sFin_18]
        split
        · rename_i e
          exact Or.inr ⟨by omega, by omega, by rw [e]; exact sRedN_sub 61 I _ hs⟩
        · rcases ih (by omega) with h | ⟨h1, h2, h3⟩
          · exact Or.inl h
          · exact Or.inr ⟨h1, by omega, h3⟩
      · rcases ih (by omega) with h | ⟨h1, h2, h3⟩
        · exact Or.inl h
        · exact Or.inr ⟨h1, by omega, h3⟩
  rcases key (nP S) (Nat.le_refl _) with h | h
  · exact Or.inl h
  · exact Or.inr h
def sCut (S : ST) (c : Int) : Int × ST := sRedS S (netI S c) c false
theorem netI_3 {S : ST} {c k : Int} (h : netI S c k = true) : S.1 18 k = 3 := by
  simp only [netI, Bool.and_eq_true, decide_eq_true_eq] at h
  exact h.1.1.1.2
theorem sCut_ok {S : ST} (ho : okS S) (hl : lg4 S) (c : Int) : rdOk S (sCut S c) ∧ lg4 (sCut S c).2 := by
  obtain ⟨r1, r2⟩ := sRedS_ok (I := netI S c) (c := c) (q := false) ho (fun j _ _ h => by rw [netI_3 h]; decide)
  refine ⟨r1, fun k k0 k1 => ?_⟩
  have f8 : (sCut S c).2.1 8 = S.1 8 := r1.2.2.2 8 (by unfold cht; decide)
  have f21 : (sCut S c).2.1 21 = S.1 21 := r1.2.2.2 21 (by unfold cht; decide)
  rw [f8] at k1
  rw [f21]
  rcases hl k k0 k1 with q | ⟨q1, q2, q3⟩
  · exact Or.inl q
  · have e : ∀ j : Int, S.1 18 j ≠ 3 → (sCut S c).2.1 18 j = S.1 18 j := fun j hj => by
      rcases r2 j with h | ⟨_, _, h⟩
      · exact h
      · exact absurd (netI_3 h) hj
    rw [e k q2, e _ q3]
    exact Or.inr ⟨q1, q2, q3⟩
def ed1 (c : Int) (x : Int × ST) : Int × ST := if sOpen x.2 c (x.2.1 0 0) = true then (x.1 + (sCut x.2 c).1, (sCut x.2 c).2) else (x.1 + 0, x.2)
def sEd1 (S : ST) : Int × ST := foS ed1 (0, S) 3
def ed2 (k : Int) (S : ST) : ST := if ((decide (S.1 18 k = 2) || decide (S.1 18 k = 3)) && decide (S.1 17 k = 0) && sOpen S (S.1 11 k) (S.1 0 0)) = true then sRet S k else S
def sEd2 (S : ST) : ST := foS ed2 S (nP S)
def feB (S : ST) (b c k : Int) : Bool := decide (S.1 18 k = 4) && decide (S.1 22 k = S.1 0 0) && decide (S.1 9 k = b) && decide (S.1 11 k = c)
def feK (S : ST) (b c k : Int) : Int := if feB S b c k = false then 0 else if S.1 15 k = 0 then 1 else 2
def sFee (S : ST) (b c : Int) (n : Nat) : Int := suI (feK S b c) n
def sBel (S : ST) (b c : Int) : Int64 := if S.2 1 (3 * b + c) < 0 then -(S.2 1 (3 * b + c)) else 0
def sInt (S : ST) (b c : Int) : Int64 := (sBel S b c + 99) / 100
def sCh1 (S : ST) (b c : Int) : ST := if 0 < sFee S b c (nP S) then sBook S b 6 c (Int64.ofInt (sFee S b c (nP S))) (-1) else S
def sChg (S : ST) (b c : Int) : ST := if 0 < sInt S b c then sBook (sCh1 S b c) b 6 c (sInt S b c) (-1) else sCh1 S b c
theorem sFee_r (S : ST) (b c : Int) (n : Nat) : 0 ≤ sFee S b c n ∧ sFee S b c n ≤ 2 * n := by
  constructor
  · exact suI_nn (fun k _ _ => by unfold feK; split; · omega
                                  · split <;> omega)
  · have h := suI_bd (f := feK S b c) (B := 2) (n := n) (fun k _ _ => by unfold feK; split; · omega
                                                                         · split <;> omega)
    exact h.2
def ed3 (k : Int) (S : ST) : ST := sChg S (k / 3) (k % 3)
def sEd3 (S : ST) : ST := foS ed3 S 18
def ed4 (k : Int) (S : ST) : ST := pL S 4 k 0
def sEd4 (S : ST) : ST := foS ed4 (pI S 0 0 (S.1 0 0 + 1)) 108
def ed5 (k : Int) (S : ST) : ST := if (decide (S.1 18 k = 0) && decide (S.1 16 k ≤ S.1 0 0) && sOpen S (S.1 11 k) (S.1 0 0)) = true then sEnter S k else S
def sEd5 (S : ST) : ST := foS ed5 S (nP S)
end
section
section XL
variable {p : Program} {l : Launch} {e : Env} {R : Room} {s : State} {m : MethodId} {args : Array Value} {below : List Frame} {meth : Method} {c : Code} {H : Heap} {locs : List Loc} {cells slots : Nat} {Q : State → Prop}
variable {pc : Nat} {ls : Array Slot} {rest : List Value}
theorem xl_eq {z z' : Int64} (h : z = z') (k : W p l e R s m args below meth c H locs cells slots Q (F0 m pc ls (.long z' :: rest))) : W p l e R s m args below meth c H locs cells slots Q (F0 m pc ls (.long z :: rest)) := by
  rw [h]
  exact k
theorem sGo_0 (a b d : Bool) : sGo a b d = 0 ↔ (a && b && d) = true := by
  unfold sGo
  cases a <;> cases b <;> cases d <;> decide
end XL
set_option maxHeartbeats 4000000 in
set_option maxRecDepth 100000 in
theorem c_M_goes {l : Launch} {D : va_G} {cy : Nat → ClassId} {B0 : Nat} {ix : Nat → Nat} {S : ST} {I : Int → Bool} {aM qM : Int → Int64} {tM : Int} {G : gF} (a : Bool) (b : Bool) (d : Bool)  : gM l yX12_goes vX12_goes 0 0 D cy B0 [.ref (ix 100), .int (iI (bI a)), .int (iI (bI b)), .int (iI (bI d))] (mW cy ix S (mX I aM qM tM) G) (fun r g => r = some (.int (iI (bI (a && b && d)))) ∧ g = mW cy ix S (mX I aM qM (sGo a b d)) G) 0 0 := by
  refine g_start (cc := cX12_goes) (maxL := 4) (ret := (some .boolean)) (by decide) rfl (Nat.le_of_ble_eq_true rfl) ?_
  intro p_ e_ s_ m_ be_ me_ co_ ls H locs K hr hlk hnm hK hW hl
  have hin : ∀ w ∈ wsX120, w ∈ vX12_goes := wsM_cls
  obtain ⟨hx, hb, hml, hown, hts⟩ := id K
  have hl : lv_has ls 4 [(0, .ref (ix 100)), (1, .int (iI (bI (a)))), (2, .int (iI (bI (b)))), (3, .int (iI (bI (d))))] := hl
  refine lv_aload_n hx hb dX12_goes_0 rfl (lv_at hl 0 rfl) ?_
  refine lv_iload_n hx hb dX12_goes_1 rfl (lv_at hl 1 rfl) ?_
  refine xi_ifb_ne (tgt := 9) hx hb dX12_goes_2 (by decide) (fun c_1 => ?_) (fun c_1 => ?_)
  · refine lv_iload_n hx hb dX12_goes_9 rfl (lv_at hl 2 rfl) ?_
    refine xi_ifb_ne (tgt := 17) hx hb dX12_goes_10 (by decide) (fun c_2 => ?_) (fun c_2 => ?_)
    · refine lv_iload_n hx hb dX12_goes_17 rfl (lv_at hl 3 rfl) ?_
      refine xi_ifb_ne (tgt := 25) hx hb dX12_goes_18 (by decide) (fun c_3 => ?_) (fun c_3 => ?_)
      · refine xi_iconst hx hb dX12_goes_25 ?_
        refine mr_put K hK hW hin 36 (by decide) lM_thrown rfl rfl (S' := S) (X' := (mX (I) (aM) (qM) (0))) rfl (fun i hi => mC_t hi) dX12_goes_26 (fun H locs hW => ?_)
        refine lv_aload_n hx hb dX12_goes_29 rfl (lv_at hl 0 rfl) ?_
        refine mr_get K hK hW hin 36 (by decide) lM_thrown (v := .int (iI (0))) rfl dX12_goes_30 ?_
        refine xi_if_ne (tgt := 40) hx hb ⟨by omega, by omega⟩ dX12_goes_33 (by decide) (fun c_4 => ?_) (fun c_4 => ?_)
        · exact absurd c_4 (by decide)
        · refine xi_iconst hx hb dX12_goes_36 ?_
          refine lv_goto (tgt := 41) hx hb dX12_goes_37 (by decide) ?_
          exact g_zret hx hb hr (Or.inr rfl) hW ⟨congrArg (fun z => some (Value.int (iI z))) (bI_t (by simp only [c_1, c_2, c_3, decide_true, decide_false, Bool.true_and, Bool.and_true, Bool.false_and, Bool.and_false, Bool.true_or, Bool.or_true, Bool.false_or, Bool.or_false, Bool.not_true, Bool.not_false, eq_self])), by rw [show sGo a b d = 0 by simp only [sGo, c_1, c_2, c_3, decide_true, decide_false, Bool.true_and, Bool.and_true, Bool.false_and, Bool.and_false, Bool.true_or, Bool.or_true, Bool.false_or, Bool.or_false, Bool.not_true, Bool.not_false, eq_self, if_true, if_false, ite_true, ite_false, Bool.false_eq_true, reduceCtorEq, not_false_eq_true]]⟩ dX12_goes_41 hlk
      · refine xi_iconst hx hb dX12_goes_21 ?_
        refine lv_goto (tgt := 26) hx hb dX12_goes_22 (by decide) ?_
        refine mr_put K hK hW hin 36 (by decide) lM_thrown rfl rfl (S' := S) (X' := (mX (I) (aM) (qM) (3))) rfl (fun i hi => mC_t hi) dX12_goes_26 (fun H locs hW => ?_)
        refine lv_aload_n hx hb dX12_goes_29 rfl (lv_at hl 0 rfl) ?_
        refine mr_get K hK hW hin 36 (by decide) lM_thrown (v := .int (iI (3))) rfl dX12_goes_30 ?_
        refine xi_if_ne (tgt := 40) hx hb ⟨by omega, by omega⟩ dX12_goes_33 (by decide) (fun c_5 => ?_) (fun c_5 => ?_)
        · refine xi_iconst hx hb dX12_goes_40 ?_
          exact g_zret hx hb hr (Or.inl rfl) hW ⟨congrArg (fun z => some (Value.int (iI z))) (bI_f (by simp only [c_1, c_2, c_3, decide_true, decide_false, Bool.true_and, Bool.and_true, Bool.false_and, Bool.and_false, Bool.true_or, Bool.or_true, Bool.false_or, Bool.or_false, Bool.not_true, Bool.not_false, eq_self])), by rw [show sGo a b d = 3 by simp only [sGo, c_1, c_2, c_3, decide_true, decide_false, Bool.true_and, Bool.and_true, Bool.false_and, Bool.and_false, Bool.true_or, Bool.or_true, Bool.false_or, Bool.or_false, Bool.not_true, Bool.not_false, eq_self, if_true, if_false, ite_true, ite_false, Bool.false_eq_true, reduceCtorEq, not_false_eq_true]]⟩ dX12_goes_41 hlk
        · exact absurd c_5 (by decide)
    · refine xi_iconst hx hb dX12_goes_13 ?_
      refine lv_goto (tgt := 26) hx hb dX12_goes_14 (by decide) ?_
      refine mr_put K hK hW hin 36 (by decide) lM_thrown rfl rfl (S' := S) (X' := (mX (I) (aM) (qM) (2))) rfl (fun i hi => mC_t hi) dX12_goes_26 (fun H locs hW => ?_)
      refine lv_aload_n hx hb dX12_goes_29 rfl (lv_at hl 0 rfl) ?_
      refine mr_get K hK hW hin 36 (by decide) lM_thrown (v := .int (iI (2))) rfl dX12_goes_30 ?_
      refine xi_if_ne (tgt := 40) hx hb ⟨by omega, by omega⟩ dX12_goes_33 (by decide) (fun c_6 => ?_) (fun c_6 => ?_)
      · refine xi_iconst hx hb dX12_goes_40 ?_
        exact g_zret hx hb hr (Or.inl rfl) hW ⟨congrArg (fun z => some (Value.int (iI z))) (bI_f (by simp only [c_1, c_2, decide_true, decide_false, Bool.true_and, Bool.and_true, Bool.false_and, Bool.and_false, Bool.true_or, Bool.or_true, Bool.false_or, Bool.or_false, Bool.not_true, Bool.not_false, eq_self])), by rw [show sGo a b d = 2 by simp only [sGo, c_1, c_2, decide_true, decide_false, Bool.true_and, Bool.and_true, Bool.false_and, Bool.and_false, Bool.true_or, Bool.or_true, Bool.false_or, Bool.or_false, Bool.not_true, Bool.not_false, eq_self, if_true, if_false, ite_true, ite_false, Bool.false_eq_true, reduceCtorEq, not_false_eq_true]]⟩ dX12_goes_41 hlk
      · exact absurd c_6 (by decide)
  · refine xi_iconst hx hb dX12_goes_5 ?_
    refine lv_goto (tgt := 26) hx hb dX12_goes_6 (by decide) ?_
    refine mr_put K hK hW hin 36 (by decide) lM_thrown rfl rfl (S' := S) (X' := (mX (I) (aM) (qM) (1))) rfl (fun i hi => mC_t hi) dX12_goes_26 (fun H locs hW => ?_)
    refine lv_aload_n hx hb dX12_goes_29 rfl (lv_at hl 0 rfl) ?_
    refine mr_get K hK hW hin 36 (by decide) lM_thrown (v := .int (iI (1))) rfl dX12_goes_30 ?_
    refine xi_if_ne (tgt := 40) hx hb ⟨by omega, by omega⟩ dX12_goes_33 (by decide) (fun c_7 => ?_) (fun c_7 => ?_)
    · refine xi_iconst hx hb dX12_goes_40 ?_
      exact g_zret hx hb hr (Or.inl rfl) hW ⟨congrArg (fun z => some (Value.int (iI z))) (bI_f (by simp only [c_1, decide_true, decide_false, Bool.true_and, Bool.and_true, Bool.false_and, Bool.and_false, Bool.true_or, Bool.or_true, Bool.false_or, Bool.or_false, Bool.not_true, Bool.not_false, eq_self])), by rw [show sGo a b d = 1 by simp only [sGo, c_1, decide_true, decide_false, Bool.true_and, Bool.and_true, Bool.false_and, Bool.and_false, Bool.true_or, Bool.or_true, Bool.false_or, Bool.or_false, Bool.not_true, Bool.not_false, eq_self, if_true, if_false, ite_true, ite_false, Bool.false_eq_true, reduceCtorEq, not_false_eq_true]]⟩ dX12_goes_41 hlk
    · exact absurd c_7 (by decide)
set_option maxHeartbeats 4000000 in
set_option maxRecDepth 100000 in
theorem c_M_cutsOff {l : Launch} {D : va_G} {cy : Nat → ClassId} {B0 : Nat} {ix : Nat → Nat} {S : ST} {I : Int → Bool} {aM qM : Int → Int64} {tM : Int} {G : gF} (c : Int) (hc : 0 ≤ c ∧ c ≤ 2) (ho : okS S) : gM l yX12_cutsOff vX12_cutsOff 4 94 D cy B0 [.ref (ix 100), .int (iI c)] (mW cy ix S (mX I aM qM tM) G) (fun r g => r = some (.int (iI (sCut S c).1)) ∧ ∃ (J : Int → Bool) (a q : Int → Int64), g = mW cy ix (sCut S c).2 (mX J a q tM) G) 0 0 := by
  refine g_start (cc := cX12_cutsOff) (maxL := 3) (ret := (some .int)) (by decide) rfl (Nat.le_of_ble_eq_true rfl) ?_
  intro p_ e_ s_ m_ be_ me_ co_ ls H locs K hr hlk hnm hK hW hl
  have hin : ∀ w ∈ wsX120, w ∈ vX12_cutsOff := wsM_cls
  obtain ⟨hx, hb, hml, hown, hts⟩ := id K
  have hl : lv_has ls 3 [(0, .ref (ix 100)), (1, .int (iI (c)))] := hl
  have hwf : wf S := ho.1
  refine xi_iconst hx hb dX12_cutsOff_0 ?_
  refine lv_istore_n (lv' := [(2, .int (iI (0))), (0, .ref (ix 100)), (1, .int (iI (c)))]) hx hb dX12_cutsOff_1 rfl hl (by decide) rfl (fun ls hl => ?_)
  refine lp_w2 (Wg := fun (H : Heap) (locs : List Loc) (ls : Array Slot) => W p_ l e_ { frames := 4, cells := 0, slots := 0, locals := 94 } s_ m_ ([.ref (ix 100), .int (iI c)] : List Value).toArray be_ me_ co_ H locs 0 0 (MQ be_ (gQ D B0 (fun (r : Option Value) (g : gF) => r = some (.int (iI (sCut S c).1)) ∧ ∃ (J : Int → Bool) (a q : Int → Int64), g = mW cy ix (sCut S c).2 (mX J a q tM) G)) ([.ref (ix 100), .int (iI c)] : List Value).toArray s_ 0 0 (fun q : Nat => B0 ≤ q)) (F0 m_ 2 ls [])) (fun (k : Int) (J : Int → Bool) (H : Heap) (locs : List Loc) (ls : Array Slot) => ((0 ≤ k ∧ k ≤ 60) ∧ ∀ j : Int, 0 ≤ j → j < k → J j = netI S c j) ∧ gW D B0 s_.heap (mW cy ix S (mX (J) (aM) (qM) (tM)) G) H locs ∧ lv_has ls 3 [(2, .int (iI (k))), (1, .int (iI (c))), (0, .ref (ix 100))]) (fun (k : Int) (J : Int → Bool) => (60 - k).toNat) (fun k J H locs ls hI ih_lp_1 => ?_) (0) (I) _ _ _ ⟨⟨by decide, fun j h1 h2 => by omega⟩, hW, lv_sub hl [0, 2, 1] rfl⟩
  obtain ⟨hI_lp_1, hW, hl⟩ := hI
  obtain ⟨hk, hJ⟩ := hI_lp_1
  have h80 := wf_8 ho.1 0
  refine lv_iload_n hx hb dX12_cutsOff_2 rfl (lv_at hl 0 rfl) ?_
  refine xi_bipush hx hb dX12_cutsOff_3 (by decide) ?_
  refine xi_icmp_ge (tgt := 81) hx hb ⟨by omega, by omega⟩ ⟨by omega, by omega⟩ dX12_cutsOff_5 (by decide) (fun c_2 => ?_) (fun c_2 => ?_)
  · have hJ60 : ∀ j : Int, 0 ≤ j → j < nP S → J j = netI S c j := fun j h1 h2 => hJ j h1 (by have := nP_le ho.1; omega)
    have hm : ∀ j : Int, 0 ≤ j → j < S.1 8 0 → J j = true → S.1 18 j ≠ 4 := fun j h1 h2 h3 => by
      rw [hJ j h1 (by omega)] at h3
      simp only [netI, Bool.and_eq_true, decide_eq_true_eq] at h3
      rw [h3.1.1.1.2]; decide
    refine lv_aload_n hx hb dX12_cutsOff_81 rfl (lv_at hl 2 rfl) ?_
    refine lv_iload_n hx hb dX12_cutsOff_82 rfl (lv_at hl 1 rfl) ?_
    refine xi_iconst hx hb dX12_cutsOff_83 ?_
    refine g_callV (i := 0) (As := [.int (iI (c)), .int (iI (0))]) (rest := []) K (c_M_reduces (c) false hc ho hm) (cwV 2 hts gM_X12_reduces rfl rfl rfl (by decide +kernel) ⟨Nat.le_of_ble_eq_true rfl, Nat.le_of_ble_eq_true rfl⟩) hK hW (mW_0 _ _ _ _ _) rfl rfl hl.1 rfl (Nat.le_of_ble_eq_true rfl) dX12_cutsOff_84 ⟨Nat.le_refl _, Nat.le_refl _⟩ (fun v_ f_ H locs hp hW => ?_)
    obtain ⟨hpv, J2, a2, q2, hpe⟩ := hp
    rw [sRedS_congr (J := netI S c) hc hJ60] at hpv hpe
    rw [hpe] at hW
    subst hpv
    exact g_iret hx hb hr hW ⟨rfl, _, _, _, rfl⟩ dX12_cutsOff_87 hlk
  · refine lv_aload_n hx hb dX12_cutsOff_8 rfl (lv_at hl 2 rfl) ?_
    refine mr_get K hK hW hin 33 (by decide) lM_isIn (v := .ref (ix 133)) rfl dX12_cutsOff_9 ?_
    refine lv_iload_n hx hb dX12_cutsOff_12 rfl (lv_at hl 0 rfl) ?_
    have j_3 : ∀ (zJ : Bool) (H : Heap) (locs : List Loc), zJ = (netI S c k) → gW D B0 s_.heap (mW cy ix S (mX (J) (aM) (qM) (tM)) G) H locs → W p_ l e_ { frames := 4, cells := 0, slots := 0, locals := 94 } s_ m_ ([.ref (ix 100), .int (iI c)] : List Value).toArray be_ me_ co_ H locs 0 0 (MQ be_ (gQ D B0 (fun (r : Option Value) (g : gF) => r = some (.int (iI (sCut S c).1)) ∧ ∃ (J : Int → Bool) (a q : Int → Int64), g = mW cy ix (sCut S c).2 (mX J a q tM) G)) ([.ref (ix 100), .int (iI c)] : List Value).toArray s_ 0 0 (fun q : Nat => B0 ≤ q)) (F0 m_ 74 ls [.int (iI (bI (zJ))), .int (iI (k)), .ref (ix 133)]) := by
      intro zJ H locs hzJ hW
      subst hzJ
      refine mr_zastI K hK hW rfl (v := netI S c k) ⟨by omega, by omega⟩ dX12_cutsOff_74 (fun H locs hW => ?_)
      refine xi_iinc (lv' := [(2, .int (iI (k + 1))), (1, .int (iI (c))), (0, .ref (ix 100))]) hx hb dX12_cutsOff_75 hl (k := 0) rfl (by decide) rfl (fun ls hl => ?_)
      refine lv_goto (tgt := 2) hx hb dX12_cutsOff_78 (by decide) ?_
      exact ih_lp_1 (k + 1) (iup J (k) (netI S c k)) _ _ _ (by first | omega | (dsimp only; omega)) ⟨⟨⟨by omega, by omega⟩, fun j h1 h2 => by
        by_cases h : j = k
        · rw [h]; exact iup_s _ _ _
        · rw [iup_n _ _ h]; exact hJ j h1 (by omega)⟩, hW, lv_sub hl [0, 1, 2] rfl⟩
    refine lv_iload_n hx hb dX12_cutsOff_13 rfl (lv_at hl 0 rfl) ?_
    refine lv_aload_n hx hb dX12_cutsOff_14 rfl (lv_at hl 2 rfl) ?_
    refine mr_get K hK hW hin 8 (by decide) lM_payments (v := .int (iI (S.1 8 (0)))) rfl dX12_cutsOff_15 ?_
    have w_w_4 := wf_8 hwf 0
    refine xi_icmp_ge (tgt := 73) hx hb ⟨by omega, by omega⟩ ⟨by omega, by omega⟩ dX12_cutsOff_18 (by decide) (fun c_5 => ?_) (fun c_5 => ?_)
    · refine xi_iconst hx hb dX12_cutsOff_73 ?_
      exact xi_eq (z' := bI (netI S c k)) (bI_f (by simp only [netI, c_2, Int.not_le.mpr c_2, c_5, Int.not_lt.mpr c_5, decide_true, decide_false, Bool.true_and, Bool.and_true, Bool.false_and, Bool.and_false, Bool.true_or, Bool.or_true, Bool.false_or, Bool.or_false, Bool.not_true, Bool.not_false, eq_self])) (j_3 _ _ _ rfl hW)
    · refine lv_aload_n hx hb dX12_cutsOff_21 rfl (lv_at hl 2 rfl) ?_
      refine mr_get K hK hW hin 18 (by decide) lM_state (v := .ref (ix 118)) rfl dX12_cutsOff_22 ?_
      refine lv_iload_n hx hb dX12_cutsOff_25 rfl (lv_at hl 0 rfl) ?_
      refine mr_iald K hK hW 18 (by decide) rfl (n := 60) rfl rfl ⟨by omega, by omega⟩ (v := S.1 18 (k)) rfl dX12_cutsOff_26 ?_
      have w_6 := wf_18 hwf (k)
      refine xi_iconst hx hb dX12_cutsOff_27 ?_
      refine xi_icmp_ne (tgt := 73) hx hb ⟨by omega, by omega⟩ ⟨by omega, by omega⟩ dX12_cutsOff_28 (by decide) (fun c_7 => ?_) (fun c_7 => ?_)
      · refine xi_iconst hx hb dX12_cutsOff_73 ?_
        exact xi_eq (z' := bI (netI S c k)) (bI_f (by simp only [netI, c_2, Int.not_le.mpr c_2, c_5, Int.not_le.mpr c_5, c_7, decide_true, decide_false, Bool.true_and, Bool.and_true, Bool.false_and, Bool.and_false, Bool.true_or, Bool.or_true, Bool.false_or, Bool.or_false, Bool.not_true, Bool.not_false, eq_self])) (j_3 _ _ _ rfl hW)
      · refine lv_aload_n hx hb dX12_cutsOff_31 rfl (lv_at hl 2 rfl) ?_
        refine mr_get K hK hW hin 11 (by decide) lM_currency (v := .ref (ix 111)) rfl dX12_cutsOff_32 ?_
        refine lv_iload_n hx hb dX12_cutsOff_35 rfl (lv_at hl 0 rfl) ?_
        refine mr_iald K hK hW 11 (by decide) rfl (n := 60) rfl rfl ⟨by omega, by omega⟩ (v := S.1 11 (k)) rfl dX12_cutsOff_36 ?_
        have w_8 := wf_11 hwf (k)
        refine lv_iload_n hx hb dX12_cutsOff_37 rfl (lv_at hl 1 rfl) ?_
        refine xi_icmp_ne (tgt := 73) hx hb ⟨by omega, by omega⟩ ⟨by omega, by omega⟩ dX12_cutsOff_38 (by decide) (fun c_9 => ?_) (fun c_9 => ?_)
        · refine xi_iconst hx hb dX12_cutsOff_73 ?_
          exact xi_eq (z' := bI (netI S c k)) (bI_f (by simp only [netI, c_2, Int.not_le.mpr c_2, c_5, Int.not_le.mpr c_5, c_7, c_9, decide_true, decide_false, Bool.true_and, Bool.and_true, Bool.false_and, Bool.and_false, Bool.true_or, Bool.or_true, Bool.false_or, Bool.or_false, Bool.not_true, Bool.not_false, eq_self])) (j_3 _ _ _ rfl hW)
        · refine lv_aload_n hx hb dX12_cutsOff_41 rfl (lv_at hl 2 rfl) ?_
          refine mr_get K hK hW hin 5 (by decide) lM_isOut (v := .ref (ix 105)) rfl dX12_cutsOff_42 ?_
          refine lv_aload_n hx hb dX12_cutsOff_45 rfl (lv_at hl 2 rfl) ?_
          refine mr_get K hK hW hin 9 (by decide) lM_from (v := .ref (ix 109)) rfl dX12_cutsOff_46 ?_
          refine lv_iload_n hx hb dX12_cutsOff_49 rfl (lv_at hl 0 rfl) ?_
          refine mr_iald K hK hW 9 (by decide) rfl (n := 60) rfl rfl ⟨by omega, by omega⟩ (v := S.1 9 (k)) rfl dX12_cutsOff_50 ?_
          have w_10 := wf_9 hwf (k)
          refine mr_zald K hK hW 5 (by decide) rfl (n := 6) rfl rfl ⟨by omega, by omega⟩ (v := S.1 5 (S.1 9 (k))) rfl dX12_cutsOff_51 ?_
          have w_11 := wf_5 hwf (S.1 9 (k))
          refine xi_if_ne (tgt := 73) hx hb ⟨by omega, by omega⟩ dX12_cutsOff_52 (by decide) (fun c_12 => ?_) (fun c_12 => ?_)
          · refine xi_iconst hx hb dX12_cutsOff_73 ?_
            exact xi_eq (z' := bI (netI S c k)) (bI_f (by simp only [netI, c_2, Int.not_le.mpr c_2, c_5, Int.not_le.mpr c_5, c_7, c_9, c_12, decide_true, decide_false, Bool.true_and, Bool.and_true, Bool.false_and, Bool.and_false, Bool.true_or, Bool.or_true, Bool.false_or, Bool.or_false, Bool.not_true, Bool.not_false, eq_self])) (j_3 _ _ _ rfl hW)
          · refine lv_aload_n hx hb dX12_cutsOff_55 rfl (lv_at hl 2 rfl) ?_
            refine mr_get K hK hW hin 5 (by decide) lM_isOut (v := .ref (ix 105)) rfl dX12_cutsOff_56 ?_
            refine lv_aload_n hx hb dX12_cutsOff_59 rfl (lv_at hl 2 rfl) ?_
            refine mr_get K hK hW hin 10 (by decide) lM_to (v := .ref (ix 110)) rfl dX12_cutsOff_60 ?_
            refine lv_iload_n hx hb dX12_cutsOff_63 rfl (lv_at hl 0 rfl) ?_
            refine mr_iald K hK hW 10 (by decide) rfl (n := 60) rfl rfl ⟨by omega, by omega⟩ (v := S.1 10 (k)) rfl dX12_cutsOff_64 ?_
            have w_13 := wf_10 hwf (k)
            refine mr_zald K hK hW 5 (by decide) rfl (n := 6) rfl rfl ⟨by omega, by omega⟩ (v := S.1 5 (S.1 10 (k))) rfl dX12_cutsOff_65 ?_
            have w_14 := wf_5 hwf (S.1 10 (k))
            refine xi_if_ne (tgt := 73) hx hb ⟨by omega, by omega⟩ dX12_cutsOff_66 (by decide) (fun c_15 => ?_) (fun c_15 => ?_)
            · refine xi_iconst hx hb dX12_cutsOff_73 ?_
              exact xi_eq (z' := bI (netI S c k)) (bI_f (by simp only [netI, c_2, Int.not_le.mpr c_2, c_5, Int.not_le.mpr c_5, c_7, c_9, c_12, c_15, decide_true, decide_false, Bool.true_and, Bool.and_true, Bool.false_and, Bool.and_false, Bool.true_or, Bool.or_true, Bool.false_or, Bool.or_false, Bool.not_true, Bool.not_false, eq_self])) (j_3 _ _ _ rfl hW)
            · refine xi_iconst hx hb dX12_cutsOff_69 ?_
              refine lv_goto (tgt := 74) hx hb dX12_cutsOff_70 (by decide) ?_
              exact xi_eq (z' := bI (netI S c k)) (bI_t (by simp only [netI, c_2, Int.not_le.mpr c_2, c_5, Int.not_le.mpr c_5, c_7, c_9, c_12, c_15, decide_true, decide_false, Bool.true_and, Bool.and_true, Bool.false_and, Bool.and_false, Bool.true_or, Bool.or_true, Bool.false_or, Bool.or_false, Bool.not_true, Bool.not_false, eq_self])) (j_3 _ _ _ rfl hW)
theorem sFee_s (S : ST) (b c : Int) (n : Nat) : sFee S b c (n + 1) = sFee S b c n + feK S b c n := rfl
set_option maxHeartbeats 4000000 in
set_option maxRecDepth 100000 in
theorem c_M_charges {l : Launch} {D : va_G} {cy : Nat → ClassId} {B0 : Nat} {ix : Nat → Nat} {S : ST} {I : Int → Bool} {aM qM : Int → Int64} {tM : Int} {G : gF} (b : Int) (c : Int) (hb0 : 0 ≤ b ∧ b ≤ 5) (hc : 0 ≤ c ∧ c ≤ 2) (ho : okS S) (he : S.1 31 0 + cNF S ≤ 28990) : gM l yX12_charges vX12_charges 2 47 D cy B0 [.ref (ix 100), .int (iI b), .int (iI c)] (mW cy ix S (mX I aM qM tM) G) (fun r g => r = none ∧ g = mW cy ix (sChg S b c) (mX I aM qM tM) G) 0 0 := by
  refine g_start (cc := cX12_charges) (maxL := 8) (ret := none) (by decide) rfl (Nat.le_of_ble_eq_true rfl) ?_
  intro p_ e_ s_ m_ be_ me_ co_ ls H locs K hr hlk hnm hK hW hl
  have hin : ∀ w ∈ wsX120, w ∈ vX12_charges := wsM_cls
  obtain ⟨hx, hb, hml, hown, hts⟩ := id K
  have hl : lv_has ls 8 [(0, .ref (ix 100)), (1, .int (iI (b))), (2, .int (iI (c)))] := hl
  have hwf : wf S := ho.1
  have j_1 : ∀ (zJ : Int64) (H : Heap) (locs : List Loc), zJ = (sBel S b c) → gW D B0 s_.heap (mW cy ix S (mX (I) (aM) (qM) (tM)) G) H locs → W p_ l e_ { frames := 2, cells := 0, slots := 0, locals := 47 } s_ m_ ([.ref (ix 100), .int (iI b), .int (iI c)] : List Value).toArray be_ me_ co_ H locs 0 0 (MQ be_ (gQ D B0 (fun (r : Option Value) (g : gF) => r = none ∧ g = mW cy ix (sChg S b c) (mX I aM qM tM) G)) ([.ref (ix 100), .int (iI b), .int (iI c)] : List Value).toArray s_ 0 0 (fun q : Nat => B0 ≤ q)) (F0 m_ 30 ls [.long (zJ)]) := by
    intro zJ H locs hzJ hW
    subst hzJ
    refine lv_lstore_n (lv' := [(3, .long (sBel S b c)), (0, .ref (ix 100)), (1, .int (iI (b))), (2, .int (iI (c)))]) hx hb dX12_charges_30 rfl hl (by decide) rfl (fun ls hl => ?_)
    refine xi_iconst hx hb dX12_charges_31 ?_
    refine lv_istore (lv' := [(5, .int (iI (0))), (3, .long (sBel S b c)), (0, .ref (ix 100)), (1, .int (iI (b))), (2, .int (iI (c)))]) hx hb dX12_charges_32 hl (by decide) rfl (fun ls hl => ?_)
    refine xi_iconst hx hb dX12_charges_34 ?_
    refine lv_istore (lv' := [(6, .int (iI (0))), (5, .int (iI (0))), (3, .long (sBel S b c)), (0, .ref (ix 100)), (1, .int (iI (b))), (2, .int (iI (c)))]) hx hb dX12_charges_35 hl (by decide) rfl (fun ls hl => ?_)
    refine lp_w1 (Wg := fun (H : Heap) (locs : List Loc) (ls : Array Slot) => W p_ l e_ { frames := 2, cells := 0, slots := 0, locals := 47 } s_ m_ ([.ref (ix 100), .int (iI b), .int (iI c)] : List Value).toArray be_ me_ co_ H locs 0 0 (MQ be_ (gQ D B0 (fun (r : Option Value) (g : gF) => r = none ∧ g = mW cy ix (sChg S b c) (mX I aM qM tM) G)) ([.ref (ix 100), .int (iI b), .int (iI c)] : List Value).toArray s_ 0 0 (fun q : Nat => B0 ≤ q)) (F0 m_ 37 ls [])) (fun (k : Int) (H : Heap) (locs : List Loc) (ls : Array Slot) => (0 ≤ k ∧ k ≤ S.1 8 0) ∧ gW D B0 s_.heap (mW cy ix S (mX (I) (aM) (qM) (tM)) G) H locs ∧ lv_has ls 8 [(6, .int (iI (k))), (5, .int (iI (sFee S b c k.toNat))), (3, .long (sBel S b c)), (2, .int (iI (c))), (1, .int (iI (b))), (0, .ref (ix 100))]) (fun (k : Int) => (60 - k).toNat) (fun k H locs ls hI ih_lp_2 => ?_) (0) _ _ _ ⟨⟨by decide, (wf_8 hwf 0).1⟩, hW, lv_sub hl [0, 1, 2, 5, 4, 3] rfl⟩
    obtain ⟨hI_lp_2, hW, hl⟩ := hI
    refine lv_iload hx hb dX12_charges_37 (lv_at hl 0 rfl) ?_
    refine lv_aload_n hx hb dX12_charges_39 rfl (lv_at hl 5 rfl) ?_
    refine mr_get K hK hW hin 8 (by decide) lM_payments (v := .int (iI (S.1 8 (0)))) rfl dX12_charges_40 ?_
    have w_w_3 := wf_8 hwf 0
    refine xi_icmp_ge (tgt := 135) hx hb ⟨by omega, by omega⟩ ⟨by omega, by omega⟩ dX12_charges_43 (by decide) (fun c_4 => ?_) (fun c_4 => ?_)
    · have hke : k.toNat = nP S := by unfold nP; omega
      rw [hke] at hl
      have hfr := sFee_r S b c (nP S)
      have hn60 := nP_le hwf
      refine lv_lload_n hx hb dX12_charges_135 rfl (lv_at hl 2 rfl) ?_
      refine lv_ldc2 (v := 99) hx hb hown (hts _ kM_228) dX12_charges_136 ?_
      refine lv_ladd hx hb dX12_charges_139 ?_
      refine lv_ldc2 (v := 100) hx hb hown (hts _ kM_230) dX12_charges_140 ?_
      refine lv_ldiv hx hb dX12_charges_143 (by decide) ?_
      refine lv_lstore (lv' := [(6, .long (((sBel S b c) + 99) / 100)), (5, .int (iI (sFee S b c (nP S)))), (3, .long (sBel S b c)), (2, .int (iI (c))), (1, .int (iI (b))), (0, .ref (ix 100))]) hx hb dX12_charges_144 hl (by decide) rfl (fun ls hl => ?_)
      refine lv_iload hx hb dX12_charges_146 (lv_at hl 1 rfl) ?_
      refine xi_if_le (tgt := 163) hx hb ⟨by omega, by omega⟩ dX12_charges_148 (by decide) (fun c_5 => ?_) (fun c_5 => ?_)
      · refine lv_lload hx hb dX12_charges_163 (lv_at hl 0 rfl) ?_
        refine lv_lconst (v := 0) hx hb dX12_charges_165 (by decide) ?_
        refine xi_lcmp_le (tgt := 181) hx hb dX12_charges_166 dX12_charges_167 (by decide) (fun c_6 => ?_) (fun c_6 => ?_)
        · exact g_vret hx hb hr hW ⟨rfl, by unfold sChg sCh1; rw [if_neg (show ¬ 0 < sInt S b c from c_6)]; rw [if_neg (show ¬ 0 < sFee S b c (nP S) by omega)]; try rfl⟩ dX12_charges_181 hlk
        · refine lv_aload_n hx hb dX12_charges_170 rfl (lv_at hl 5 rfl) ?_
          refine lv_iload_n hx hb dX12_charges_171 rfl (lv_at hl 4 rfl) ?_
          refine xi_bipush hx hb dX12_charges_172 (by decide) ?_
          refine lv_iload_n hx hb dX12_charges_174 rfl (lv_at hl 3 rfl) ?_
          refine lv_lload hx hb dX12_charges_175 (lv_at hl 0 rfl) ?_
          refine xi_iconst hx hb dX12_charges_177 ?_
          refine g_callV (i := 0) (As := [.int (iI (b)), .int (iI (6)), .int (iI (c)), .long (((sBel S b c) + 99) / 100), .int (iI ((-1)))]) (rest := []) K (c_M_books (b) (6) (c) (((sBel S b c) + 99) / 100) ((-1)) ⟨by omega, by omega⟩ ⟨by omega, by omega⟩ ⟨by omega, by omega⟩ ⟨by omega, by omega⟩ ho.1) (cwV 5 hts gM_X12_books rfl rfl rfl (by decide +kernel) ⟨Nat.le_of_ble_eq_true rfl, Nat.le_of_ble_eq_true rfl⟩) hK hW (mW_0 _ _ _ _ _) rfl rfl hl.1 rfl (Nat.le_of_ble_eq_true rfl) dX12_charges_178 ⟨Nat.le_refl _, Nat.le_refl _⟩ (fun v_ f_ H locs hp hW => ?_)
          obtain ⟨hpv, hpe⟩ := hp
          rw [hpe] at hW
          subst hpv
          exact g_vret hx hb hr hW ⟨rfl, by unfold sChg sCh1; rw [if_pos (show 0 < sInt S b c from c_6)]; rw [if_neg (show ¬ 0 < sFee S b c (nP S) by omega)]; try rfl⟩ dX12_charges_181 hlk
      · refine lv_aload_n hx hb dX12_charges_151 rfl (lv_at hl 5 rfl) ?_
        refine lv_iload_n hx hb dX12_charges_152 rfl (lv_at hl 4 rfl) ?_
        refine xi_bipush hx hb dX12_charges_153 (by decide) ?_
        refine lv_iload_n hx hb dX12_charges_155 rfl (lv_at hl 3 rfl) ?_
        refine lv_iload hx hb dX12_charges_156 (lv_at hl 1 rfl) ?_
        refine xi_i2l hx hb ⟨by omega, by omega⟩ dX12_charges_158 ?_
        refine xi_iconst hx hb dX12_charges_159 ?_
        refine g_callV (i := 0) (As := [.int (iI (b)), .int (iI (6)), .int (iI (c)), .long (Int64.ofInt (sFee S b c (nP S))), .int (iI ((-1)))]) (rest := []) K (c_M_books (b) (6) (c) (Int64.ofInt (sFee S b c (nP S))) ((-1)) ⟨by omega, by omega⟩ ⟨by omega, by omega⟩ ⟨by omega, by omega⟩ ⟨by omega, by omega⟩ ho.1) (cwV 5 hts gM_X12_books rfl rfl rfl (by decide +kernel) ⟨Nat.le_of_ble_eq_true rfl, Nat.le_of_ble_eq_true rfl⟩) hK hW (mW_0 _ _ _ _ _) rfl rfl hl.1 rfl (Nat.le_of_ble_eq_true rfl) dX12_charges_160 ⟨Nat.le_refl _, Nat.le_refl _⟩ (fun v_ f_ H locs hp hW => ?_)
        obtain ⟨hpv, hpe⟩ := hp
        rw [hpe] at hW
        subst hpv
        refine lv_lload hx hb dX12_charges_163 (lv_at hl 0 rfl) ?_
        refine lv_lconst (v := 0) hx hb dX12_charges_165 (by decide) ?_
        refine xi_lcmp_le (tgt := 181) hx hb dX12_charges_166 dX12_charges_167 (by decide) (fun c_7 => ?_) (fun c_7 => ?_)
        · exact g_vret hx hb hr hW ⟨rfl, by unfold sChg sCh1; rw [if_neg (show ¬ 0 < sInt S b c from c_7)]; rw [if_pos c_5]; try rfl⟩ dX12_charges_181 hlk
        · refine lv_aload_n hx hb dX12_charges_170 rfl (lv_at hl 5 rfl) ?_
          refine lv_iload_n hx hb dX12_charges_171 rfl (lv_at hl 4 rfl) ?_
          refine xi_bipush hx hb dX12_charges_172 (by decide) ?_
          refine lv_iload_n hx hb dX12_charges_174 rfl (lv_at hl 3 rfl) ?_
          refine lv_lload hx hb dX12_charges_175 (lv_at hl 0 rfl) ?_
          refine xi_iconst hx hb dX12_charges_177 ?_
          refine g_callV (i := 0) (As := [.int (iI (b)), .int (iI (6)), .int (iI (c)), .long (((sBel S b c) + 99) / 100), .int (iI ((-1)))]) (rest := []) K (c_M_books (b) (6) (c) (((sBel S b c) + 99) / 100) ((-1)) ⟨by omega, by omega⟩ ⟨by omega, by omega⟩ ⟨by omega, by omega⟩ ⟨by omega, by omega⟩ (okS_book ho _ _ _ _ _ (by omega)).1) (cwV 5 hts gM_X12_books rfl rfl rfl (by decide +kernel) ⟨Nat.le_of_ble_eq_true rfl, Nat.le_of_ble_eq_true rfl⟩) hK hW (mW_0 _ _ _ _ _) rfl rfl hl.1 rfl (Nat.le_of_ble_eq_true rfl) dX12_charges_178 ⟨Nat.le_refl _, Nat.le_refl _⟩ (fun v_ f_ H locs hp hW => ?_)
          obtain ⟨hpv, hpe⟩ := hp
          rw [hpe] at hW
          subst hpv
          exact g_vret hx hb hr hW ⟨rfl, by unfold sChg sCh1; rw [if_pos (show 0 < sInt S b c from c_7)]; rw [if_pos c_5]; try rfl⟩ dX12_charges_181 hlk
    · have j_8 : ∀ (zJ : Bool) (H : Heap) (locs : List Loc), zJ = (feB S b c k) → gW D B0 s_.heap (mW cy ix S (mX (I) (aM) (qM) (tM)) G) H locs → W p_ l e_ { frames := 2, cells := 0, slots := 0, locals := 47 } s_ m_ ([.ref (ix 100), .int (iI b), .int (iI c)] : List Value).toArray be_ me_ co_ H locs 0 0 (MQ be_ (gQ D B0 (fun (r : Option Value) (g : gF) => r = none ∧ g = mW cy ix (sChg S b c) (mX I aM qM tM) G)) ([.ref (ix 100), .int (iI b), .int (iI c)] : List Value).toArray s_ 0 0 (fun q : Nat => B0 ≤ q)) (F0 m_ 98 ls [.int (iI (bI (zJ)))]) := by
        intro zJ H locs hzJ hW
        subst hzJ
        refine lv_istore (lv' := [(7, .int (iI (bI (feB S b c k)))), (6, .int (iI (k))), (5, .int (iI (sFee S b c k.toNat))), (3, .long (sBel S b c)), (2, .int (iI (c))), (1, .int (iI (b))), (0, .ref (ix 100))]) hx hb dX12_charges_98 hl (by decide) rfl (fun ls hl => ?_)
        refine lv_iload hx hb dX12_charges_100 (lv_at hl 2 rfl) ?_
        have j_9 : ∀ (zJ : Int) (H : Heap) (locs : List Loc), zJ = (feK S b c k) → gW D B0 s_.heap (mW cy ix S (mX (I) (aM) (qM) (tM)) G) H locs → W p_ l e_ { frames := 2, cells := 0, slots := 0, locals := 47 } s_ m_ ([.ref (ix 100), .int (iI b), .int (iI c)] : List Value).toArray be_ me_ co_ H locs 0 0 (MQ be_ (gQ D B0 (fun (r : Option Value) (g : gF) => r = none ∧ g = mW cy ix (sChg S b c) (mX I aM qM tM) G)) ([.ref (ix 100), .int (iI b), .int (iI c)] : List Value).toArray s_ 0 0 (fun q : Nat => B0 ≤ q)) (F0 m_ 126 ls [.int (iI (zJ)), .int (iI (sFee S b c k.toNat))]) := by
          intro zJ H locs hzJ hW
          subst hzJ
          refine xi_iadd hx hb dX12_charges_126 ?_
          refine lv_istore (lv' := [(5, .int (iI ((sFee S b c k.toNat) + (feK S b c k)))), (7, .int (iI (bI (feB S b c k)))), (6, .int (iI (k))), (3, .long (sBel S b c)), (2, .int (iI (c))), (1, .int (iI (b))), (0, .ref (ix 100))]) hx hb dX12_charges_127 hl (by decide) rfl (fun ls hl => ?_)
          have hl : lv_has ls 8 [(5, .int (iI (sFee S b c (k + 1).toNat))), (7, .int (iI (bI (feB S b c k)))), (6, .int (iI (k))), (3, .long (sBel S b c)), (2, .int (iI (c))), (1, .int (iI (b))), (0, .ref (ix 100))] := by
            have hbe : ((sFee S b c k.toNat) + (feK S b c k)) = (sFee S b c (k + 1).toNat) := by rw [show (k + 1).toNat = k.toNat + 1 by omega, sFee_s, show ((k.toNat : Nat) : Int) = k by omega]
            rw [← hbe]; exact hl
          refine xi_iinc (lv' := [(6, .int (iI (k + 1))), (5, .int (iI (sFee S b c (k + 1).toNat))), (7, .int (iI (bI (feB S b c k)))), (3, .long (sBel S b c)), (2, .int (iI (c))), (1, .int (iI (b))), (0, .ref (ix 100))]) hx hb dX12_charges_129 hl (k := 2) rfl (by decide) rfl (fun ls hl => ?_)
          refine lv_goto (tgt := 37) hx hb dX12_charges_132 (by decide) ?_
          exact ih_lp_2 (k + 1) _ _ _ (by have := wf_8 hwf 0; first | omega | (dsimp only; omega)) ⟨⟨by omega, by omega⟩, hW, lv_sub hl [0, 1, 3, 4, 5, 6] rfl⟩
        refine lv_iload hx hb dX12_charges_102 (lv_at hl 0 rfl) ?_
        refine xi_ifb_ne (tgt := 111) hx hb dX12_charges_104 (by decide) (fun c_10 => ?_) (fun c_10 => ?_)
        · refine lv_aload_n hx hb dX12_charges_111 rfl (lv_at hl 6 rfl) ?_
          refine mr_get K hK hW hin 15 (by decide) lM_isReal (v := .ref (ix 115)) rfl dX12_charges_112 ?_
          refine lv_iload hx hb dX12_charges_115 (lv_at hl 1 rfl) ?_
          refine mr_zald K hK hW 15 (by decide) rfl (n := 60) rfl rfl ⟨by omega, by omega⟩ (v := S.1 15 (k)) rfl dX12_charges_117 ?_
          have w_11 := wf_15 hwf (k)
          refine xi_if_eq (tgt := 125) hx hb ⟨by omega, by omega⟩ dX12_charges_118 (by decide) (fun c_12 => ?_) (fun c_12 => ?_)
          · refine xi_iconst hx hb dX12_charges_125 ?_
            exact xi_eq (z' := feK S b c k) (by simp only [feK, c_4, Int.not_le.mpr c_4, c_10, c_12, decide_true, decide_false, Bool.true_and, Bool.and_true, Bool.false_and, Bool.and_false, Bool.true_or, Bool.or_true, Bool.false_or, Bool.or_false, Bool.not_true, Bool.not_false, eq_self, if_true, if_false, ite_true, ite_false, Bool.false_eq_true, reduceCtorEq, not_false_eq_true]) (j_9 _ _ _ rfl hW)
          · refine xi_iconst hx hb dX12_charges_121 ?_
            refine lv_goto (tgt := 126) hx hb dX12_charges_122 (by decide) ?_
            exact xi_eq (z' := feK S b c k) (by simp only [feK, c_4, Int.not_le.mpr c_4, c_10, c_12, decide_true, decide_false, Bool.true_and, Bool.and_true, Bool.false_and, Bool.and_false, Bool.true_or, Bool.or_true, Bool.false_or, Bool.or_false, Bool.not_true, Bool.not_false, eq_self, if_true, if_false, ite_true, ite_false, Bool.false_eq_true, reduceCtorEq, not_false_eq_true]) (j_9 _ _ _ rfl hW)
        · refine xi_iconst hx hb dX12_charges_107 ?_
          refine lv_goto (tgt := 126) hx hb dX12_charges_108 (by decide) ?_
          exact xi_eq (z' := feK S b c k) (by simp only [feK, c_4, Int.not_le.mpr c_4, c_10, decide_true, decide_false, Bool.true_and, Bool.and_true, Bool.false_and, Bool.and_false, Bool.true_or, Bool.or_true, Bool.false_or, Bool.or_false, Bool.not_true, Bool.not_false, eq_self, if_true, if_false, ite_true, ite_false, Bool.false_eq_true, reduceCtorEq, not_false_eq_true]) (j_9 _ _ _ rfl hW)
      refine lv_aload_n hx hb dX12_charges_46 rfl (lv_at hl 5 rfl) ?_
      refine mr_get K hK hW hin 18 (by decide) lM_state (v := .ref (ix 118)) rfl dX12_charges_47 ?_
      refine lv_iload hx hb dX12_charges_50 (lv_at hl 0 rfl) ?_
      refine mr_iald K hK hW 18 (by decide) rfl (n := 60) rfl rfl ⟨by omega, by omega⟩ (v := S.1 18 (k)) rfl dX12_charges_52 ?_
      have w_13 := wf_18 hwf (k)
      refine xi_iconst hx hb dX12_charges_53 ?_
      refine xi_icmp_ne (tgt := 97) hx hb ⟨by omega, by omega⟩ ⟨by omega, by omega⟩ dX12_charges_54 (by decide) (fun c_14 => ?_) (fun c_14 => ?_)
      · refine xi_iconst hx hb dX12_charges_97 ?_
        exact xi_eq (z' := bI (feB S b c k)) (bI_f (by simp only [feB, c_4, Int.not_le.mpr c_4, c_14, decide_true, decide_false, Bool.true_and, Bool.and_true, Bool.false_and, Bool.and_false, Bool.true_or, Bool.or_true, Bool.false_or, Bool.or_false, Bool.not_true, Bool.not_false, eq_self])) (j_8 _ _ _ rfl hW)
      · refine lv_aload_n hx hb dX12_charges_57 rfl (lv_at hl 5 rfl) ?_
        refine mr_get K hK hW hin 22 (by decide) lM_finalOn (v := .ref (ix 122)) rfl dX12_charges_58 ?_
        refine lv_iload hx hb dX12_charges_61 (lv_at hl 0 rfl) ?_
        refine mr_iald K hK hW 22 (by decide) rfl (n := 60) rfl rfl ⟨by omega, by omega⟩ (v := S.1 22 (k)) rfl dX12_charges_63 ?_
        have w_15 := wf_22 hwf (k)
        refine lv_aload_n hx hb dX12_charges_64 rfl (lv_at hl 5 rfl) ?_
        refine mr_get K hK hW hin 0 (by decide) lM_today (v := .int (iI (S.1 0 (0)))) rfl dX12_charges_65 ?_
        have w_w_16 := wf_0 hwf 0
        refine xi_icmp_ne (tgt := 97) hx hb ⟨by omega, by omega⟩ ⟨by omega, by omega⟩ dX12_charges_68 (by decide) (fun c_17 => ?_) (fun c_17 => ?_)
        · refine xi_iconst hx hb dX12_charges_97 ?_
          exact xi_eq (z' := bI (feB S b c k)) (bI_f (by simp only [feB, c_4, Int.not_le.mpr c_4, c_14, c_17, decide_true, decide_false, Bool.true_and, Bool.and_true, Bool.false_and, Bool.and_false, Bool.true_or, Bool.or_true, Bool.false_or, Bool.or_false, Bool.not_true, Bool.not_false, eq_self])) (j_8 _ _ _ rfl hW)
        · refine lv_aload_n hx hb dX12_charges_71 rfl (lv_at hl 5 rfl) ?_
          refine mr_get K hK hW hin 9 (by decide) lM_from (v := .ref (ix 109)) rfl dX12_charges_72 ?_
          refine lv_iload hx hb dX12_charges_75 (lv_at hl 0 rfl) ?_
          refine mr_iald K hK hW 9 (by decide) rfl (n := 60) rfl rfl ⟨by omega, by omega⟩ (v := S.1 9 (k)) rfl dX12_charges_77 ?_
          have w_18 := wf_9 hwf (k)
          refine lv_iload_n hx hb dX12_charges_78 rfl (lv_at hl 4 rfl) ?_
          refine xi_icmp_ne (tgt := 97) hx hb ⟨by omega, by omega⟩ ⟨by omega, by omega⟩ dX12_charges_79 (by decide) (fun c_19 => ?_) (fun c_19 => ?_)
          · refine xi_iconst hx hb dX12_charges_97 ?_
            exact xi_eq (z' := bI (feB S b c k)) (bI_f (by simp only [feB, c_4, Int.not_le.mpr c_4, c_14, c_17, c_19, decide_true, decide_false, Bool.true_and, Bool.and_true, Bool.false_and, Bool.and_false, Bool.true_or, Bool.or_true, Bool.false_or, Bool.or_false, Bool.not_true, Bool.not_false, eq_self])) (j_8 _ _ _ rfl hW)
          · refine lv_aload_n hx hb dX12_charges_82 rfl (lv_at hl 5 rfl) ?_
            refine mr_get K hK hW hin 11 (by decide) lM_currency (v := .ref (ix 111)) rfl dX12_charges_83 ?_
            refine lv_iload hx hb dX12_charges_86 (lv_at hl 0 rfl) ?_
            refine mr_iald K hK hW 11 (by decide) rfl (n := 60) rfl rfl ⟨by omega, by omega⟩ (v := S.1 11 (k)) rfl dX12_charges_88 ?_
            have w_20 := wf_11 hwf (k)
            refine lv_iload_n hx hb dX12_charges_89 rfl (lv_at hl 3 rfl) ?_
            refine xi_icmp_ne (tgt := 97) hx hb ⟨by omega, by omega⟩ ⟨by omega, by omega⟩ dX12_charges_90 (by decide) (fun c_21 => ?_) (fun c_21 => ?_)
            · refine xi_iconst hx hb dX12_charges_97 ?_
              exact xi_eq (z' := bI (feB S b c k)) (bI_f (by simp only [feB, c_4, Int.not_le.mpr c_4, c_14, c_17, c_19, c_21, decide_true, decide_false, Bool.true_and, Bool.and_true, Bool.false_and, Bool.and_false, Bool.true_or, Bool.or_true, Bool.false_or, Bool.or_false, Bool.not_true, Bool.not_false, eq_self])) (j_8 _ _ _ rfl hW)
            · refine xi_iconst hx hb dX12_charges_93 ?_
              refine lv_goto (tgt := 98) hx hb dX12_charges_94 (by decide) ?_
              exact xi_eq (z' := bI (feB S b c k)) (bI_t (by simp only [feB, c_4, Int.not_le.mpr c_4, c_14, c_17, c_19, c_21, decide_true, decide_false, Bool.true_and, Bool.and_true, Bool.false_and, Bool.and_false, Bool.true_or, Bool.or_true, Bool.false_or, Bool.or_false, Bool.not_true, Bool.not_false, eq_self])) (j_8 _ _ _ rfl hW)
  refine lv_aload_n hx hb dX12_charges_0 rfl (lv_at hl 0 rfl) ?_
  refine mr_get K hK hW hin 1 (by decide) lM_account (v := .ref (ix 101)) rfl dX12_charges_1 ?_
  refine lv_iload_n hx hb dX12_charges_4 rfl (lv_at hl 1 rfl) ?_
  refine lv_iload_n hx hb dX12_charges_5 rfl (lv_at hl 2 rfl) ?_
  refine g_callS (As := [.int (iI (b)), .int (iI (c))]) (rest := [.ref (ix 101)]) K (c_M_of (b) (c)) (va_cwS 2 hts gM_X12_of rfl rfl rfl (by decide +kernel) ⟨Nat.le_of_ble_eq_true rfl, Nat.le_of_ble_eq_true rfl⟩) hK hW rfl hl.1 rfl (Nat.le_of_ble_eq_true rfl) dX12_charges_6 ⟨Nat.le_refl _, Nat.le_refl _⟩ (fun v_ f_ H locs hp hW => ?_)
  obtain ⟨hpv, hpe⟩ := hp
  rw [hpe] at hW
  subst hpv
  refine mr_lald K hK hW 1 (by decide) rfl (n := 21) rfl rfl ⟨by omega, by omega⟩ (v := S.2 1 (3 * b + c)) rfl dX12_charges_9 ?_
  refine lv_lconst (v := 0) hx hb dX12_charges_10 (by decide) ?_
  refine xi_lcmp_ge (tgt := 29) hx hb dX12_charges_11 dX12_charges_12 (by decide) (fun c_22 => ?_) (fun c_22 => ?_)
  · refine lv_lconst (v := 0) hx hb dX12_charges_29 (by decide) ?_
    exact xl_eq (z' := sBel S b c) (by rw [sBel, if_neg c_22]) (j_1 _ _ _ rfl hW)
  · refine lv_aload_n hx hb dX12_charges_15 rfl (lv_at hl 0 rfl) ?_
    refine mr_get K hK hW hin 1 (by decide) lM_account (v := .ref (ix 101)) rfl dX12_charges_16 ?_
    refine lv_iload_n hx hb dX12_charges_19 rfl (lv_at hl 1 rfl) ?_
    refine lv_iload_n hx hb dX12_charges_20 rfl (lv_at hl 2 rfl) ?_
    refine g_callS (As := [.int (iI (b)), .int (iI (c))]) (rest := [.ref (ix 101)]) K (c_M_of (b) (c)) (va_cwS 2 hts gM_X12_of rfl rfl rfl (by decide +kernel) ⟨Nat.le_of_ble_eq_true rfl, Nat.le_of_ble_eq_true rfl⟩) hK hW rfl hl.1 rfl (Nat.le_of_ble_eq_true rfl) dX12_charges_21 ⟨Nat.le_refl _, Nat.le_refl _⟩ (fun v_ f_ H locs hp hW => ?_)
    obtain ⟨hpv, hpe⟩ := hp
    rw [hpe] at hW
    subst hpv
    refine mr_lald K hK hW 1 (by decide) rfl (n := 21) rfl rfl ⟨by omega, by omega⟩ (v := S.2 1 (3 * b + c)) rfl dX12_charges_24 ?_
    refine lv_lneg hx hb dX12_charges_25 ?_
    refine lv_goto (tgt := 30) hx hb dX12_charges_26 (by decide) ?_
    exact xl_eq (z' := sBel S b c) (by rw [sBel, if_pos c_22]) (j_1 _ _ _ rfl hW)
end
