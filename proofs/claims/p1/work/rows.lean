section
-- ===== PART A: goes FIRST, ahead of the names: the tables' words, and 'selects' of the private methods out of them =====
/-- a private method of a class that the tables say can be made, by its rows of tables_1 -/
def lw_okq (q : MethodName × Nat) : Prop := (q.1.cls ≠ "java/lang/invoke/MethodHandle" ∧ q.1.cls ≠ "java/lang/invoke/VarHandle") ∧ Cond.instantiable q.1.cls q.2 ∈ tables_1 ∧ Cond.privateMethod q.1 ∈ tables_1 ∧ Cond.instanceMethod q.1 ∈ tables_1
theorem lw_p0 : lw_okq (⟨"ForthHouse$Words", "addLine", "(Ljava/lang/String;)V"⟩, 14) := ⟨⟨by decide +kernel, by decide +kernel⟩, List.mem_of_getElem? (i := 199) (by decide +kernel), List.mem_of_getElem? (i := 206) (by decide +kernel), List.mem_of_getElem? (i := 207) (by decide +kernel)⟩
theorem lw_p1 : lw_okq (⟨"ForthHouse", "systemOf", "(I)LForthHouse$Forth;"⟩, 7) := ⟨⟨by decide +kernel, by decide +kernel⟩, List.mem_of_getElem? (i := 22) (by decide +kernel), List.mem_of_getElem? (i := 753) (by decide +kernel), List.mem_of_getElem? (i := 754) (by decide +kernel)⟩
theorem lw_p2 : lw_okq (⟨"ForthHouse$Texts", "settle", "()V"⟩, 15) := ⟨⟨by decide +kernel, by decide +kernel⟩, List.mem_of_getElem? (i := 359) (by decide +kernel), List.mem_of_getElem? (i := 768) (by decide +kernel), List.mem_of_getElem? (i := 769) (by decide +kernel)⟩
theorem lw_p3 : lw_okq (⟨"ForthHouse$Forth", "step", "()I"⟩, 18) := ⟨⟨by decide +kernel, by decide +kernel⟩, List.mem_of_getElem? (i := 191) (by decide +kernel), List.mem_of_getElem? (i := 776) (by decide +kernel), List.mem_of_getElem? (i := 777) (by decide +kernel)⟩
theorem lw_p4 : lw_okq (⟨"ForthHouse$Forth", "hand", "()LForthHouse$Task;"⟩, 18) := ⟨⟨by decide +kernel, by decide +kernel⟩, List.mem_of_getElem? (i := 191) (by decide +kernel), List.mem_of_getElem? (i := 780) (by decide +kernel), List.mem_of_getElem? (i := 781) (by decide +kernel)⟩
theorem lw_p5 : lw_okq (⟨"ForthHouse$Forth", "beginTask", "(LForthHouse$Task;)I"⟩, 18) := ⟨⟨by decide +kernel, by decide +kernel⟩, List.mem_of_getElem? (i := 191) (by decide +kernel), List.mem_of_getElem? (i := 784) (by decide +kernel), List.mem_of_getElem? (i := 785) (by decide +kernel)⟩
theorem lw_p6 : lw_okq (⟨"ForthHouse$Forth", "ask", "(IZ)V"⟩, 18) := ⟨⟨by decide +kernel, by decide +kernel⟩, List.mem_of_getElem? (i := 191) (by decide +kernel), List.mem_of_getElem? (i := 792) (by decide +kernel), List.mem_of_getElem? (i := 793) (by decide +kernel)⟩
theorem lw_p7 : lw_okq (⟨"ForthHouse$Forth", "take", "(LForthHouse$Task;)I"⟩, 18) := ⟨⟨by decide +kernel, by decide +kernel⟩, List.mem_of_getElem? (i := 191) (by decide +kernel), List.mem_of_getElem? (i := 796) (by decide +kernel), List.mem_of_getElem? (i := 797) (by decide +kernel)⟩
theorem lw_p8 : lw_okq (⟨"ForthHouse$Forth", "takeFromBox", "(LForthHouse$Task;)I"⟩, 18) := ⟨⟨by decide +kernel, by decide +kernel⟩, List.mem_of_getElem? (i := 191) (by decide +kernel), List.mem_of_getElem? (i := 800) (by decide +kernel), List.mem_of_getElem? (i := 801) (by decide +kernel)⟩
theorem lw_p9 : lw_okq (⟨"ForthHouse$Forth", "itemStep", "(LForthHouse$Task;)I"⟩, 18) := ⟨⟨by decide +kernel, by decide +kernel⟩, List.mem_of_getElem? (i := 191) (by decide +kernel), List.mem_of_getElem? (i := 820) (by decide +kernel), List.mem_of_getElem? (i := 821) (by decide +kernel)⟩
theorem lw_p10 : lw_okq (⟨"ForthHouse$Forth", "does", "(LForthHouse$Task;I)I"⟩, 18) := ⟨⟨by decide +kernel, by decide +kernel⟩, List.mem_of_getElem? (i := 191) (by decide +kernel), List.mem_of_getElem? (i := 828) (by decide +kernel), List.mem_of_getElem? (i := 829) (by decide +kernel)⟩
theorem lw_p11 : lw_okq (⟨"ForthHouse$Forth", "assign", "(I)I"⟩, 18) := ⟨⟨by decide +kernel, by decide +kernel⟩, List.mem_of_getElem? (i := 191) (by decide +kernel), List.mem_of_getElem? (i := 846) (by decide +kernel), List.mem_of_getElem? (i := 847) (by decide +kernel)⟩
theorem lw_p12 : lw_okq (⟨"ForthHouse$Forth", "abort", "(LForthHouse$Task;)I"⟩, 18) := ⟨⟨by decide +kernel, by decide +kernel⟩, List.mem_of_getElem? (i := 191) (by decide +kernel), List.mem_of_getElem? (i := 858) (by decide +kernel), List.mem_of_getElem? (i := 859) (by decide +kernel)⟩
theorem lw_p13 : lw_okq (⟨"ForthHouse$Forth", "putOut", "(JJ)I"⟩, 18) := ⟨⟨by decide +kernel, by decide +kernel⟩, List.mem_of_getElem? (i := 191) (by decide +kernel), List.mem_of_getElem? (i := 866) (by decide +kernel), List.mem_of_getElem? (i := 867) (by decide +kernel)⟩
theorem lw_p14 : lw_okq (⟨"ForthHouse$Sink", "grow", "(J)V"⟩, 8) := ⟨⟨by decide +kernel, by decide +kernel⟩, List.mem_of_getElem? (i := 531) (by decide +kernel), List.mem_of_getElem? (i := 886) (by decide +kernel), List.mem_of_getElem? (i := 887) (by decide +kernel)⟩
theorem lw_p15 : lw_okq (⟨"ForthHouse$Forth", "endCatch", "(LForthHouse$Task;)I"⟩, 18) := ⟨⟨by decide +kernel, by decide +kernel⟩, List.mem_of_getElem? (i := 191) (by decide +kernel), List.mem_of_getElem? (i := 930) (by decide +kernel), List.mem_of_getElem? (i := 931) (by decide +kernel)⟩
def lw_privs_1 : List (MethodName × Nat) := [(⟨"ForthHouse$Words", "addLine", "(Ljava/lang/String;)V"⟩, 14), (⟨"ForthHouse", "systemOf", "(I)LForthHouse$Forth;"⟩, 7), (⟨"ForthHouse$Texts", "settle", "()V"⟩, 15), (⟨"ForthHouse$Forth", "step", "()I"⟩, 18), (⟨"ForthHouse$Forth", "hand", "()LForthHouse$Task;"⟩, 18), (⟨"ForthHouse$Forth", "beginTask", "(LForthHouse$Task;)I"⟩, 18), (⟨"ForthHouse$Forth", "ask", "(IZ)V"⟩, 18), (⟨"ForthHouse$Forth", "take", "(LForthHouse$Task;)I"⟩, 18), (⟨"ForthHouse$Forth", "takeFromBox", "(LForthHouse$Task;)I"⟩, 18), (⟨"ForthHouse$Forth", "itemStep", "(LForthHouse$Task;)I"⟩, 18), (⟨"ForthHouse$Forth", "does", "(LForthHouse$Task;I)I"⟩, 18), (⟨"ForthHouse$Forth", "assign", "(I)I"⟩, 18), (⟨"ForthHouse$Forth", "abort", "(LForthHouse$Task;)I"⟩, 18), (⟨"ForthHouse$Forth", "putOut", "(JJ)I"⟩, 18), (⟨"ForthHouse$Sink", "grow", "(J)V"⟩, 8), (⟨"ForthHouse$Forth", "endCatch", "(LForthHouse$Task;)I"⟩, 18)]
theorem lw_r1 : ∀ q ∈ lw_privs_1, lw_okq q := List.forall_mem_cons.mpr ⟨lw_p0, List.forall_mem_cons.mpr ⟨lw_p1, List.forall_mem_cons.mpr ⟨lw_p2, List.forall_mem_cons.mpr ⟨lw_p3, List.forall_mem_cons.mpr ⟨lw_p4, List.forall_mem_cons.mpr ⟨lw_p5, List.forall_mem_cons.mpr ⟨lw_p6, List.forall_mem_cons.mpr ⟨lw_p7, List.forall_mem_cons.mpr ⟨lw_p8, List.forall_mem_cons.mpr ⟨lw_p9, List.forall_mem_cons.mpr ⟨lw_p10, List.forall_mem_cons.mpr ⟨lw_p11, List.forall_mem_cons.mpr ⟨lw_p12, List.forall_mem_cons.mpr ⟨lw_p13, List.forall_mem_cons.mpr ⟨lw_p14, List.forall_mem_cons.mpr ⟨lw_p15, fun _ h => absurd h List.not_mem_nil⟩⟩⟩⟩⟩⟩⟩⟩⟩⟩⟩⟩⟩⟩⟩⟩
theorem lw_p16 : lw_okq (⟨"ForthHouse$Forth", "hasText", "()Z"⟩, 18) := ⟨⟨by decide +kernel, by decide +kernel⟩, List.mem_of_getElem? (i := 191) (by decide +kernel), List.mem_of_getElem? (i := 935) (by decide +kernel), List.mem_of_getElem? (i := 936) (by decide +kernel)⟩
theorem lw_p17 : lw_okq (⟨"ForthHouse$Forth", "textStep", "()I"⟩, 18) := ⟨⟨by decide +kernel, by decide +kernel⟩, List.mem_of_getElem? (i := 191) (by decide +kernel), List.mem_of_getElem? (i := 939) (by decide +kernel), List.mem_of_getElem? (i := 940) (by decide +kernel)⟩
theorem lw_p18 : lw_okq (⟨"ForthHouse$Forth", "endText", "()I"⟩, 18) := ⟨⟨by decide +kernel, by decide +kernel⟩, List.mem_of_getElem? (i := 191) (by decide +kernel), List.mem_of_getElem? (i := 958) (by decide +kernel), List.mem_of_getElem? (i := 959) (by decide +kernel)⟩
theorem lw_p19 : lw_okq (⟨"ForthHouse$Forth", "takeNumber", "()I"⟩, 18) := ⟨⟨by decide +kernel, by decide +kernel⟩, List.mem_of_getElem? (i := 191) (by decide +kernel), List.mem_of_getElem? (i := 990) (by decide +kernel), List.mem_of_getElem? (i := 991) (by decide +kernel)⟩
theorem lw_p20 : lw_okq (⟨"ForthHouse$Forth", "leave", "(JZ)I"⟩, 18) := ⟨⟨by decide +kernel, by decide +kernel⟩, List.mem_of_getElem? (i := 191) (by decide +kernel), List.mem_of_getElem? (i := 994) (by decide +kernel), List.mem_of_getElem? (i := 995) (by decide +kernel)⟩
theorem lw_p21 : lw_okq (⟨"ForthHouse$Forth", "endTask", "(I)I"⟩, 18) := ⟨⟨by decide +kernel, by decide +kernel⟩, List.mem_of_getElem? (i := 191) (by decide +kernel), List.mem_of_getElem? (i := 1017) (by decide +kernel), List.mem_of_getElem? (i := 1018) (by decide +kernel)⟩
theorem lw_p22 : lw_okq (⟨"ForthHouse$Forth", "handOn", "()Z"⟩, 18) := ⟨⟨by decide +kernel, by decide +kernel⟩, List.mem_of_getElem? (i := 191) (by decide +kernel), List.mem_of_getElem? (i := 1025) (by decide +kernel), List.mem_of_getElem? (i := 1026) (by decide +kernel)⟩
theorem lw_p23 : lw_okq (⟨"ForthHouse$Forth", "perform", "()I"⟩, 18) := ⟨⟨by decide +kernel, by decide +kernel⟩, List.mem_of_getElem? (i := 191) (by decide +kernel), List.mem_of_getElem? (i := 1029) (by decide +kernel), List.mem_of_getElem? (i := 1030) (by decide +kernel)⟩
theorem lw_p24 : lw_okq (⟨"ForthHouse$Forth", "doCreated", "(LForthHouse$Task;I)I"⟩, 18) := ⟨⟨by decide +kernel, by decide +kernel⟩, List.mem_of_getElem? (i := 191) (by decide +kernel), List.mem_of_getElem? (i := 1041) (by decide +kernel), List.mem_of_getElem? (i := 1042) (by decide +kernel)⟩
theorem lw_p25 : lw_okq (⟨"ForthHouse$Forth", "offer", "(LForthHouse$Task;I)I"⟩, 18) := ⟨⟨by decide +kernel, by decide +kernel⟩, List.mem_of_getElem? (i := 191) (by decide +kernel), List.mem_of_getElem? (i := 1045) (by decide +kernel), List.mem_of_getElem? (i := 1046) (by decide +kernel)⟩
theorem lw_p26 : lw_okq (⟨"ForthHouse$Forth", "goBack", "(LForthHouse$Task;I)I"⟩, 18) := ⟨⟨by decide +kernel, by decide +kernel⟩, List.mem_of_getElem? (i := 191) (by decide +kernel), List.mem_of_getElem? (i := 1049) (by decide +kernel), List.mem_of_getElem? (i := 1050) (by decide +kernel)⟩
theorem lw_p27 : lw_okq (⟨"ForthHouse$Forth", "printing", "(LForthHouse$Task;I)I"⟩, 18) := ⟨⟨by decide +kernel, by decide +kernel⟩, List.mem_of_getElem? (i := 191) (by decide +kernel), List.mem_of_getElem? (i := 1216) (by decide +kernel), List.mem_of_getElem? (i := 1217) (by decide +kernel)⟩
theorem lw_p28 : lw_okq (⟨"ForthHouse$Forth", "print", "(LForthHouse$Task;Z)I"⟩, 18) := ⟨⟨by decide +kernel, by decide +kernel⟩, List.mem_of_getElem? (i := 191) (by decide +kernel), List.mem_of_getElem? (i := 1220) (by decide +kernel), List.mem_of_getElem? (i := 1221) (by decide +kernel)⟩
theorem lw_p29 : lw_okq (⟨"ForthHouse$Forth", "sharp", "(LForthHouse$Task;Z)I"⟩, 18) := ⟨⟨by decide +kernel, by decide +kernel⟩, List.mem_of_getElem? (i := 191) (by decide +kernel), List.mem_of_getElem? (i := 1242) (by decide +kernel), List.mem_of_getElem? (i := 1243) (by decide +kernel)⟩
theorem lw_p30 : lw_okq (⟨"ForthHouse$Forth", "defining", "(LForthHouse$Task;I)I"⟩, 18) := ⟨⟨by decide +kernel, by decide +kernel⟩, List.mem_of_getElem? (i := 191) (by decide +kernel), List.mem_of_getElem? (i := 1255) (by decide +kernel), List.mem_of_getElem? (i := 1256) (by decide +kernel)⟩
theorem lw_p31 : lw_okq (⟨"ForthHouse$Forth", "readFor", "(I)I"⟩, 18) := ⟨⟨by decide +kernel, by decide +kernel⟩, List.mem_of_getElem? (i := 191) (by decide +kernel), List.mem_of_getElem? (i := 1259) (by decide +kernel), List.mem_of_getElem? (i := 1260) (by decide +kernel)⟩
def lw_privs_2 : List (MethodName × Nat) := [(⟨"ForthHouse$Forth", "hasText", "()Z"⟩, 18), (⟨"ForthHouse$Forth", "textStep", "()I"⟩, 18), (⟨"ForthHouse$Forth", "endText", "()I"⟩, 18), (⟨"ForthHouse$Forth", "takeNumber", "()I"⟩, 18), (⟨"ForthHouse$Forth", "leave", "(JZ)I"⟩, 18), (⟨"ForthHouse$Forth", "endTask", "(I)I"⟩, 18), (⟨"ForthHouse$Forth", "handOn", "()Z"⟩, 18), (⟨"ForthHouse$Forth", "perform", "()I"⟩, 18), (⟨"ForthHouse$Forth", "doCreated", "(LForthHouse$Task;I)I"⟩, 18), (⟨"ForthHouse$Forth", "offer", "(LForthHouse$Task;I)I"⟩, 18), (⟨"ForthHouse$Forth", "goBack", "(LForthHouse$Task;I)I"⟩, 18), (⟨"ForthHouse$Forth", "printing", "(LForthHouse$Task;I)I"⟩, 18), (⟨"ForthHouse$Forth", "print", "(LForthHouse$Task;Z)I"⟩, 18), (⟨"ForthHouse$Forth", "sharp", "(LForthHouse$Task;Z)I"⟩, 18), (⟨"ForthHouse$Forth", "defining", "(LForthHouse$Task;I)I"⟩, 18), (⟨"ForthHouse$Forth", "readFor", "(I)I"⟩, 18)]
theorem lw_r2 : ∀ q ∈ lw_privs_2, lw_okq q := List.forall_mem_cons.mpr ⟨lw_p16, List.forall_mem_cons.mpr ⟨lw_p17, List.forall_mem_cons.mpr ⟨lw_p18, List.forall_mem_cons.mpr ⟨lw_p19, List.forall_mem_cons.mpr ⟨lw_p20, List.forall_mem_cons.mpr ⟨lw_p21, List.forall_mem_cons.mpr ⟨lw_p22, List.forall_mem_cons.mpr ⟨lw_p23, List.forall_mem_cons.mpr ⟨lw_p24, List.forall_mem_cons.mpr ⟨lw_p25, List.forall_mem_cons.mpr ⟨lw_p26, List.forall_mem_cons.mpr ⟨lw_p27, List.forall_mem_cons.mpr ⟨lw_p28, List.forall_mem_cons.mpr ⟨lw_p29, List.forall_mem_cons.mpr ⟨lw_p30, List.forall_mem_cons.mpr ⟨lw_p31, fun _ h => absurd h List.not_mem_nil⟩⟩⟩⟩⟩⟩⟩⟩⟩⟩⟩⟩⟩⟩⟩⟩
theorem lw_p32 : lw_okq (⟨"ForthHouse$Forth", "beginDefinition", "(I)I"⟩, 18) := ⟨⟨by decide +kernel, by decide +kernel⟩, List.mem_of_getElem? (i := 191) (by decide +kernel), List.mem_of_getElem? (i := 1263) (by decide +kernel), List.mem_of_getElem? (i := 1264) (by decide +kernel)⟩
theorem lw_p33 : lw_okq (⟨"ForthHouse$Forth", "endDefinition", "(LForthHouse$Task;)I"⟩, 18) := ⟨⟨by decide +kernel, by decide +kernel⟩, List.mem_of_getElem? (i := 191) (by decide +kernel), List.mem_of_getElem? (i := 1280) (by decide +kernel), List.mem_of_getElem? (i := 1281) (by decide +kernel)⟩
theorem lw_p34 : lw_okq (⟨"ForthHouse$Making", "base", "()I"⟩, 15) := ⟨⟨by decide +kernel, by decide +kernel⟩, List.mem_of_getElem? (i := 421) (by decide +kernel), List.mem_of_getElem? (i := 1288) (by decide +kernel), List.mem_of_getElem? (i := 1289) (by decide +kernel)⟩
theorem lw_p35 : lw_okq (⟨"ForthHouse$Forth", "finish", "()V"⟩, 18) := ⟨⟨by decide +kernel, by decide +kernel⟩, List.mem_of_getElem? (i := 191) (by decide +kernel), List.mem_of_getElem? (i := 1292) (by decide +kernel), List.mem_of_getElem? (i := 1293) (by decide +kernel)⟩
theorem lw_p36 : lw_okq (⟨"ForthHouse$Forth", "makeValue", "(LForthHouse$Task;I)I"⟩, 18) := ⟨⟨by decide +kernel, by decide +kernel⟩, List.mem_of_getElem? (i := 191) (by decide +kernel), List.mem_of_getElem? (i := 1304) (by decide +kernel), List.mem_of_getElem? (i := 1305) (by decide +kernel)⟩
theorem lw_p37 : lw_okq (⟨"ForthHouse$Forth", "makeWord", "(I)I"⟩, 18) := ⟨⟨by decide +kernel, by decide +kernel⟩, List.mem_of_getElem? (i := 191) (by decide +kernel), List.mem_of_getElem? (i := 1308) (by decide +kernel), List.mem_of_getElem? (i := 1309) (by decide +kernel)⟩
theorem lw_p38 : lw_okq (⟨"ForthHouse$Forth", "makeImmediate", "()I"⟩, 18) := ⟨⟨by decide +kernel, by decide +kernel⟩, List.mem_of_getElem? (i := 191) (by decide +kernel), List.mem_of_getElem? (i := 1317) (by decide +kernel), List.mem_of_getElem? (i := 1318) (by decide +kernel)⟩
theorem lw_p39 : lw_okq (⟨"ForthHouse$Forth", "tick", "(LForthHouse$Task;I)I"⟩, 18) := ⟨⟨by decide +kernel, by decide +kernel⟩, List.mem_of_getElem? (i := 191) (by decide +kernel), List.mem_of_getElem? (i := 1325) (by decide +kernel), List.mem_of_getElem? (i := 1326) (by decide +kernel)⟩
theorem lw_p40 : lw_okq (⟨"ForthHouse$Forth", "setNamed", "(I)I"⟩, 18) := ⟨⟨by decide +kernel, by decide +kernel⟩, List.mem_of_getElem? (i := 191) (by decide +kernel), List.mem_of_getElem? (i := 1329) (by decide +kernel), List.mem_of_getElem? (i := 1330) (by decide +kernel)⟩
theorem lw_p41 : lw_okq (⟨"ForthHouse$Forth", "addDoes", "()I"⟩, 18) := ⟨⟨by decide +kernel, by decide +kernel⟩, List.mem_of_getElem? (i := 191) (by decide +kernel), List.mem_of_getElem? (i := 1333) (by decide +kernel), List.mem_of_getElem? (i := 1334) (by decide +kernel)⟩
theorem lw_p42 : lw_okq (⟨"ForthHouse$Forth", "string", "(LForthHouse$Task;I)I"⟩, 18) := ⟨⟨by decide +kernel, by decide +kernel⟩, List.mem_of_getElem? (i := 191) (by decide +kernel), List.mem_of_getElem? (i := 1341) (by decide +kernel), List.mem_of_getElem? (i := 1342) (by decide +kernel)⟩
theorem lw_p43 : lw_okq (⟨"ForthHouse$Forth", "readLocals", "()I"⟩, 18) := ⟨⟨by decide +kernel, by decide +kernel⟩, List.mem_of_getElem? (i := 191) (by decide +kernel), List.mem_of_getElem? (i := 1359) (by decide +kernel), List.mem_of_getElem? (i := 1360) (by decide +kernel)⟩
theorem lw_p44 : lw_okq (⟨"ForthHouse$Forth", "addLocals", "(II)I"⟩, 18) := ⟨⟨by decide +kernel, by decide +kernel⟩, List.mem_of_getElem? (i := 191) (by decide +kernel), List.mem_of_getElem? (i := 1368) (by decide +kernel), List.mem_of_getElem? (i := 1369) (by decide +kernel)⟩
theorem lw_p45 : lw_okq (⟨"ForthHouse$Forth", "beginQuotation", "()I"⟩, 18) := ⟨⟨by decide +kernel, by decide +kernel⟩, List.mem_of_getElem? (i := 191) (by decide +kernel), List.mem_of_getElem? (i := 1382) (by decide +kernel), List.mem_of_getElem? (i := 1383) (by decide +kernel)⟩
theorem lw_p46 : lw_okq (⟨"ForthHouse$Forth", "endQuotation", "()I"⟩, 18) := ⟨⟨by decide +kernel, by decide +kernel⟩, List.mem_of_getElem? (i := 191) (by decide +kernel), List.mem_of_getElem? (i := 1386) (by decide +kernel), List.mem_of_getElem? (i := 1387) (by decide +kernel)⟩
theorem lw_p47 : lw_okq (⟨"ForthHouse$Forth", "evaluateText", "(LForthHouse$Task;)I"⟩, 18) := ⟨⟨by decide +kernel, by decide +kernel⟩, List.mem_of_getElem? (i := 191) (by decide +kernel), List.mem_of_getElem? (i := 1395) (by decide +kernel), List.mem_of_getElem? (i := 1396) (by decide +kernel)⟩
def lw_privs_3 : List (MethodName × Nat) := [(⟨"ForthHouse$Forth", "beginDefinition", "(I)I"⟩, 18), (⟨"ForthHouse$Forth", "endDefinition", "(LForthHouse$Task;)I"⟩, 18), (⟨"ForthHouse$Making", "base", "()I"⟩, 15), (⟨"ForthHouse$Forth", "finish", "()V"⟩, 18), (⟨"ForthHouse$Forth", "makeValue", "(LForthHouse$Task;I)I"⟩, 18), (⟨"ForthHouse$Forth", "makeWord", "(I)I"⟩, 18), (⟨"ForthHouse$Forth", "makeImmediate", "()I"⟩, 18), (⟨"ForthHouse$Forth", "tick", "(LForthHouse$Task;I)I"⟩, 18), (⟨"ForthHouse$Forth", "setNamed", "(I)I"⟩, 18), (⟨"ForthHouse$Forth", "addDoes", "()I"⟩, 18), (⟨"ForthHouse$Forth", "string", "(LForthHouse$Task;I)I"⟩, 18), (⟨"ForthHouse$Forth", "readLocals", "()I"⟩, 18), (⟨"ForthHouse$Forth", "addLocals", "(II)I"⟩, 18), (⟨"ForthHouse$Forth", "beginQuotation", "()I"⟩, 18), (⟨"ForthHouse$Forth", "endQuotation", "()I"⟩, 18), (⟨"ForthHouse$Forth", "evaluateText", "(LForthHouse$Task;)I"⟩, 18)]
theorem lw_r3 : ∀ q ∈ lw_privs_3, lw_okq q := List.forall_mem_cons.mpr ⟨lw_p32, List.forall_mem_cons.mpr ⟨lw_p33, List.forall_mem_cons.mpr ⟨lw_p34, List.forall_mem_cons.mpr ⟨lw_p35, List.forall_mem_cons.mpr ⟨lw_p36, List.forall_mem_cons.mpr ⟨lw_p37, List.forall_mem_cons.mpr ⟨lw_p38, List.forall_mem_cons.mpr ⟨lw_p39, List.forall_mem_cons.mpr ⟨lw_p40, List.forall_mem_cons.mpr ⟨lw_p41, List.forall_mem_cons.mpr ⟨lw_p42, List.forall_mem_cons.mpr ⟨lw_p43, List.forall_mem_cons.mpr ⟨lw_p44, List.forall_mem_cons.mpr ⟨lw_p45, List.forall_mem_cons.mpr ⟨lw_p46, List.forall_mem_cons.mpr ⟨lw_p47, fun _ h => absurd h List.not_mem_nil⟩⟩⟩⟩⟩⟩⟩⟩⟩⟩⟩⟩⟩⟩⟩⟩
theorem lw_p48 : lw_okq (⟨"ForthHouse$Forth", "nest", "(LForthHouse$Task;III)I"⟩, 18) := ⟨⟨by decide +kernel, by decide +kernel⟩, List.mem_of_getElem? (i := 191) (by decide +kernel), List.mem_of_getElem? (i := 1399) (by decide +kernel), List.mem_of_getElem? (i := 1400) (by decide +kernel)⟩
theorem lw_p49 : lw_okq (⟨"ForthHouse$Forth", "doToken", "(LForthHouse$Task;I)I"⟩, 18) := ⟨⟨by decide +kernel, by decide +kernel⟩, List.mem_of_getElem? (i := 191) (by decide +kernel), List.mem_of_getElem? (i := 1408) (by decide +kernel), List.mem_of_getElem? (i := 1409) (by decide +kernel)⟩
theorem lw_p50 : lw_okq (⟨"ForthHouse$Making", "branch", "(II)I"⟩, 15) := ⟨⟨by decide +kernel, by decide +kernel⟩, List.mem_of_getElem? (i := 421) (by decide +kernel), List.mem_of_getElem? (i := 1416) (by decide +kernel), List.mem_of_getElem? (i := 1417) (by decide +kernel)⟩
theorem lw_p51 : lw_okq (⟨"ForthHouse$Making", "setPair", "(III)V"⟩, 15) := ⟨⟨by decide +kernel, by decide +kernel⟩, List.mem_of_getElem? (i := 421) (by decide +kernel), List.mem_of_getElem? (i := 1421) (by decide +kernel), List.mem_of_getElem? (i := 1422) (by decide +kernel)⟩
theorem lw_p52 : lw_okq (⟨"ForthHouse$Making", "pair", "(II)I"⟩, 15) := ⟨⟨by decide +kernel, by decide +kernel⟩, List.mem_of_getElem? (i := 421) (by decide +kernel), List.mem_of_getElem? (i := 1426) (by decide +kernel), List.mem_of_getElem? (i := 1427) (by decide +kernel)⟩
theorem lw_p53 : lw_okq (⟨"ForthHouse$Making", "then", "()I"⟩, 15) := ⟨⟨by decide +kernel, by decide +kernel⟩, List.mem_of_getElem? (i := 421) (by decide +kernel), List.mem_of_getElem? (i := 1430) (by decide +kernel), List.mem_of_getElem? (i := 1431) (by decide +kernel)⟩
theorem lw_p54 : lw_okq (⟨"ForthHouse$Making", "kindAt", "(I)I"⟩, 15) := ⟨⟨by decide +kernel, by decide +kernel⟩, List.mem_of_getElem? (i := 421) (by decide +kernel), List.mem_of_getElem? (i := 1434) (by decide +kernel), List.mem_of_getElem? (i := 1435) (by decide +kernel)⟩
theorem lw_p55 : lw_okq (⟨"ForthHouse$Making", "placeAt", "(I)I"⟩, 15) := ⟨⟨by decide +kernel, by decide +kernel⟩, List.mem_of_getElem? (i := 421) (by decide +kernel), List.mem_of_getElem? (i := 1438) (by decide +kernel), List.mem_of_getElem? (i := 1439) (by decide +kernel)⟩
theorem lw_p56 : lw_okq (⟨"ForthHouse$Making", "otherwise", "(II)I"⟩, 15) := ⟨⟨by decide +kernel, by decide +kernel⟩, List.mem_of_getElem? (i := 421) (by decide +kernel), List.mem_of_getElem? (i := 1443) (by decide +kernel), List.mem_of_getElem? (i := 1444) (by decide +kernel)⟩
theorem lw_p57 : lw_okq (⟨"ForthHouse$Making", "back", "(I)I"⟩, 15) := ⟨⟨by decide +kernel, by decide +kernel⟩, List.mem_of_getElem? (i := 421) (by decide +kernel), List.mem_of_getElem? (i := 1447) (by decide +kernel), List.mem_of_getElem? (i := 1448) (by decide +kernel)⟩
theorem lw_p58 : lw_okq (⟨"ForthHouse$Making", "during", "()I"⟩, 15) := ⟨⟨by decide +kernel, by decide +kernel⟩, List.mem_of_getElem? (i := 421) (by decide +kernel), List.mem_of_getElem? (i := 1451) (by decide +kernel), List.mem_of_getElem? (i := 1452) (by decide +kernel)⟩
theorem lw_p59 : lw_okq (⟨"ForthHouse$Making", "repeat", "()I"⟩, 15) := ⟨⟨by decide +kernel, by decide +kernel⟩, List.mem_of_getElem? (i := 421) (by decide +kernel), List.mem_of_getElem? (i := 1455) (by decide +kernel), List.mem_of_getElem? (i := 1456) (by decide +kernel)⟩
theorem lw_p60 : lw_okq (⟨"ForthHouse$Making", "endLoop", "(I)I"⟩, 15) := ⟨⟨by decide +kernel, by decide +kernel⟩, List.mem_of_getElem? (i := 421) (by decide +kernel), List.mem_of_getElem? (i := 1459) (by decide +kernel), List.mem_of_getElem? (i := 1460) (by decide +kernel)⟩
theorem lw_p61 : lw_okq (⟨"ForthHouse$Making", "leave", "()I"⟩, 15) := ⟨⟨by decide +kernel, by decide +kernel⟩, List.mem_of_getElem? (i := 421) (by decide +kernel), List.mem_of_getElem? (i := 1467) (by decide +kernel), List.mem_of_getElem? (i := 1468) (by decide +kernel)⟩
theorem lw_p62 : lw_okq (⟨"ForthHouse$Making", "endCase", "()I"⟩, 15) := ⟨⟨by decide +kernel, by decide +kernel⟩, List.mem_of_getElem? (i := 421) (by decide +kernel), List.mem_of_getElem? (i := 1471) (by decide +kernel), List.mem_of_getElem? (i := 1472) (by decide +kernel)⟩
theorem lw_p63 : lw_okq (⟨"ForthHouse$Forth", "tasking", "(LForthHouse$Task;I)I"⟩, 18) := ⟨⟨by decide +kernel, by decide +kernel⟩, List.mem_of_getElem? (i := 191) (by decide +kernel), List.mem_of_getElem? (i := 1475) (by decide +kernel), List.mem_of_getElem? (i := 1476) (by decide +kernel)⟩
def lw_privs_4 : List (MethodName × Nat) := [(⟨"ForthHouse$Forth", "nest", "(LForthHouse$Task;III)I"⟩, 18), (⟨"ForthHouse$Forth", "doToken", "(LForthHouse$Task;I)I"⟩, 18), (⟨"ForthHouse$Making", "branch", "(II)I"⟩, 15), (⟨"ForthHouse$Making", "setPair", "(III)V"⟩, 15), (⟨"ForthHouse$Making", "pair", "(II)I"⟩, 15), (⟨"ForthHouse$Making", "then", "()I"⟩, 15), (⟨"ForthHouse$Making", "kindAt", "(I)I"⟩, 15), (⟨"ForthHouse$Making", "placeAt", "(I)I"⟩, 15), (⟨"ForthHouse$Making", "otherwise", "(II)I"⟩, 15), (⟨"ForthHouse$Making", "back", "(I)I"⟩, 15), (⟨"ForthHouse$Making", "during", "()I"⟩, 15), (⟨"ForthHouse$Making", "repeat", "()I"⟩, 15), (⟨"ForthHouse$Making", "endLoop", "(I)I"⟩, 15), (⟨"ForthHouse$Making", "leave", "()I"⟩, 15), (⟨"ForthHouse$Making", "endCase", "()I"⟩, 15), (⟨"ForthHouse$Forth", "tasking", "(LForthHouse$Task;I)I"⟩, 18)]
theorem lw_r4 : ∀ q ∈ lw_privs_4, lw_okq q := List.forall_mem_cons.mpr ⟨lw_p48, List.forall_mem_cons.mpr ⟨lw_p49, List.forall_mem_cons.mpr ⟨lw_p50, List.forall_mem_cons.mpr ⟨lw_p51, List.forall_mem_cons.mpr ⟨lw_p52, List.forall_mem_cons.mpr ⟨lw_p53, List.forall_mem_cons.mpr ⟨lw_p54, List.forall_mem_cons.mpr ⟨lw_p55, List.forall_mem_cons.mpr ⟨lw_p56, List.forall_mem_cons.mpr ⟨lw_p57, List.forall_mem_cons.mpr ⟨lw_p58, List.forall_mem_cons.mpr ⟨lw_p59, List.forall_mem_cons.mpr ⟨lw_p60, List.forall_mem_cons.mpr ⟨lw_p61, List.forall_mem_cons.mpr ⟨lw_p62, List.forall_mem_cons.mpr ⟨lw_p63, fun _ h => absurd h List.not_mem_nil⟩⟩⟩⟩⟩⟩⟩⟩⟩⟩⟩⟩⟩⟩⟩⟩
theorem lw_p64 : lw_okq (⟨"ForthHouse$Forth", "beginCatch", "(LForthHouse$Task;)I"⟩, 18) := ⟨⟨by decide +kernel, by decide +kernel⟩, List.mem_of_getElem? (i := 191) (by decide +kernel), List.mem_of_getElem? (i := 1479) (by decide +kernel), List.mem_of_getElem? (i := 1480) (by decide +kernel)⟩
theorem lw_p65 : lw_okq (⟨"ForthHouse$Forth", "makeTask", "(LForthHouse$Task;)I"⟩, 18) := ⟨⟨by decide +kernel, by decide +kernel⟩, List.mem_of_getElem? (i := 191) (by decide +kernel), List.mem_of_getElem? (i := 1500) (by decide +kernel), List.mem_of_getElem? (i := 1501) (by decide +kernel)⟩
theorem lw_p66 : lw_okq (⟨"ForthHouse$Forth", "send", "(LForthHouse$Task;)I"⟩, 18) := ⟨⟨by decide +kernel, by decide +kernel⟩, List.mem_of_getElem? (i := 191) (by decide +kernel), List.mem_of_getElem? (i := 1504) (by decide +kernel), List.mem_of_getElem? (i := 1505) (by decide +kernel)⟩
theorem lw_p67 : lw_okq (⟨"ForthHouse$Forth", "receive", "(LForthHouse$Task;)I"⟩, 18) := ⟨⟨by decide +kernel, by decide +kernel⟩, List.mem_of_getElem? (i := 191) (by decide +kernel), List.mem_of_getElem? (i := 1509) (by decide +kernel), List.mem_of_getElem? (i := 1510) (by decide +kernel)⟩
theorem lw_p68 : lw_okq (⟨"ForthHouse$Forth", "load", "(LForthHouse$Task;)I"⟩, 18) := ⟨⟨by decide +kernel, by decide +kernel⟩, List.mem_of_getElem? (i := 191) (by decide +kernel), List.mem_of_getElem? (i := 1513) (by decide +kernel), List.mem_of_getElem? (i := 1514) (by decide +kernel)⟩
theorem lw_p69 : lw_okq (⟨"ForthHouse$Judge", "pass", "()V"⟩, 20) := ⟨⟨by decide +kernel, by decide +kernel⟩, List.mem_of_getElem? (i := 566) (by decide +kernel), List.mem_of_getElem? (i := 1536) (by decide +kernel), List.mem_of_getElem? (i := 1537) (by decide +kernel)⟩
theorem lw_p70 : lw_okq (⟨"ForthHouse$Judge", "arrive", "(IIII)V"⟩, 20) := ⟨⟨by decide +kernel, by decide +kernel⟩, List.mem_of_getElem? (i := 566) (by decide +kernel), List.mem_of_getElem? (i := 1540) (by decide +kernel), List.mem_of_getElem? (i := 1541) (by decide +kernel)⟩
theorem lw_p71 : lw_okq (⟨"ForthHouse$Judge", "leastWaiting", "()I"⟩, 20) := ⟨⟨by decide +kernel, by decide +kernel⟩, List.mem_of_getElem? (i := 566) (by decide +kernel), List.mem_of_getElem? (i := 1544) (by decide +kernel), List.mem_of_getElem? (i := 1545) (by decide +kernel)⟩
theorem lw_p72 : lw_okq (⟨"ForthHouse$Judge", "look", "(I)V"⟩, 20) := ⟨⟨by decide +kernel, by decide +kernel⟩, List.mem_of_getElem? (i := 566) (by decide +kernel), List.mem_of_getElem? (i := 1548) (by decide +kernel), List.mem_of_getElem? (i := 1549) (by decide +kernel)⟩
theorem lw_p73 : lw_okq (⟨"ForthHouse$Judge", "lookBuiltIn", "(II)V"⟩, 20) := ⟨⟨by decide +kernel, by decide +kernel⟩, List.mem_of_getElem? (i := 566) (by decide +kernel), List.mem_of_getElem? (i := 1553) (by decide +kernel), List.mem_of_getElem? (i := 1554) (by decide +kernel)⟩
theorem lw_p74 : lw_okq (⟨"ForthHouse$Judge", "leaveAt", "(I)V"⟩, 20) := ⟨⟨by decide +kernel, by decide +kernel⟩, List.mem_of_getElem? (i := 566) (by decide +kernel), List.mem_of_getElem? (i := 1557) (by decide +kernel), List.mem_of_getElem? (i := 1558) (by decide +kernel)⟩
theorem lw_p75 : lw_okq (⟨"ForthHouse$Judge", "stop", "(II)V"⟩, 20) := ⟨⟨by decide +kernel, by decide +kernel⟩, List.mem_of_getElem? (i := 566) (by decide +kernel), List.mem_of_getElem? (i := 1561) (by decide +kernel), List.mem_of_getElem? (i := 1562) (by decide +kernel)⟩
theorem lw_p76 : lw_okq (⟨"ForthHouse$Judge", "take", "(II)V"⟩, 20) := ⟨⟨by decide +kernel, by decide +kernel⟩, List.mem_of_getElem? (i := 566) (by decide +kernel), List.mem_of_getElem? (i := 1567) (by decide +kernel), List.mem_of_getElem? (i := 1568) (by decide +kernel)⟩
theorem lw_p77 : lw_okq (⟨"ForthHouse$Judge", "lookWord", "(II)V"⟩, 20) := ⟨⟨by decide +kernel, by decide +kernel⟩, List.mem_of_getElem? (i := 566) (by decide +kernel), List.mem_of_getElem? (i := 1572) (by decide +kernel), List.mem_of_getElem? (i := 1573) (by decide +kernel)⟩
theorem lw_p78 : lw_okq (⟨"ForthHouse$Judge", "goOn", "(III)V"⟩, 20) := ⟨⟨by decide +kernel, by decide +kernel⟩, List.mem_of_getElem? (i := 566) (by decide +kernel), List.mem_of_getElem? (i := 1577) (by decide +kernel), List.mem_of_getElem? (i := 1578) (by decide +kernel)⟩
theorem lw_p79 : lw_okq (⟨"ForthHouse$Judge", "lookLoop", "(II)V"⟩, 20) := ⟨⟨by decide +kernel, by decide +kernel⟩, List.mem_of_getElem? (i := 566) (by decide +kernel), List.mem_of_getElem? (i := 1581) (by decide +kernel), List.mem_of_getElem? (i := 1582) (by decide +kernel)⟩
def lw_privs_5 : List (MethodName × Nat) := [(⟨"ForthHouse$Forth", "beginCatch", "(LForthHouse$Task;)I"⟩, 18), (⟨"ForthHouse$Forth", "makeTask", "(LForthHouse$Task;)I"⟩, 18), (⟨"ForthHouse$Forth", "send", "(LForthHouse$Task;)I"⟩, 18), (⟨"ForthHouse$Forth", "receive", "(LForthHouse$Task;)I"⟩, 18), (⟨"ForthHouse$Forth", "load", "(LForthHouse$Task;)I"⟩, 18), (⟨"ForthHouse$Judge", "pass", "()V"⟩, 20), (⟨"ForthHouse$Judge", "arrive", "(IIII)V"⟩, 20), (⟨"ForthHouse$Judge", "leastWaiting", "()I"⟩, 20), (⟨"ForthHouse$Judge", "look", "(I)V"⟩, 20), (⟨"ForthHouse$Judge", "lookBuiltIn", "(II)V"⟩, 20), (⟨"ForthHouse$Judge", "leaveAt", "(I)V"⟩, 20), (⟨"ForthHouse$Judge", "stop", "(II)V"⟩, 20), (⟨"ForthHouse$Judge", "take", "(II)V"⟩, 20), (⟨"ForthHouse$Judge", "lookWord", "(II)V"⟩, 20), (⟨"ForthHouse$Judge", "goOn", "(III)V"⟩, 20), (⟨"ForthHouse$Judge", "lookLoop", "(II)V"⟩, 20)]
theorem lw_r5 : ∀ q ∈ lw_privs_5, lw_okq q := List.forall_mem_cons.mpr ⟨lw_p64, List.forall_mem_cons.mpr ⟨lw_p65, List.forall_mem_cons.mpr ⟨lw_p66, List.forall_mem_cons.mpr ⟨lw_p67, List.forall_mem_cons.mpr ⟨lw_p68, List.forall_mem_cons.mpr ⟨lw_p69, List.forall_mem_cons.mpr ⟨lw_p70, List.forall_mem_cons.mpr ⟨lw_p71, List.forall_mem_cons.mpr ⟨lw_p72, List.forall_mem_cons.mpr ⟨lw_p73, List.forall_mem_cons.mpr ⟨lw_p74, List.forall_mem_cons.mpr ⟨lw_p75, List.forall_mem_cons.mpr ⟨lw_p76, List.forall_mem_cons.mpr ⟨lw_p77, List.forall_mem_cons.mpr ⟨lw_p78, List.forall_mem_cons.mpr ⟨lw_p79, fun _ h => absurd h List.not_mem_nil⟩⟩⟩⟩⟩⟩⟩⟩⟩⟩⟩⟩⟩⟩⟩⟩
theorem lw_p80 : lw_okq (⟨"ForthHouse$Forth", "unwind", "(I)I"⟩, 18) := ⟨⟨by decide +kernel, by decide +kernel⟩, List.mem_of_getElem? (i := 191) (by decide +kernel), List.mem_of_getElem? (i := 1585) (by decide +kernel), List.mem_of_getElem? (i := 1586) (by decide +kernel)⟩
theorem lw_p81 : lw_okq (⟨"ForthHouse$Forth", "throwOut", "(I)V"⟩, 18) := ⟨⟨by decide +kernel, by decide +kernel⟩, List.mem_of_getElem? (i := 191) (by decide +kernel), List.mem_of_getElem? (i := 1597) (by decide +kernel), List.mem_of_getElem? (i := 1598) (by decide +kernel)⟩
theorem lw_p82 : lw_okq (⟨"ForthHouse", "taskOf", "(II)LForthHouse$Task;"⟩, 7) := ⟨⟨by decide +kernel, by decide +kernel⟩, List.mem_of_getElem? (i := 22) (by decide +kernel), List.mem_of_getElem? (i := 1634) (by decide +kernel), List.mem_of_getElem? (i := 1635) (by decide +kernel)⟩
theorem lw_p83 : lw_okq (⟨"ForthHouse$Judge", "leanOnce", "()I"⟩, 20) := ⟨⟨by decide +kernel, by decide +kernel⟩, List.mem_of_getElem? (i := 566) (by decide +kernel), List.mem_of_getElem? (i := 1714) (by decide +kernel), List.mem_of_getElem? (i := 1715) (by decide +kernel)⟩
theorem lw_p84 : lw_okq (⟨"ForthHouse$Judge", "markTargets", "()V"⟩, 20) := ⟨⟨by decide +kernel, by decide +kernel⟩, List.mem_of_getElem? (i := 566) (by decide +kernel), List.mem_of_getElem? (i := 1718) (by decide +kernel), List.mem_of_getElem? (i := 1719) (by decide +kernel)⟩
theorem lw_p85 : lw_okq (⟨"ForthHouse$Judge", "remove", "(II)I"⟩, 20) := ⟨⟨by decide +kernel, by decide +kernel⟩, List.mem_of_getElem? (i := 566) (by decide +kernel), List.mem_of_getElem? (i := 1726) (by decide +kernel), List.mem_of_getElem? (i := 1727) (by decide +kernel)⟩
theorem lw_p86 : lw_okq (⟨"ForthHouse$Judge", "goes", "(I)Z"⟩, 20) := ⟨⟨by decide +kernel, by decide +kernel⟩, List.mem_of_getElem? (i := 566) (by decide +kernel), List.mem_of_getElem? (i := 1730) (by decide +kernel), List.mem_of_getElem? (i := 1731) (by decide +kernel)⟩
theorem lw_p87 : lw_okq (⟨"ForthHouse$Judge", "reckoned", "(III)I"⟩, 20) := ⟨⟨by decide +kernel, by decide +kernel⟩, List.mem_of_getElem? (i := 566) (by decide +kernel), List.mem_of_getElem? (i := 1741) (by decide +kernel), List.mem_of_getElem? (i := 1742) (by decide +kernel)⟩
theorem lw_p88 : lw_okq (⟨"ForthHouse$Chip", "plan", "(LForthHouse$Forth;I)I"⟩, 11) := ⟨⟨by decide +kernel, by decide +kernel⟩, List.mem_of_getElem? (i := 32) (by decide +kernel), List.mem_of_getElem? (i := 1762) (by decide +kernel), List.mem_of_getElem? (i := 1763) (by decide +kernel)⟩
theorem lw_p89 : lw_okq (⟨"ForthHouse$Chip", "meet", "(I)V"⟩, 11) := ⟨⟨by decide +kernel, by decide +kernel⟩, List.mem_of_getElem? (i := 32) (by decide +kernel), List.mem_of_getElem? (i := 1769) (by decide +kernel), List.mem_of_getElem? (i := 1770) (by decide +kernel)⟩
theorem lw_p90 : lw_okq (⟨"ForthHouse$Chip", "width", "(LForthHouse$Forth;I)I"⟩, 11) := ⟨⟨by decide +kernel, by decide +kernel⟩, List.mem_of_getElem? (i := 32) (by decide +kernel), List.mem_of_getElem? (i := 1776) (by decide +kernel), List.mem_of_getElem? (i := 1777) (by decide +kernel)⟩
theorem lw_p91 : lw_okq (⟨"ForthHouse$Chip", "layDefinition", "(LForthHouse$Forth;I)V"⟩, 11) := ⟨⟨by decide +kernel, by decide +kernel⟩, List.mem_of_getElem? (i := 32) (by decide +kernel), List.mem_of_getElem? (i := 1784) (by decide +kernel), List.mem_of_getElem? (i := 1785) (by decide +kernel)⟩
theorem lw_p92 : lw_okq (⟨"ForthHouse$Chip", "layCell", "(I)V"⟩, 11) := ⟨⟨by decide +kernel, by decide +kernel⟩, List.mem_of_getElem? (i := 32) (by decide +kernel), List.mem_of_getElem? (i := 1788) (by decide +kernel), List.mem_of_getElem? (i := 1789) (by decide +kernel)⟩
theorem lw_p93 : lw_okq (⟨"ForthHouse$Chip", "lay", "(I)V"⟩, 11) := ⟨⟨by decide +kernel, by decide +kernel⟩, List.mem_of_getElem? (i := 32) (by decide +kernel), List.mem_of_getElem? (i := 1793) (by decide +kernel), List.mem_of_getElem? (i := 1794) (by decide +kernel)⟩
theorem lw_p94 : lw_okq (⟨"ForthHouse$Chip", "layWord", "(LForthHouse$Forth;I)V"⟩, 11) := ⟨⟨by decide +kernel, by decide +kernel⟩, List.mem_of_getElem? (i := 32) (by decide +kernel), List.mem_of_getElem? (i := 1797) (by decide +kernel), List.mem_of_getElem? (i := 1798) (by decide +kernel)⟩
theorem lw_p95 : lw_okq (⟨"ForthHouse$Chip", "step", "(I)I"⟩, 11) := ⟨⟨by decide +kernel, by decide +kernel⟩, List.mem_of_getElem? (i := 32) (by decide +kernel), List.mem_of_getElem? (i := 1837) (by decide +kernel), List.mem_of_getElem? (i := 1838) (by decide +kernel)⟩
def lw_privs_6 : List (MethodName × Nat) := [(⟨"ForthHouse$Forth", "unwind", "(I)I"⟩, 18), (⟨"ForthHouse$Forth", "throwOut", "(I)V"⟩, 18), (⟨"ForthHouse", "taskOf", "(II)LForthHouse$Task;"⟩, 7), (⟨"ForthHouse$Judge", "leanOnce", "()I"⟩, 20), (⟨"ForthHouse$Judge", "markTargets", "()V"⟩, 20), (⟨"ForthHouse$Judge", "remove", "(II)I"⟩, 20), (⟨"ForthHouse$Judge", "goes", "(I)Z"⟩, 20), (⟨"ForthHouse$Judge", "reckoned", "(III)I"⟩, 20), (⟨"ForthHouse$Chip", "plan", "(LForthHouse$Forth;I)I"⟩, 11), (⟨"ForthHouse$Chip", "meet", "(I)V"⟩, 11), (⟨"ForthHouse$Chip", "width", "(LForthHouse$Forth;I)I"⟩, 11), (⟨"ForthHouse$Chip", "layDefinition", "(LForthHouse$Forth;I)V"⟩, 11), (⟨"ForthHouse$Chip", "layCell", "(I)V"⟩, 11), (⟨"ForthHouse$Chip", "lay", "(I)V"⟩, 11), (⟨"ForthHouse$Chip", "layWord", "(LForthHouse$Forth;I)V"⟩, 11), (⟨"ForthHouse$Chip", "step", "(I)I"⟩, 11)]
theorem lw_r6 : ∀ q ∈ lw_privs_6, lw_okq q := List.forall_mem_cons.mpr ⟨lw_p80, List.forall_mem_cons.mpr ⟨lw_p81, List.forall_mem_cons.mpr ⟨lw_p82, List.forall_mem_cons.mpr ⟨lw_p83, List.forall_mem_cons.mpr ⟨lw_p84, List.forall_mem_cons.mpr ⟨lw_p85, List.forall_mem_cons.mpr ⟨lw_p86, List.forall_mem_cons.mpr ⟨lw_p87, List.forall_mem_cons.mpr ⟨lw_p88, List.forall_mem_cons.mpr ⟨lw_p89, List.forall_mem_cons.mpr ⟨lw_p90, List.forall_mem_cons.mpr ⟨lw_p91, List.forall_mem_cons.mpr ⟨lw_p92, List.forall_mem_cons.mpr ⟨lw_p93, List.forall_mem_cons.mpr ⟨lw_p94, List.forall_mem_cons.mpr ⟨lw_p95, fun _ h => absurd h List.not_mem_nil⟩⟩⟩⟩⟩⟩⟩⟩⟩⟩⟩⟩⟩⟩⟩⟩
theorem lw_p96 : lw_okq (⟨"ForthHouse$Chip", "end", "()I"⟩, 11) := ⟨⟨by decide +kernel, by decide +kernel⟩, List.mem_of_getElem? (i := 32) (by decide +kernel), List.mem_of_getElem? (i := 1849) (by decide +kernel), List.mem_of_getElem? (i := 1850) (by decide +kernel)⟩
theorem lw_p97 : lw_okq (⟨"ForthHouseModel", "systems", "()I"⟩, 35) := ⟨⟨by decide +kernel, by decide +kernel⟩, List.mem_of_getElem? (i := 1977) (by decide +kernel), List.mem_of_getElem? (i := 2105) (by decide +kernel), List.mem_of_getElem? (i := 2106) (by decide +kernel)⟩
theorem lw_p98 : lw_okq (⟨"ForthHouseModel", "newWord", "(IZ)I"⟩, 35) := ⟨⟨by decide +kernel, by decide +kernel⟩, List.mem_of_getElem? (i := 1977) (by decide +kernel), List.mem_of_getElem? (i := 2112) (by decide +kernel), List.mem_of_getElem? (i := 2113) (by decide +kernel)⟩
theorem lw_p99 : lw_okq (⟨"ForthHouseModel", "wordAt", "(I)I"⟩, 35) := ⟨⟨by decide +kernel, by decide +kernel⟩, List.mem_of_getElem? (i := 1977) (by decide +kernel), List.mem_of_getElem? (i := 2116) (by decide +kernel), List.mem_of_getElem? (i := 2117) (by decide +kernel)⟩
theorem lw_p100 : lw_okq (⟨"ForthHouseModel", "putCell", "(JI)V"⟩, 35) := ⟨⟨by decide +kernel, by decide +kernel⟩, List.mem_of_getElem? (i := 1977) (by decide +kernel), List.mem_of_getElem? (i := 2120) (by decide +kernel), List.mem_of_getElem? (i := 2121) (by decide +kernel)⟩
theorem lw_p101 : lw_okq (⟨"ForthHouseModel", "high", "()Z"⟩, 35) := ⟨⟨by decide +kernel, by decide +kernel⟩, List.mem_of_getElem? (i := 1977) (by decide +kernel), List.mem_of_getElem? (i := 2124) (by decide +kernel), List.mem_of_getElem? (i := 2125) (by decide +kernel)⟩
theorem lw_p102 : lw_okq (⟨"ForthHouseModel", "putByte", "(JI)V"⟩, 35) := ⟨⟨by decide +kernel, by decide +kernel⟩, List.mem_of_getElem? (i := 1977) (by decide +kernel), List.mem_of_getElem? (i := 2128) (by decide +kernel), List.mem_of_getElem? (i := 2129) (by decide +kernel)⟩
theorem lw_p103 : lw_okq (⟨"ForthHouseModel", "copyTape", "()V"⟩, 35) := ⟨⟨by decide +kernel, by decide +kernel⟩, List.mem_of_getElem? (i := 1977) (by decide +kernel), List.mem_of_getElem? (i := 2136) (by decide +kernel), List.mem_of_getElem? (i := 2137) (by decide +kernel)⟩
theorem lw_p104 : lw_okq (⟨"ForthHouseModel", "isSystem", "(I)Z"⟩, 35) := ⟨⟨by decide +kernel, by decide +kernel⟩, List.mem_of_getElem? (i := 1977) (by decide +kernel), List.mem_of_getElem? (i := 2140) (by decide +kernel), List.mem_of_getElem? (i := 2141) (by decide +kernel)⟩
theorem lw_p105 : lw_okq (⟨"ForthHouseModel", "look", "(I)V"⟩, 35) := ⟨⟨by decide +kernel, by decide +kernel⟩, List.mem_of_getElem? (i := 1977) (by decide +kernel), List.mem_of_getElem? (i := 2144) (by decide +kernel), List.mem_of_getElem? (i := 2145) (by decide +kernel)⟩
theorem lw_p106 : lw_okq (⟨"ForthHouseModel", "taskAt", "(I)I"⟩, 35) := ⟨⟨by decide +kernel, by decide +kernel⟩, List.mem_of_getElem? (i := 1977) (by decide +kernel), List.mem_of_getElem? (i := 2148) (by decide +kernel), List.mem_of_getElem? (i := 2149) (by decide +kernel)⟩
theorem lw_p107 : lw_okq (⟨"ForthHouseModel", "steps", "(II)I"⟩, 35) := ⟨⟨by decide +kernel, by decide +kernel⟩, List.mem_of_getElem? (i := 1977) (by decide +kernel), List.mem_of_getElem? (i := 2154) (by decide +kernel), List.mem_of_getElem? (i := 2155) (by decide +kernel)⟩
theorem lw_p108 : lw_okq (⟨"ForthHouseModel", "step", "()V"⟩, 35) := ⟨⟨by decide +kernel, by decide +kernel⟩, List.mem_of_getElem? (i := 1977) (by decide +kernel), List.mem_of_getElem? (i := 2158) (by decide +kernel), List.mem_of_getElem? (i := 2159) (by decide +kernel)⟩
theorem lw_p109 : lw_okq (⟨"ForthHouseModel", "takeBox", "()V"⟩, 35) := ⟨⟨by decide +kernel, by decide +kernel⟩, List.mem_of_getElem? (i := 1977) (by decide +kernel), List.mem_of_getElem? (i := 2162) (by decide +kernel), List.mem_of_getElem? (i := 2163) (by decide +kernel)⟩
theorem lw_p110 : lw_okq (⟨"ForthHouseModel", "may", "(II)Z"⟩, 35) := ⟨⟨by decide +kernel, by decide +kernel⟩, List.mem_of_getElem? (i := 1977) (by decide +kernel), List.mem_of_getElem? (i := 2166) (by decide +kernel), List.mem_of_getElem? (i := 2167) (by decide +kernel)⟩
theorem lw_p111 : lw_okq (⟨"ForthHouseModel", "depth", "()I"⟩, 35) := ⟨⟨by decide +kernel, by decide +kernel⟩, List.mem_of_getElem? (i := 1977) (by decide +kernel), List.mem_of_getElem? (i := 2170) (by decide +kernel), List.mem_of_getElem? (i := 2171) (by decide +kernel)⟩
def lw_privs_7 : List (MethodName × Nat) := [(⟨"ForthHouse$Chip", "end", "()I"⟩, 11), (⟨"ForthHouseModel", "systems", "()I"⟩, 35), (⟨"ForthHouseModel", "newWord", "(IZ)I"⟩, 35), (⟨"ForthHouseModel", "wordAt", "(I)I"⟩, 35), (⟨"ForthHouseModel", "putCell", "(JI)V"⟩, 35), (⟨"ForthHouseModel", "high", "()Z"⟩, 35), (⟨"ForthHouseModel", "putByte", "(JI)V"⟩, 35), (⟨"ForthHouseModel", "copyTape", "()V"⟩, 35), (⟨"ForthHouseModel", "isSystem", "(I)Z"⟩, 35), (⟨"ForthHouseModel", "look", "(I)V"⟩, 35), (⟨"ForthHouseModel", "taskAt", "(I)I"⟩, 35), (⟨"ForthHouseModel", "steps", "(II)I"⟩, 35), (⟨"ForthHouseModel", "step", "()V"⟩, 35), (⟨"ForthHouseModel", "takeBox", "()V"⟩, 35), (⟨"ForthHouseModel", "may", "(II)Z"⟩, 35), (⟨"ForthHouseModel", "depth", "()I"⟩, 35)]
theorem lw_r7 : ∀ q ∈ lw_privs_7, lw_okq q := List.forall_mem_cons.mpr ⟨lw_p96, List.forall_mem_cons.mpr ⟨lw_p97, List.forall_mem_cons.mpr ⟨lw_p98, List.forall_mem_cons.mpr ⟨lw_p99, List.forall_mem_cons.mpr ⟨lw_p100, List.forall_mem_cons.mpr ⟨lw_p101, List.forall_mem_cons.mpr ⟨lw_p102, List.forall_mem_cons.mpr ⟨lw_p103, List.forall_mem_cons.mpr ⟨lw_p104, List.forall_mem_cons.mpr ⟨lw_p105, List.forall_mem_cons.mpr ⟨lw_p106, List.forall_mem_cons.mpr ⟨lw_p107, List.forall_mem_cons.mpr ⟨lw_p108, List.forall_mem_cons.mpr ⟨lw_p109, List.forall_mem_cons.mpr ⟨lw_p110, List.forall_mem_cons.mpr ⟨lw_p111, fun _ h => absurd h List.not_mem_nil⟩⟩⟩⟩⟩⟩⟩⟩⟩⟩⟩⟩⟩⟩⟩⟩
theorem lw_p112 : lw_okq (⟨"ForthHouseModel", "push", "(J)V"⟩, 35) := ⟨⟨by decide +kernel, by decide +kernel⟩, List.mem_of_getElem? (i := 1977) (by decide +kernel), List.mem_of_getElem? (i := 2174) (by decide +kernel), List.mem_of_getElem? (i := 2175) (by decide +kernel)⟩
theorem lw_p113 : lw_okq (⟨"ForthHouseModel", "round", "(J)I"⟩, 35) := ⟨⟨by decide +kernel, by decide +kernel⟩, List.mem_of_getElem? (i := 1977) (by decide +kernel), List.mem_of_getElem? (i := 2178) (by decide +kernel), List.mem_of_getElem? (i := 2179) (by decide +kernel)⟩
theorem lw_p114 : lw_okq (⟨"ForthHouseModel", "bits", "()I"⟩, 35) := ⟨⟨by decide +kernel, by decide +kernel⟩, List.mem_of_getElem? (i := 1977) (by decide +kernel), List.mem_of_getElem? (i := 2182) (by decide +kernel), List.mem_of_getElem? (i := 2183) (by decide +kernel)⟩
theorem lw_p115 : lw_okq (⟨"ForthHouseModel", "isToken", "(J)Z"⟩, 35) := ⟨⟨by decide +kernel, by decide +kernel⟩, List.mem_of_getElem? (i := 1977) (by decide +kernel), List.mem_of_getElem? (i := 2186) (by decide +kernel), List.mem_of_getElem? (i := 2187) (by decide +kernel)⟩
theorem lw_p116 : lw_okq (⟨"ForthHouseModel", "does", "(IZ)V"⟩, 35) := ⟨⟨by decide +kernel, by decide +kernel⟩, List.mem_of_getElem? (i := 1977) (by decide +kernel), List.mem_of_getElem? (i := 2190) (by decide +kernel), List.mem_of_getElem? (i := 2191) (by decide +kernel)⟩
theorem lw_p117 : lw_okq (⟨"ForthHouseModel", "builtIn", "(I)V"⟩, 35) := ⟨⟨by decide +kernel, by decide +kernel⟩, List.mem_of_getElem? (i := 1977) (by decide +kernel), List.mem_of_getElem? (i := 2194) (by decide +kernel), List.mem_of_getElem? (i := 2195) (by decide +kernel)⟩
theorem lw_p118 : lw_okq (⟨"ForthHouseModel", "isCompiling", "(I)Z"⟩, 35) := ⟨⟨by decide +kernel, by decide +kernel⟩, List.mem_of_getElem? (i := 1977) (by decide +kernel), List.mem_of_getElem? (i := 2198) (by decide +kernel), List.mem_of_getElem? (i := 2199) (by decide +kernel)⟩
theorem lw_p119 : lw_okq (⟨"ForthHouseModel", "plain", "(I)V"⟩, 35) := ⟨⟨by decide +kernel, by decide +kernel⟩, List.mem_of_getElem? (i := 1977) (by decide +kernel), List.mem_of_getElem? (i := 2202) (by decide +kernel), List.mem_of_getElem? (i := 2203) (by decide +kernel)⟩
theorem lw_p120 : lw_okq (⟨"ForthHouseModel", "stack", "(I)V"⟩, 35) := ⟨⟨by decide +kernel, by decide +kernel⟩, List.mem_of_getElem? (i := 1977) (by decide +kernel), List.mem_of_getElem? (i := 2206) (by decide +kernel), List.mem_of_getElem? (i := 2207) (by decide +kernel)⟩
theorem lw_p121 : lw_okq (⟨"ForthHouseModel", "top", "(I)I"⟩, 35) := ⟨⟨by decide +kernel, by decide +kernel⟩, List.mem_of_getElem? (i := 1977) (by decide +kernel), List.mem_of_getElem? (i := 2210) (by decide +kernel), List.mem_of_getElem? (i := 2211) (by decide +kernel)⟩
theorem lw_p122 : lw_okq (⟨"ForthHouseModel", "pop", "()I"⟩, 35) := ⟨⟨by decide +kernel, by decide +kernel⟩, List.mem_of_getElem? (i := 1977) (by decide +kernel), List.mem_of_getElem? (i := 2214) (by decide +kernel), List.mem_of_getElem? (i := 2215) (by decide +kernel)⟩
theorem lw_p123 : lw_okq (⟨"ForthHouseModel", "roll", "(I)V"⟩, 35) := ⟨⟨by decide +kernel, by decide +kernel⟩, List.mem_of_getElem? (i := 1977) (by decide +kernel), List.mem_of_getElem? (i := 2218) (by decide +kernel), List.mem_of_getElem? (i := 2219) (by decide +kernel)⟩
theorem lw_p124 : lw_okq (⟨"ForthHouseModel", "wide", "(I)J"⟩, 35) := ⟨⟨by decide +kernel, by decide +kernel⟩, List.mem_of_getElem? (i := 1977) (by decide +kernel), List.mem_of_getElem? (i := 2222) (by decide +kernel), List.mem_of_getElem? (i := 2223) (by decide +kernel)⟩
theorem lw_p125 : lw_okq (⟨"ForthHouseModel", "mask", "()J"⟩, 35) := ⟨⟨by decide +kernel, by decide +kernel⟩, List.mem_of_getElem? (i := 1977) (by decide +kernel), List.mem_of_getElem? (i := 2226) (by decide +kernel), List.mem_of_getElem? (i := 2227) (by decide +kernel)⟩
theorem lw_p126 : lw_okq (⟨"ForthHouseModel", "returns", "(I)V"⟩, 35) := ⟨⟨by decide +kernel, by decide +kernel⟩, List.mem_of_getElem? (i := 1977) (by decide +kernel), List.mem_of_getElem? (i := 2230) (by decide +kernel), List.mem_of_getElem? (i := 2231) (by decide +kernel)⟩
theorem lw_p127 : lw_okq (⟨"ForthHouseModel", "pushReturn", "(I)V"⟩, 35) := ⟨⟨by decide +kernel, by decide +kernel⟩, List.mem_of_getElem? (i := 1977) (by decide +kernel), List.mem_of_getElem? (i := 2234) (by decide +kernel), List.mem_of_getElem? (i := 2235) (by decide +kernel)⟩
def lw_privs_8 : List (MethodName × Nat) := [(⟨"ForthHouseModel", "push", "(J)V"⟩, 35), (⟨"ForthHouseModel", "round", "(J)I"⟩, 35), (⟨"ForthHouseModel", "bits", "()I"⟩, 35), (⟨"ForthHouseModel", "isToken", "(J)Z"⟩, 35), (⟨"ForthHouseModel", "does", "(IZ)V"⟩, 35), (⟨"ForthHouseModel", "builtIn", "(I)V"⟩, 35), (⟨"ForthHouseModel", "isCompiling", "(I)Z"⟩, 35), (⟨"ForthHouseModel", "plain", "(I)V"⟩, 35), (⟨"ForthHouseModel", "stack", "(I)V"⟩, 35), (⟨"ForthHouseModel", "top", "(I)I"⟩, 35), (⟨"ForthHouseModel", "pop", "()I"⟩, 35), (⟨"ForthHouseModel", "roll", "(I)V"⟩, 35), (⟨"ForthHouseModel", "wide", "(I)J"⟩, 35), (⟨"ForthHouseModel", "mask", "()J"⟩, 35), (⟨"ForthHouseModel", "returns", "(I)V"⟩, 35), (⟨"ForthHouseModel", "pushReturn", "(I)V"⟩, 35)]
theorem lw_r8 : ∀ q ∈ lw_privs_8, lw_okq q := List.forall_mem_cons.mpr ⟨lw_p112, List.forall_mem_cons.mpr ⟨lw_p113, List.forall_mem_cons.mpr ⟨lw_p114, List.forall_mem_cons.mpr ⟨lw_p115, List.forall_mem_cons.mpr ⟨lw_p116, List.forall_mem_cons.mpr ⟨lw_p117, List.forall_mem_cons.mpr ⟨lw_p118, List.forall_mem_cons.mpr ⟨lw_p119, List.forall_mem_cons.mpr ⟨lw_p120, List.forall_mem_cons.mpr ⟨lw_p121, List.forall_mem_cons.mpr ⟨lw_p122, List.forall_mem_cons.mpr ⟨lw_p123, List.forall_mem_cons.mpr ⟨lw_p124, List.forall_mem_cons.mpr ⟨lw_p125, List.forall_mem_cons.mpr ⟨lw_p126, List.forall_mem_cons.mpr ⟨lw_p127, fun _ h => absurd h List.not_mem_nil⟩⟩⟩⟩⟩⟩⟩⟩⟩⟩⟩⟩⟩⟩⟩⟩
theorem lw_p128 : lw_okq (⟨"ForthHouseModel", "hasReturn", "(I)Z"⟩, 35) := ⟨⟨by decide +kernel, by decide +kernel⟩, List.mem_of_getElem? (i := 1977) (by decide +kernel), List.mem_of_getElem? (i := 2238) (by decide +kernel), List.mem_of_getElem? (i := 2239) (by decide +kernel)⟩
theorem lw_p129 : lw_okq (⟨"ForthHouseModel", "base", "(I)I"⟩, 35) := ⟨⟨by decide +kernel, by decide +kernel⟩, List.mem_of_getElem? (i := 1977) (by decide +kernel), List.mem_of_getElem? (i := 2242) (by decide +kernel), List.mem_of_getElem? (i := 2243) (by decide +kernel)⟩
theorem lw_p130 : lw_okq (⟨"ForthHouseModel", "frames", "()I"⟩, 35) := ⟨⟨by decide +kernel, by decide +kernel⟩, List.mem_of_getElem? (i := 1977) (by decide +kernel), List.mem_of_getElem? (i := 2246) (by decide +kernel), List.mem_of_getElem? (i := 2247) (by decide +kernel)⟩
theorem lw_p131 : lw_okq (⟨"ForthHouseModel", "frameAt", "(I)I"⟩, 35) := ⟨⟨by decide +kernel, by decide +kernel⟩, List.mem_of_getElem? (i := 1977) (by decide +kernel), List.mem_of_getElem? (i := 2250) (by decide +kernel), List.mem_of_getElem? (i := 2251) (by decide +kernel)⟩
theorem lw_p132 : lw_okq (⟨"ForthHouseModel", "popReturn", "()I"⟩, 35) := ⟨⟨by decide +kernel, by decide +kernel⟩, List.mem_of_getElem? (i := 1977) (by decide +kernel), List.mem_of_getElem? (i := 2254) (by decide +kernel), List.mem_of_getElem? (i := 2255) (by decide +kernel)⟩
theorem lw_p133 : lw_okq (⟨"ForthHouseModel", "reckon", "(I)V"⟩, 35) := ⟨⟨by decide +kernel, by decide +kernel⟩, List.mem_of_getElem? (i := 1977) (by decide +kernel), List.mem_of_getElem? (i := 2258) (by decide +kernel), List.mem_of_getElem? (i := 2259) (by decide +kernel)⟩
theorem lw_p134 : lw_okq (⟨"ForthHouseModel", "divided", "(I)V"⟩, 35) := ⟨⟨by decide +kernel, by decide +kernel⟩, List.mem_of_getElem? (i := 1977) (by decide +kernel), List.mem_of_getElem? (i := 2262) (by decide +kernel), List.mem_of_getElem? (i := 2263) (by decide +kernel)⟩
theorem lw_p135 : lw_okq (⟨"ForthHouseModel", "quotient", "(JJ)J"⟩, 35) := ⟨⟨by decide +kernel, by decide +kernel⟩, List.mem_of_getElem? (i := 1977) (by decide +kernel), List.mem_of_getElem? (i := 2266) (by decide +kernel), List.mem_of_getElem? (i := 2267) (by decide +kernel)⟩
theorem lw_p136 : lw_okq (⟨"ForthHouseModel", "unsignedDivided", "()V"⟩, 35) := ⟨⟨by decide +kernel, by decide +kernel⟩, List.mem_of_getElem? (i := 1977) (by decide +kernel), List.mem_of_getElem? (i := 2274) (by decide +kernel), List.mem_of_getElem? (i := 2275) (by decide +kernel)⟩
theorem lw_p137 : lw_okq (⟨"ForthHouseModel", "pushDouble", "(J)V"⟩, 35) := ⟨⟨by decide +kernel, by decide +kernel⟩, List.mem_of_getElem? (i := 1977) (by decide +kernel), List.mem_of_getElem? (i := 2278) (by decide +kernel), List.mem_of_getElem? (i := 2279) (by decide +kernel)⟩
theorem lw_p138 : lw_okq (⟨"ForthHouseModel", "signedDivided", "(Z)V"⟩, 35) := ⟨⟨by decide +kernel, by decide +kernel⟩, List.mem_of_getElem? (i := 1977) (by decide +kernel), List.mem_of_getElem? (i := 2282) (by decide +kernel), List.mem_of_getElem? (i := 2283) (by decide +kernel)⟩
theorem lw_p139 : lw_okq (⟨"ForthHouseModel", "popDouble", "()J"⟩, 35) := ⟨⟨by decide +kernel, by decide +kernel⟩, List.mem_of_getElem? (i := 1977) (by decide +kernel), List.mem_of_getElem? (i := 2286) (by decide +kernel), List.mem_of_getElem? (i := 2287) (by decide +kernel)⟩
theorem lw_p140 : lw_okq (⟨"ForthHouseModel", "compare", "(I)V"⟩, 35) := ⟨⟨by decide +kernel, by decide +kernel⟩, List.mem_of_getElem? (i := 1977) (by decide +kernel), List.mem_of_getElem? (i := 2291) (by decide +kernel), List.mem_of_getElem? (i := 2292) (by decide +kernel)⟩
theorem lw_p141 : lw_okq (⟨"ForthHouseModel", "flag", "(Z)V"⟩, 35) := ⟨⟨by decide +kernel, by decide +kernel⟩, List.mem_of_getElem? (i := 1977) (by decide +kernel), List.mem_of_getElem? (i := 2295) (by decide +kernel), List.mem_of_getElem? (i := 2296) (by decide +kernel)⟩
theorem lw_p142 : lw_okq (⟨"ForthHouseModel", "storing", "(I)V"⟩, 35) := ⟨⟨by decide +kernel, by decide +kernel⟩, List.mem_of_getElem? (i := 1977) (by decide +kernel), List.mem_of_getElem? (i := 2299) (by decide +kernel), List.mem_of_getElem? (i := 2300) (by decide +kernel)⟩
theorem lw_p143 : lw_okq (⟨"ForthHouseModel", "reach", "(IJ)Z"⟩, 35) := ⟨⟨by decide +kernel, by decide +kernel⟩, List.mem_of_getElem? (i := 1977) (by decide +kernel), List.mem_of_getElem? (i := 2303) (by decide +kernel), List.mem_of_getElem? (i := 2304) (by decide +kernel)⟩
def lw_privs_9 : List (MethodName × Nat) := [(⟨"ForthHouseModel", "hasReturn", "(I)Z"⟩, 35), (⟨"ForthHouseModel", "base", "(I)I"⟩, 35), (⟨"ForthHouseModel", "frames", "()I"⟩, 35), (⟨"ForthHouseModel", "frameAt", "(I)I"⟩, 35), (⟨"ForthHouseModel", "popReturn", "()I"⟩, 35), (⟨"ForthHouseModel", "reckon", "(I)V"⟩, 35), (⟨"ForthHouseModel", "divided", "(I)V"⟩, 35), (⟨"ForthHouseModel", "quotient", "(JJ)J"⟩, 35), (⟨"ForthHouseModel", "unsignedDivided", "()V"⟩, 35), (⟨"ForthHouseModel", "pushDouble", "(J)V"⟩, 35), (⟨"ForthHouseModel", "signedDivided", "(Z)V"⟩, 35), (⟨"ForthHouseModel", "popDouble", "()J"⟩, 35), (⟨"ForthHouseModel", "compare", "(I)V"⟩, 35), (⟨"ForthHouseModel", "flag", "(Z)V"⟩, 35), (⟨"ForthHouseModel", "storing", "(I)V"⟩, 35), (⟨"ForthHouseModel", "reach", "(IJ)Z"⟩, 35)]
theorem lw_r9 : ∀ q ∈ lw_privs_9, lw_okq q := List.forall_mem_cons.mpr ⟨lw_p128, List.forall_mem_cons.mpr ⟨lw_p129, List.forall_mem_cons.mpr ⟨lw_p130, List.forall_mem_cons.mpr ⟨lw_p131, List.forall_mem_cons.mpr ⟨lw_p132, List.forall_mem_cons.mpr ⟨lw_p133, List.forall_mem_cons.mpr ⟨lw_p134, List.forall_mem_cons.mpr ⟨lw_p135, List.forall_mem_cons.mpr ⟨lw_p136, List.forall_mem_cons.mpr ⟨lw_p137, List.forall_mem_cons.mpr ⟨lw_p138, List.forall_mem_cons.mpr ⟨lw_p139, List.forall_mem_cons.mpr ⟨lw_p140, List.forall_mem_cons.mpr ⟨lw_p141, List.forall_mem_cons.mpr ⟨lw_p142, List.forall_mem_cons.mpr ⟨lw_p143, fun _ h => absurd h List.not_mem_nil⟩⟩⟩⟩⟩⟩⟩⟩⟩⟩⟩⟩⟩⟩⟩⟩
theorem lw_p144 : lw_okq (⟨"ForthHouseModel", "lies", "(JJ)Z"⟩, 35) := ⟨⟨by decide +kernel, by decide +kernel⟩, List.mem_of_getElem? (i := 1977) (by decide +kernel), List.mem_of_getElem? (i := 2307) (by decide +kernel), List.mem_of_getElem? (i := 2308) (by decide +kernel)⟩
theorem lw_p145 : lw_okq (⟨"ForthHouseModel", "cellAt", "(J)I"⟩, 35) := ⟨⟨by decide +kernel, by decide +kernel⟩, List.mem_of_getElem? (i := 1977) (by decide +kernel), List.mem_of_getElem? (i := 2312) (by decide +kernel), List.mem_of_getElem? (i := 2313) (by decide +kernel)⟩
theorem lw_p146 : lw_okq (⟨"ForthHouseModel", "byteAt", "(J)I"⟩, 35) := ⟨⟨by decide +kernel, by decide +kernel⟩, List.mem_of_getElem? (i := 1977) (by decide +kernel), List.mem_of_getElem? (i := 2316) (by decide +kernel), List.mem_of_getElem? (i := 2317) (by decide +kernel)⟩
theorem lw_p147 : lw_okq (⟨"ForthHouseModel", "grow", "(J)V"⟩, 35) := ⟨⟨by decide +kernel, by decide +kernel⟩, List.mem_of_getElem? (i := 1977) (by decide +kernel), List.mem_of_getElem? (i := 2320) (by decide +kernel), List.mem_of_getElem? (i := 2321) (by decide +kernel)⟩
theorem lw_p148 : lw_okq (⟨"ForthHouseModel", "up", "(J)J"⟩, 35) := ⟨⟨by decide +kernel, by decide +kernel⟩, List.mem_of_getElem? (i := 1977) (by decide +kernel), List.mem_of_getElem? (i := 2325) (by decide +kernel), List.mem_of_getElem? (i := 2326) (by decide +kernel)⟩
theorem lw_p149 : lw_okq (⟨"ForthHouseModel", "rows", "(II)V"⟩, 35) := ⟨⟨by decide +kernel, by decide +kernel⟩, List.mem_of_getElem? (i := 1977) (by decide +kernel), List.mem_of_getElem? (i := 2329) (by decide +kernel), List.mem_of_getElem? (i := 2330) (by decide +kernel)⟩
theorem lw_p150 : lw_okq (⟨"ForthHouseModel", "printing", "(I)V"⟩, 35) := ⟨⟨by decide +kernel, by decide +kernel⟩, List.mem_of_getElem? (i := 1977) (by decide +kernel), List.mem_of_getElem? (i := 2333) (by decide +kernel), List.mem_of_getElem? (i := 2334) (by decide +kernel)⟩
theorem lw_p151 : lw_okq (⟨"ForthHouseModel", "print", "(J)V"⟩, 35) := ⟨⟨by decide +kernel, by decide +kernel⟩, List.mem_of_getElem? (i := 1977) (by decide +kernel), List.mem_of_getElem? (i := 2337) (by decide +kernel), List.mem_of_getElem? (i := 2338) (by decide +kernel)⟩
theorem lw_p152 : lw_okq (⟨"ForthHouseModel", "numberBase", "()I"⟩, 35) := ⟨⟨by decide +kernel, by decide +kernel⟩, List.mem_of_getElem? (i := 1977) (by decide +kernel), List.mem_of_getElem? (i := 2341) (by decide +kernel), List.mem_of_getElem? (i := 2342) (by decide +kernel)⟩
theorem lw_p153 : lw_okq (⟨"ForthHouseModel", "put", "(I)V"⟩, 35) := ⟨⟨by decide +kernel, by decide +kernel⟩, List.mem_of_getElem? (i := 1977) (by decide +kernel), List.mem_of_getElem? (i := 2345) (by decide +kernel), List.mem_of_getElem? (i := 2346) (by decide +kernel)⟩
theorem lw_p154 : lw_okq (⟨"ForthHouseModel", "spaces", "(I)V"⟩, 35) := ⟨⟨by decide +kernel, by decide +kernel⟩, List.mem_of_getElem? (i := 1977) (by decide +kernel), List.mem_of_getElem? (i := 2357) (by decide +kernel), List.mem_of_getElem? (i := 2358) (by decide +kernel)⟩
theorem lw_p155 : lw_okq (⟨"ForthHouseModel", "type", "(IJ)V"⟩, 35) := ⟨⟨by decide +kernel, by decide +kernel⟩, List.mem_of_getElem? (i := 1977) (by decide +kernel), List.mem_of_getElem? (i := 2361) (by decide +kernel), List.mem_of_getElem? (i := 2362) (by decide +kernel)⟩
theorem lw_p156 : lw_okq (⟨"ForthHouseModel", "digits", "(Z)V"⟩, 35) := ⟨⟨by decide +kernel, by decide +kernel⟩, List.mem_of_getElem? (i := 1977) (by decide +kernel), List.mem_of_getElem? (i := 2365) (by decide +kernel), List.mem_of_getElem? (i := 2366) (by decide +kernel)⟩
theorem lw_p157 : lw_okq (⟨"ForthHouseModel", "hold", "(I)V"⟩, 35) := ⟨⟨by decide +kernel, by decide +kernel⟩, List.mem_of_getElem? (i := 1977) (by decide +kernel), List.mem_of_getElem? (i := 2369) (by decide +kernel), List.mem_of_getElem? (i := 2370) (by decide +kernel)⟩
theorem lw_p158 : lw_okq (⟨"ForthHouseModel", "makes", "(I)V"⟩, 35) := ⟨⟨by decide +kernel, by decide +kernel⟩, List.mem_of_getElem? (i := 1977) (by decide +kernel), List.mem_of_getElem? (i := 2373) (by decide +kernel), List.mem_of_getElem? (i := 2374) (by decide +kernel)⟩
theorem lw_p159 : lw_okq (⟨"ForthHouseModel", "newName", "()Z"⟩, 35) := ⟨⟨by decide +kernel, by decide +kernel⟩, List.mem_of_getElem? (i := 1977) (by decide +kernel), List.mem_of_getElem? (i := 2377) (by decide +kernel), List.mem_of_getElem? (i := 2378) (by decide +kernel)⟩
def lw_privs_10 : List (MethodName × Nat) := [(⟨"ForthHouseModel", "lies", "(JJ)Z"⟩, 35), (⟨"ForthHouseModel", "cellAt", "(J)I"⟩, 35), (⟨"ForthHouseModel", "byteAt", "(J)I"⟩, 35), (⟨"ForthHouseModel", "grow", "(J)V"⟩, 35), (⟨"ForthHouseModel", "up", "(J)J"⟩, 35), (⟨"ForthHouseModel", "rows", "(II)V"⟩, 35), (⟨"ForthHouseModel", "printing", "(I)V"⟩, 35), (⟨"ForthHouseModel", "print", "(J)V"⟩, 35), (⟨"ForthHouseModel", "numberBase", "()I"⟩, 35), (⟨"ForthHouseModel", "put", "(I)V"⟩, 35), (⟨"ForthHouseModel", "spaces", "(I)V"⟩, 35), (⟨"ForthHouseModel", "type", "(IJ)V"⟩, 35), (⟨"ForthHouseModel", "digits", "(Z)V"⟩, 35), (⟨"ForthHouseModel", "hold", "(I)V"⟩, 35), (⟨"ForthHouseModel", "makes", "(I)V"⟩, 35), (⟨"ForthHouseModel", "newName", "()Z"⟩, 35)]
theorem lw_r10 : ∀ q ∈ lw_privs_10, lw_okq q := List.forall_mem_cons.mpr ⟨lw_p144, List.forall_mem_cons.mpr ⟨lw_p145, List.forall_mem_cons.mpr ⟨lw_p146, List.forall_mem_cons.mpr ⟨lw_p147, List.forall_mem_cons.mpr ⟨lw_p148, List.forall_mem_cons.mpr ⟨lw_p149, List.forall_mem_cons.mpr ⟨lw_p150, List.forall_mem_cons.mpr ⟨lw_p151, List.forall_mem_cons.mpr ⟨lw_p152, List.forall_mem_cons.mpr ⟨lw_p153, List.forall_mem_cons.mpr ⟨lw_p154, List.forall_mem_cons.mpr ⟨lw_p155, List.forall_mem_cons.mpr ⟨lw_p156, List.forall_mem_cons.mpr ⟨lw_p157, List.forall_mem_cons.mpr ⟨lw_p158, List.forall_mem_cons.mpr ⟨lw_p159, fun _ h => absurd h List.not_mem_nil⟩⟩⟩⟩⟩⟩⟩⟩⟩⟩⟩⟩⟩⟩⟩⟩
theorem lw_p160 : lw_okq (⟨"ForthHouseModel", "word", "()Z"⟩, 35) := ⟨⟨by decide +kernel, by decide +kernel⟩, List.mem_of_getElem? (i := 1977) (by decide +kernel), List.mem_of_getElem? (i := 2381) (by decide +kernel), List.mem_of_getElem? (i := 2382) (by decide +kernel)⟩
theorem lw_p161 : lw_okq (⟨"ForthHouseModel", "textFrame", "()I"⟩, 35) := ⟨⟨by decide +kernel, by decide +kernel⟩, List.mem_of_getElem? (i := 1977) (by decide +kernel), List.mem_of_getElem? (i := 2385) (by decide +kernel), List.mem_of_getElem? (i := 2386) (by decide +kernel)⟩
theorem lw_p162 : lw_okq (⟨"ForthHouseModel", "textSize", "(I)I"⟩, 35) := ⟨⟨by decide +kernel, by decide +kernel⟩, List.mem_of_getElem? (i := 1977) (by decide +kernel), List.mem_of_getElem? (i := 2389) (by decide +kernel), List.mem_of_getElem? (i := 2390) (by decide +kernel)⟩
theorem lw_p163 : lw_okq (⟨"ForthHouseModel", "in", "()J"⟩, 35) := ⟨⟨by decide +kernel, by decide +kernel⟩, List.mem_of_getElem? (i := 1977) (by decide +kernel), List.mem_of_getElem? (i := 2393) (by decide +kernel), List.mem_of_getElem? (i := 2394) (by decide +kernel)⟩
theorem lw_p164 : lw_okq (⟨"ForthHouseModel", "textByte", "(II)I"⟩, 35) := ⟨⟨by decide +kernel, by decide +kernel⟩, List.mem_of_getElem? (i := 1977) (by decide +kernel), List.mem_of_getElem? (i := 2397) (by decide +kernel), List.mem_of_getElem? (i := 2398) (by decide +kernel)⟩
theorem lw_p165 : lw_okq (⟨"ForthHouseModel", "marker", "()V"⟩, 35) := ⟨⟨by decide +kernel, by decide +kernel⟩, List.mem_of_getElem? (i := 1977) (by decide +kernel), List.mem_of_getElem? (i := 2404) (by decide +kernel), List.mem_of_getElem? (i := 2405) (by decide +kernel)⟩
theorem lw_p166 : lw_okq (⟨"ForthHouseModel", "freeMark", "()I"⟩, 35) := ⟨⟨by decide +kernel, by decide +kernel⟩, List.mem_of_getElem? (i := 1977) (by decide +kernel), List.mem_of_getElem? (i := 2408) (by decide +kernel), List.mem_of_getElem? (i := 2409) (by decide +kernel)⟩
theorem lw_p167 : lw_okq (⟨"ForthHouseModel", "asks", "(I)V"⟩, 35) := ⟨⟨by decide +kernel, by decide +kernel⟩, List.mem_of_getElem? (i := 1977) (by decide +kernel), List.mem_of_getElem? (i := 2413) (by decide +kernel), List.mem_of_getElem? (i := 2414) (by decide +kernel)⟩
theorem lw_p168 : lw_okq (⟨"ForthHouseModel", "nest", "(III)V"⟩, 35) := ⟨⟨by decide +kernel, by decide +kernel⟩, List.mem_of_getElem? (i := 1977) (by decide +kernel), List.mem_of_getElem? (i := 2417) (by decide +kernel), List.mem_of_getElem? (i := 2418) (by decide +kernel)⟩
theorem lw_p169 : lw_okq (⟨"ForthHouseModel", "nested", "()I"⟩, 35) := ⟨⟨by decide +kernel, by decide +kernel⟩, List.mem_of_getElem? (i := 1977) (by decide +kernel), List.mem_of_getElem? (i := 2421) (by decide +kernel), List.mem_of_getElem? (i := 2422) (by decide +kernel)⟩
theorem lw_p170 : lw_okq (⟨"ForthHouseModel", "newFrame", "(I)I"⟩, 35) := ⟨⟨by decide +kernel, by decide +kernel⟩, List.mem_of_getElem? (i := 1977) (by decide +kernel), List.mem_of_getElem? (i := 2425) (by decide +kernel), List.mem_of_getElem? (i := 2426) (by decide +kernel)⟩
theorem lw_p171 : lw_okq (⟨"ForthHouseModel", "compiles", "(I)V"⟩, 35) := ⟨⟨by decide +kernel, by decide +kernel⟩, List.mem_of_getElem? (i := 1977) (by decide +kernel), List.mem_of_getElem? (i := 2429) (by decide +kernel), List.mem_of_getElem? (i := 2430) (by decide +kernel)⟩
theorem lw_p172 : lw_okq (⟨"ForthHouseModel", "beginDef", "(ZZ)V"⟩, 35) := ⟨⟨by decide +kernel, by decide +kernel⟩, List.mem_of_getElem? (i := 1977) (by decide +kernel), List.mem_of_getElem? (i := 2433) (by decide +kernel), List.mem_of_getElem? (i := 2434) (by decide +kernel)⟩
theorem lw_p173 : lw_okq (⟨"ForthHouseModel", "items", "(I)Z"⟩, 35) := ⟨⟨by decide +kernel, by decide +kernel⟩, List.mem_of_getElem? (i := 1977) (by decide +kernel), List.mem_of_getElem? (i := 2437) (by decide +kernel), List.mem_of_getElem? (i := 2438) (by decide +kernel)⟩
theorem lw_p174 : lw_okq (⟨"ForthHouseModel", "item", "(II)V"⟩, 35) := ⟨⟨by decide +kernel, by decide +kernel⟩, List.mem_of_getElem? (i := 1977) (by decide +kernel), List.mem_of_getElem? (i := 2441) (by decide +kernel), List.mem_of_getElem? (i := 2442) (by decide +kernel)⟩
theorem lw_p175 : lw_okq (⟨"ForthHouseModel", "itemAt", "(I)I"⟩, 35) := ⟨⟨by decide +kernel, by decide +kernel⟩, List.mem_of_getElem? (i := 1977) (by decide +kernel), List.mem_of_getElem? (i := 2445) (by decide +kernel), List.mem_of_getElem? (i := 2446) (by decide +kernel)⟩
def lw_privs_11 : List (MethodName × Nat) := [(⟨"ForthHouseModel", "word", "()Z"⟩, 35), (⟨"ForthHouseModel", "textFrame", "()I"⟩, 35), (⟨"ForthHouseModel", "textSize", "(I)I"⟩, 35), (⟨"ForthHouseModel", "in", "()J"⟩, 35), (⟨"ForthHouseModel", "textByte", "(II)I"⟩, 35), (⟨"ForthHouseModel", "marker", "()V"⟩, 35), (⟨"ForthHouseModel", "freeMark", "()I"⟩, 35), (⟨"ForthHouseModel", "asks", "(I)V"⟩, 35), (⟨"ForthHouseModel", "nest", "(III)V"⟩, 35), (⟨"ForthHouseModel", "nested", "()I"⟩, 35), (⟨"ForthHouseModel", "newFrame", "(I)I"⟩, 35), (⟨"ForthHouseModel", "compiles", "(I)V"⟩, 35), (⟨"ForthHouseModel", "beginDef", "(ZZ)V"⟩, 35), (⟨"ForthHouseModel", "items", "(I)Z"⟩, 35), (⟨"ForthHouseModel", "item", "(II)V"⟩, 35), (⟨"ForthHouseModel", "itemAt", "(I)I"⟩, 35)]
theorem lw_r11 : ∀ q ∈ lw_privs_11, lw_okq q := List.forall_mem_cons.mpr ⟨lw_p160, List.forall_mem_cons.mpr ⟨lw_p161, List.forall_mem_cons.mpr ⟨lw_p162, List.forall_mem_cons.mpr ⟨lw_p163, List.forall_mem_cons.mpr ⟨lw_p164, List.forall_mem_cons.mpr ⟨lw_p165, List.forall_mem_cons.mpr ⟨lw_p166, List.forall_mem_cons.mpr ⟨lw_p167, List.forall_mem_cons.mpr ⟨lw_p168, List.forall_mem_cons.mpr ⟨lw_p169, List.forall_mem_cons.mpr ⟨lw_p170, List.forall_mem_cons.mpr ⟨lw_p171, List.forall_mem_cons.mpr ⟨lw_p172, List.forall_mem_cons.mpr ⟨lw_p173, List.forall_mem_cons.mpr ⟨lw_p174, List.forall_mem_cons.mpr ⟨lw_p175, fun _ h => absurd h List.not_mem_nil⟩⟩⟩⟩⟩⟩⟩⟩⟩⟩⟩⟩⟩⟩⟩⟩
theorem lw_p176 : lw_okq (⟨"ForthHouseModel", "here", "()I"⟩, 35) := ⟨⟨by decide +kernel, by decide +kernel⟩, List.mem_of_getElem? (i := 1977) (by decide +kernel), List.mem_of_getElem? (i := 2449) (by decide +kernel), List.mem_of_getElem? (i := 2450) (by decide +kernel)⟩
theorem lw_p177 : lw_okq (⟨"ForthHouseModel", "def", "()I"⟩, 35) := ⟨⟨by decide +kernel, by decide +kernel⟩, List.mem_of_getElem? (i := 1977) (by decide +kernel), List.mem_of_getElem? (i := 2453) (by decide +kernel), List.mem_of_getElem? (i := 2454) (by decide +kernel)⟩
theorem lw_p178 : lw_okq (⟨"ForthHouseModel", "ends", "(Z)V"⟩, 35) := ⟨⟨by decide +kernel, by decide +kernel⟩, List.mem_of_getElem? (i := 1977) (by decide +kernel), List.mem_of_getElem? (i := 2458) (by decide +kernel), List.mem_of_getElem? (i := 2459) (by decide +kernel)⟩
theorem lw_p179 : lw_okq (⟨"ForthHouseModel", "endDef", "()Z"⟩, 35) := ⟨⟨by decide +kernel, by decide +kernel⟩, List.mem_of_getElem? (i := 1977) (by decide +kernel), List.mem_of_getElem? (i := 2462) (by decide +kernel), List.mem_of_getElem? (i := 2463) (by decide +kernel)⟩
theorem lw_p180 : lw_okq (⟨"ForthHouseModel", "effectOf", "(I)V"⟩, 35) := ⟨⟨by decide +kernel, by decide +kernel⟩, List.mem_of_getElem? (i := 1977) (by decide +kernel), List.mem_of_getElem? (i := 2466) (by decide +kernel), List.mem_of_getElem? (i := 2467) (by decide +kernel)⟩
theorem lw_p181 : lw_okq (⟨"ForthHouseModel", "goThrough", "(IZII)V"⟩, 35) := ⟨⟨by decide +kernel, by decide +kernel⟩, List.mem_of_getElem? (i := 1977) (by decide +kernel), List.mem_of_getElem? (i := 2470) (by decide +kernel), List.mem_of_getElem? (i := 2471) (by decide +kernel)⟩
theorem lw_p182 : lw_okq (⟨"ForthHouseModel", "visit", "(IIZII)V"⟩, 35) := ⟨⟨by decide +kernel, by decide +kernel⟩, List.mem_of_getElem? (i := 1977) (by decide +kernel), List.mem_of_getElem? (i := 2474) (by decide +kernel), List.mem_of_getElem? (i := 2475) (by decide +kernel)⟩
theorem lw_p183 : lw_okq (⟨"ForthHouseModel", "visitWord", "(IIIZIIIII)V"⟩, 35) := ⟨⟨by decide +kernel, by decide +kernel⟩, List.mem_of_getElem? (i := 1977) (by decide +kernel), List.mem_of_getElem? (i := 2478) (by decide +kernel), List.mem_of_getElem? (i := 2479) (by decide +kernel)⟩
theorem lw_p184 : lw_okq (⟨"ForthHouseModel", "visitBuiltIn", "(IIIII)V"⟩, 35) := ⟨⟨by decide +kernel, by decide +kernel⟩, List.mem_of_getElem? (i := 1977) (by decide +kernel), List.mem_of_getElem? (i := 2482) (by decide +kernel), List.mem_of_getElem? (i := 2483) (by decide +kernel)⟩
theorem lw_p185 : lw_okq (⟨"ForthHouseModel", "ending", "(IIII)V"⟩, 35) := ⟨⟨by decide +kernel, by decide +kernel⟩, List.mem_of_getElem? (i := 1977) (by decide +kernel), List.mem_of_getElem? (i := 2486) (by decide +kernel), List.mem_of_getElem? (i := 2487) (by decide +kernel)⟩
theorem lw_p186 : lw_okq (⟨"ForthHouseModel", "conflict", "(II)V"⟩, 35) := ⟨⟨by decide +kernel, by decide +kernel⟩, List.mem_of_getElem? (i := 1977) (by decide +kernel), List.mem_of_getElem? (i := 2490) (by decide +kernel), List.mem_of_getElem? (i := 2491) (by decide +kernel)⟩
theorem lw_p187 : lw_okq (⟨"ForthHouseModel", "taking", "(III)I"⟩, 35) := ⟨⟨by decide +kernel, by decide +kernel⟩, List.mem_of_getElem? (i := 1977) (by decide +kernel), List.mem_of_getElem? (i := 2494) (by decide +kernel), List.mem_of_getElem? (i := 2495) (by decide +kernel)⟩
theorem lw_p188 : lw_okq (⟨"ForthHouseModel", "come", "(IIIII)V"⟩, 35) := ⟨⟨by decide +kernel, by decide +kernel⟩, List.mem_of_getElem? (i := 1977) (by decide +kernel), List.mem_of_getElem? (i := 2498) (by decide +kernel), List.mem_of_getElem? (i := 2499) (by decide +kernel)⟩
theorem lw_p189 : lw_okq (⟨"ForthHouseModel", "comeToo", "(IIIII)V"⟩, 35) := ⟨⟨by decide +kernel, by decide +kernel⟩, List.mem_of_getElem? (i := 1977) (by decide +kernel), List.mem_of_getElem? (i := 2502) (by decide +kernel), List.mem_of_getElem? (i := 2503) (by decide +kernel)⟩
theorem lw_p190 : lw_okq (⟨"ForthHouseModel", "lead", "(II)V"⟩, 35) := ⟨⟨by decide +kernel, by decide +kernel⟩, List.mem_of_getElem? (i := 1977) (by decide +kernel), List.mem_of_getElem? (i := 2506) (by decide +kernel), List.mem_of_getElem? (i := 2507) (by decide +kernel)⟩
theorem lw_p191 : lw_okq (⟨"ForthHouseModel", "literal", "(I)V"⟩, 35) := ⟨⟨by decide +kernel, by decide +kernel⟩, List.mem_of_getElem? (i := 1977) (by decide +kernel), List.mem_of_getElem? (i := 2510) (by decide +kernel), List.mem_of_getElem? (i := 2511) (by decide +kernel)⟩
def lw_privs_12 : List (MethodName × Nat) := [(⟨"ForthHouseModel", "here", "()I"⟩, 35), (⟨"ForthHouseModel", "def", "()I"⟩, 35), (⟨"ForthHouseModel", "ends", "(Z)V"⟩, 35), (⟨"ForthHouseModel", "endDef", "()Z"⟩, 35), (⟨"ForthHouseModel", "effectOf", "(I)V"⟩, 35), (⟨"ForthHouseModel", "goThrough", "(IZII)V"⟩, 35), (⟨"ForthHouseModel", "visit", "(IIZII)V"⟩, 35), (⟨"ForthHouseModel", "visitWord", "(IIIZIIIII)V"⟩, 35), (⟨"ForthHouseModel", "visitBuiltIn", "(IIIII)V"⟩, 35), (⟨"ForthHouseModel", "ending", "(IIII)V"⟩, 35), (⟨"ForthHouseModel", "conflict", "(II)V"⟩, 35), (⟨"ForthHouseModel", "taking", "(III)I"⟩, 35), (⟨"ForthHouseModel", "come", "(IIIII)V"⟩, 35), (⟨"ForthHouseModel", "comeToo", "(IIIII)V"⟩, 35), (⟨"ForthHouseModel", "lead", "(II)V"⟩, 35), (⟨"ForthHouseModel", "literal", "(I)V"⟩, 35)]
theorem lw_r12 : ∀ q ∈ lw_privs_12, lw_okq q := List.forall_mem_cons.mpr ⟨lw_p176, List.forall_mem_cons.mpr ⟨lw_p177, List.forall_mem_cons.mpr ⟨lw_p178, List.forall_mem_cons.mpr ⟨lw_p179, List.forall_mem_cons.mpr ⟨lw_p180, List.forall_mem_cons.mpr ⟨lw_p181, List.forall_mem_cons.mpr ⟨lw_p182, List.forall_mem_cons.mpr ⟨lw_p183, List.forall_mem_cons.mpr ⟨lw_p184, List.forall_mem_cons.mpr ⟨lw_p185, List.forall_mem_cons.mpr ⟨lw_p186, List.forall_mem_cons.mpr ⟨lw_p187, List.forall_mem_cons.mpr ⟨lw_p188, List.forall_mem_cons.mpr ⟨lw_p189, List.forall_mem_cons.mpr ⟨lw_p190, List.forall_mem_cons.mpr ⟨lw_p191, fun _ h => absurd h List.not_mem_nil⟩⟩⟩⟩⟩⟩⟩⟩⟩⟩⟩⟩⟩⟩⟩⟩
theorem lw_p192 : lw_okq (⟨"ForthHouseModel", "named", "()I"⟩, 35) := ⟨⟨by decide +kernel, by decide +kernel⟩, List.mem_of_getElem? (i := 1977) (by decide +kernel), List.mem_of_getElem? (i := 2514) (by decide +kernel), List.mem_of_getElem? (i := 2515) (by decide +kernel)⟩
theorem lw_p193 : lw_okq (⟨"ForthHouseModel", "search", "()I"⟩, 35) := ⟨⟨by decide +kernel, by decide +kernel⟩, List.mem_of_getElem? (i := 1977) (by decide +kernel), List.mem_of_getElem? (i := 2518) (by decide +kernel), List.mem_of_getElem? (i := 2519) (by decide +kernel)⟩
theorem lw_p194 : lw_okq (⟨"ForthHouseModel", "isName", "(II)Z"⟩, 35) := ⟨⟨by decide +kernel, by decide +kernel⟩, List.mem_of_getElem? (i := 1977) (by decide +kernel), List.mem_of_getElem? (i := 2522) (by decide +kernel), List.mem_of_getElem? (i := 2523) (by decide +kernel)⟩
theorem lw_p195 : lw_okq (⟨"ForthHouseModel", "lower", "(I)I"⟩, 35) := ⟨⟨by decide +kernel, by decide +kernel⟩, List.mem_of_getElem? (i := 1977) (by decide +kernel), List.mem_of_getElem? (i := 2526) (by decide +kernel), List.mem_of_getElem? (i := 2527) (by decide +kernel)⟩
theorem lw_p196 : lw_okq (⟨"ForthHouseModel", "postpone", "()V"⟩, 35) := ⟨⟨by decide +kernel, by decide +kernel⟩, List.mem_of_getElem? (i := 1977) (by decide +kernel), List.mem_of_getElem? (i := 2530) (by decide +kernel), List.mem_of_getElem? (i := 2531) (by decide +kernel)⟩
theorem lw_p197 : lw_okq (⟨"ForthHouseModel", "assign", "(Z)V"⟩, 35) := ⟨⟨by decide +kernel, by decide +kernel⟩, List.mem_of_getElem? (i := 1977) (by decide +kernel), List.mem_of_getElem? (i := 2534) (by decide +kernel), List.mem_of_getElem? (i := 2535) (by decide +kernel)⟩
theorem lw_p198 : lw_okq (⟨"ForthHouseModel", "local", "()I"⟩, 35) := ⟨⟨by decide +kernel, by decide +kernel⟩, List.mem_of_getElem? (i := 1977) (by decide +kernel), List.mem_of_getElem? (i := 2538) (by decide +kernel), List.mem_of_getElem? (i := 2539) (by decide +kernel)⟩
theorem lw_p199 : lw_okq (⟨"ForthHouseModel", "putValue", "(II)V"⟩, 35) := ⟨⟨by decide +kernel, by decide +kernel⟩, List.mem_of_getElem? (i := 1977) (by decide +kernel), List.mem_of_getElem? (i := 2542) (by decide +kernel), List.mem_of_getElem? (i := 2543) (by decide +kernel)⟩
theorem lw_p200 : lw_okq (⟨"ForthHouseModel", "string", "(I)V"⟩, 35) := ⟨⟨by decide +kernel, by decide +kernel⟩, List.mem_of_getElem? (i := 1977) (by decide +kernel), List.mem_of_getElem? (i := 2546) (by decide +kernel), List.mem_of_getElem? (i := 2547) (by decide +kernel)⟩
theorem lw_p201 : lw_okq (⟨"ForthHouseModel", "upTo", "(I)V"⟩, 35) := ⟨⟨by decide +kernel, by decide +kernel⟩, List.mem_of_getElem? (i := 1977) (by decide +kernel), List.mem_of_getElem? (i := 2550) (by decide +kernel), List.mem_of_getElem? (i := 2551) (by decide +kernel)⟩
theorem lw_p202 : lw_okq (⟨"ForthHouseModel", "layString", "()I"⟩, 35) := ⟨⟨by decide +kernel, by decide +kernel⟩, List.mem_of_getElem? (i := 1977) (by decide +kernel), List.mem_of_getElem? (i := 2554) (by decide +kernel), List.mem_of_getElem? (i := 2555) (by decide +kernel)⟩
theorem lw_p203 : lw_okq (⟨"ForthHouseModel", "comment", "()V"⟩, 35) := ⟨⟨by decide +kernel, by decide +kernel⟩, List.mem_of_getElem? (i := 1977) (by decide +kernel), List.mem_of_getElem? (i := 2559) (by decide +kernel), List.mem_of_getElem? (i := 2560) (by decide +kernel)⟩
theorem lw_p204 : lw_okq (⟨"ForthHouseModel", "locals", "()V"⟩, 35) := ⟨⟨by decide +kernel, by decide +kernel⟩, List.mem_of_getElem? (i := 1977) (by decide +kernel), List.mem_of_getElem? (i := 2564) (by decide +kernel), List.mem_of_getElem? (i := 2565) (by decide +kernel)⟩
theorem lw_p205 : lw_okq (⟨"ForthHouseModel", "is", "(Ljava/lang/String;)Z"⟩, 35) := ⟨⟨by decide +kernel, by decide +kernel⟩, List.mem_of_getElem? (i := 1977) (by decide +kernel), List.mem_of_getElem? (i := 2569) (by decide +kernel), List.mem_of_getElem? (i := 2570) (by decide +kernel)⟩
theorem lw_p206 : lw_okq (⟨"ForthHouseModel", "loops", "(I)V"⟩, 35) := ⟨⟨by decide +kernel, by decide +kernel⟩, List.mem_of_getElem? (i := 1977) (by decide +kernel), List.mem_of_getElem? (i := 2576) (by decide +kernel), List.mem_of_getElem? (i := 2577) (by decide +kernel)⟩
theorem lw_p207 : lw_okq (⟨"ForthHouseModel", "exit", "()V"⟩, 35) := ⟨⟨by decide +kernel, by decide +kernel⟩, List.mem_of_getElem? (i := 1977) (by decide +kernel), List.mem_of_getElem? (i := 2580) (by decide +kernel), List.mem_of_getElem? (i := 2581) (by decide +kernel)⟩
def lw_privs_13 : List (MethodName × Nat) := [(⟨"ForthHouseModel", "named", "()I"⟩, 35), (⟨"ForthHouseModel", "search", "()I"⟩, 35), (⟨"ForthHouseModel", "isName", "(II)Z"⟩, 35), (⟨"ForthHouseModel", "lower", "(I)I"⟩, 35), (⟨"ForthHouseModel", "postpone", "()V"⟩, 35), (⟨"ForthHouseModel", "assign", "(Z)V"⟩, 35), (⟨"ForthHouseModel", "local", "()I"⟩, 35), (⟨"ForthHouseModel", "putValue", "(II)V"⟩, 35), (⟨"ForthHouseModel", "string", "(I)V"⟩, 35), (⟨"ForthHouseModel", "upTo", "(I)V"⟩, 35), (⟨"ForthHouseModel", "layString", "()I"⟩, 35), (⟨"ForthHouseModel", "comment", "()V"⟩, 35), (⟨"ForthHouseModel", "locals", "()V"⟩, 35), (⟨"ForthHouseModel", "is", "(Ljava/lang/String;)Z"⟩, 35), (⟨"ForthHouseModel", "loops", "(I)V"⟩, 35), (⟨"ForthHouseModel", "exit", "()V"⟩, 35)]
theorem lw_r13 : ∀ q ∈ lw_privs_13, lw_okq q := List.forall_mem_cons.mpr ⟨lw_p192, List.forall_mem_cons.mpr ⟨lw_p193, List.forall_mem_cons.mpr ⟨lw_p194, List.forall_mem_cons.mpr ⟨lw_p195, List.forall_mem_cons.mpr ⟨lw_p196, List.forall_mem_cons.mpr ⟨lw_p197, List.forall_mem_cons.mpr ⟨lw_p198, List.forall_mem_cons.mpr ⟨lw_p199, List.forall_mem_cons.mpr ⟨lw_p200, List.forall_mem_cons.mpr ⟨lw_p201, List.forall_mem_cons.mpr ⟨lw_p202, List.forall_mem_cons.mpr ⟨lw_p203, List.forall_mem_cons.mpr ⟨lw_p204, List.forall_mem_cons.mpr ⟨lw_p205, List.forall_mem_cons.mpr ⟨lw_p206, List.forall_mem_cons.mpr ⟨lw_p207, fun _ h => absurd h List.not_mem_nil⟩⟩⟩⟩⟩⟩⟩⟩⟩⟩⟩⟩⟩⟩⟩⟩
theorem lw_p208 : lw_okq (⟨"ForthHouseModel", "open", "()I"⟩, 35) := ⟨⟨by decide +kernel, by decide +kernel⟩, List.mem_of_getElem? (i := 1977) (by decide +kernel), List.mem_of_getElem? (i := 2584) (by decide +kernel), List.mem_of_getElem? (i := 2585) (by decide +kernel)⟩
theorem lw_p209 : lw_okq (⟨"ForthHouseModel", "loopAt", "(I)I"⟩, 35) := ⟨⟨by decide +kernel, by decide +kernel⟩, List.mem_of_getElem? (i := 1977) (by decide +kernel), List.mem_of_getElem? (i := 2588) (by decide +kernel), List.mem_of_getElem? (i := 2589) (by decide +kernel)⟩
theorem lw_p210 : lw_okq (⟨"ForthHouseModel", "control", "(I)V"⟩, 35) := ⟨⟨by decide +kernel, by decide +kernel⟩, List.mem_of_getElem? (i := 1977) (by decide +kernel), List.mem_of_getElem? (i := 2592) (by decide +kernel), List.mem_of_getElem? (i := 2593) (by decide +kernel)⟩
theorem lw_p211 : lw_okq (⟨"ForthHouseModel", "origin", "(I)V"⟩, 35) := ⟨⟨by decide +kernel, by decide +kernel⟩, List.mem_of_getElem? (i := 1977) (by decide +kernel), List.mem_of_getElem? (i := 2596) (by decide +kernel), List.mem_of_getElem? (i := 2597) (by decide +kernel)⟩
theorem lw_p212 : lw_okq (⟨"ForthHouseModel", "pair", "(III)V"⟩, 35) := ⟨⟨by decide +kernel, by decide +kernel⟩, List.mem_of_getElem? (i := 1977) (by decide +kernel), List.mem_of_getElem? (i := 2600) (by decide +kernel), List.mem_of_getElem? (i := 2601) (by decide +kernel)⟩
theorem lw_p213 : lw_okq (⟨"ForthHouseModel", "then", "()V"⟩, 35) := ⟨⟨by decide +kernel, by decide +kernel⟩, List.mem_of_getElem? (i := 1977) (by decide +kernel), List.mem_of_getElem? (i := 2605) (by decide +kernel), List.mem_of_getElem? (i := 2606) (by decide +kernel)⟩
theorem lw_p214 : lw_okq (⟨"ForthHouseModel", "topPair", "(II)I"⟩, 35) := ⟨⟨by decide +kernel, by decide +kernel⟩, List.mem_of_getElem? (i := 1977) (by decide +kernel), List.mem_of_getElem? (i := 2609) (by decide +kernel), List.mem_of_getElem? (i := 2610) (by decide +kernel)⟩
theorem lw_p215 : lw_okq (⟨"ForthHouseModel", "drops", "()V"⟩, 35) := ⟨⟨by decide +kernel, by decide +kernel⟩, List.mem_of_getElem? (i := 1977) (by decide +kernel), List.mem_of_getElem? (i := 2613) (by decide +kernel), List.mem_of_getElem? (i := 2614) (by decide +kernel)⟩
theorem lw_p216 : lw_okq (⟨"ForthHouseModel", "back", "(I)V"⟩, 35) := ⟨⟨by decide +kernel, by decide +kernel⟩, List.mem_of_getElem? (i := 1977) (by decide +kernel), List.mem_of_getElem? (i := 2617) (by decide +kernel), List.mem_of_getElem? (i := 2618) (by decide +kernel)⟩
theorem lw_p217 : lw_okq (⟨"ForthHouseModel", "hasPair", "(I)Z"⟩, 35) := ⟨⟨by decide +kernel, by decide +kernel⟩, List.mem_of_getElem? (i := 1977) (by decide +kernel), List.mem_of_getElem? (i := 2621) (by decide +kernel), List.mem_of_getElem? (i := 2622) (by decide +kernel)⟩
theorem lw_p218 : lw_okq (⟨"ForthHouseModel", "swapPairs", "()V"⟩, 35) := ⟨⟨by decide +kernel, by decide +kernel⟩, List.mem_of_getElem? (i := 1977) (by decide +kernel), List.mem_of_getElem? (i := 2625) (by decide +kernel), List.mem_of_getElem? (i := 2626) (by decide +kernel)⟩
theorem lw_p219 : lw_okq (⟨"ForthHouseModel", "loopEnds", "(I)V"⟩, 35) := ⟨⟨by decide +kernel, by decide +kernel⟩, List.mem_of_getElem? (i := 1977) (by decide +kernel), List.mem_of_getElem? (i := 2629) (by decide +kernel), List.mem_of_getElem? (i := 2630) (by decide +kernel)⟩
theorem lw_p220 : lw_okq (⟨"ForthHouseModel", "settle", "(III)V"⟩, 35) := ⟨⟨by decide +kernel, by decide +kernel⟩, List.mem_of_getElem? (i := 1977) (by decide +kernel), List.mem_of_getElem? (i := 2633) (by decide +kernel), List.mem_of_getElem? (i := 2634) (by decide +kernel)⟩
theorem lw_p221 : lw_okq (⟨"ForthHouseModel", "innermost", "()I"⟩, 35) := ⟨⟨by decide +kernel, by decide +kernel⟩, List.mem_of_getElem? (i := 1977) (by decide +kernel), List.mem_of_getElem? (i := 2637) (by decide +kernel), List.mem_of_getElem? (i := 2638) (by decide +kernel)⟩
theorem lw_p222 : lw_okq (⟨"ForthHouseModel", "endCase", "()V"⟩, 35) := ⟨⟨by decide +kernel, by decide +kernel⟩, List.mem_of_getElem? (i := 1977) (by decide +kernel), List.mem_of_getElem? (i := 2641) (by decide +kernel), List.mem_of_getElem? (i := 2642) (by decide +kernel)⟩
theorem lw_p223 : lw_okq (⟨"ForthHouseModel", "orders", "(I)V"⟩, 35) := ⟨⟨by decide +kernel, by decide +kernel⟩, List.mem_of_getElem? (i := 1977) (by decide +kernel), List.mem_of_getElem? (i := 2645) (by decide +kernel), List.mem_of_getElem? (i := 2646) (by decide +kernel)⟩
def lw_privs_14 : List (MethodName × Nat) := [(⟨"ForthHouseModel", "open", "()I"⟩, 35), (⟨"ForthHouseModel", "loopAt", "(I)I"⟩, 35), (⟨"ForthHouseModel", "control", "(I)V"⟩, 35), (⟨"ForthHouseModel", "origin", "(I)V"⟩, 35), (⟨"ForthHouseModel", "pair", "(III)V"⟩, 35), (⟨"ForthHouseModel", "then", "()V"⟩, 35), (⟨"ForthHouseModel", "topPair", "(II)I"⟩, 35), (⟨"ForthHouseModel", "drops", "()V"⟩, 35), (⟨"ForthHouseModel", "back", "(I)V"⟩, 35), (⟨"ForthHouseModel", "hasPair", "(I)Z"⟩, 35), (⟨"ForthHouseModel", "swapPairs", "()V"⟩, 35), (⟨"ForthHouseModel", "loopEnds", "(I)V"⟩, 35), (⟨"ForthHouseModel", "settle", "(III)V"⟩, 35), (⟨"ForthHouseModel", "innermost", "()I"⟩, 35), (⟨"ForthHouseModel", "endCase", "()V"⟩, 35), (⟨"ForthHouseModel", "orders", "(I)V"⟩, 35)]
theorem lw_r14 : ∀ q ∈ lw_privs_14, lw_okq q := List.forall_mem_cons.mpr ⟨lw_p208, List.forall_mem_cons.mpr ⟨lw_p209, List.forall_mem_cons.mpr ⟨lw_p210, List.forall_mem_cons.mpr ⟨lw_p211, List.forall_mem_cons.mpr ⟨lw_p212, List.forall_mem_cons.mpr ⟨lw_p213, List.forall_mem_cons.mpr ⟨lw_p214, List.forall_mem_cons.mpr ⟨lw_p215, List.forall_mem_cons.mpr ⟨lw_p216, List.forall_mem_cons.mpr ⟨lw_p217, List.forall_mem_cons.mpr ⟨lw_p218, List.forall_mem_cons.mpr ⟨lw_p219, List.forall_mem_cons.mpr ⟨lw_p220, List.forall_mem_cons.mpr ⟨lw_p221, List.forall_mem_cons.mpr ⟨lw_p222, List.forall_mem_cons.mpr ⟨lw_p223, fun _ h => absurd h List.not_mem_nil⟩⟩⟩⟩⟩⟩⟩⟩⟩⟩⟩⟩⟩⟩⟩⟩
theorem lw_p224 : lw_okq (⟨"ForthHouseModel", "tasks", "(I)V"⟩, 35) := ⟨⟨by decide +kernel, by decide +kernel⟩, List.mem_of_getElem? (i := 1977) (by decide +kernel), List.mem_of_getElem? (i := 2649) (by decide +kernel), List.mem_of_getElem? (i := 2650) (by decide +kernel)⟩
theorem lw_p225 : lw_okq (⟨"ForthHouseModel", "emptyRows", "(I)V"⟩, 35) := ⟨⟨by decide +kernel, by decide +kernel⟩, List.mem_of_getElem? (i := 1977) (by decide +kernel), List.mem_of_getElem? (i := 2653) (by decide +kernel), List.mem_of_getElem? (i := 2654) (by decide +kernel)⟩
theorem lw_p226 : lw_okq (⟨"ForthHouseModel", "passes", "()Z"⟩, 35) := ⟨⟨by decide +kernel, by decide +kernel⟩, List.mem_of_getElem? (i := 1977) (by decide +kernel), List.mem_of_getElem? (i := 2657) (by decide +kernel), List.mem_of_getElem? (i := 2658) (by decide +kernel)⟩
theorem lw_p227 : lw_okq (⟨"ForthHouseModel", "taskEnds", "(I)V"⟩, 35) := ⟨⟨by decide +kernel, by decide +kernel⟩, List.mem_of_getElem? (i := 1977) (by decide +kernel), List.mem_of_getElem? (i := 2661) (by decide +kernel), List.mem_of_getElem? (i := 2662) (by decide +kernel)⟩
theorem lw_p228 : lw_okq (⟨"ForthHouseModel", "thrown", "()V"⟩, 35) := ⟨⟨by decide +kernel, by decide +kernel⟩, List.mem_of_getElem? (i := 1977) (by decide +kernel), List.mem_of_getElem? (i := 2665) (by decide +kernel), List.mem_of_getElem? (i := 2666) (by decide +kernel)⟩
theorem lw_p229 : lw_okq (⟨"ForthHouseModel", "restore", "(I)V"⟩, 35) := ⟨⟨by decide +kernel, by decide +kernel⟩, List.mem_of_getElem? (i := 1977) (by decide +kernel), List.mem_of_getElem? (i := 2669) (by decide +kernel), List.mem_of_getElem? (i := 2670) (by decide +kernel)⟩
theorem lw_p230 : lw_okq (⟨"ForthHouseModel", "outOf", "(I)V"⟩, 35) := ⟨⟨by decide +kernel, by decide +kernel⟩, List.mem_of_getElem? (i := 1977) (by decide +kernel), List.mem_of_getElem? (i := 2673) (by decide +kernel), List.mem_of_getElem? (i := 2674) (by decide +kernel)⟩
theorem lw_p231 : lw_okq (⟨"ForthHouseModel", "receive", "()V"⟩, 35) := ⟨⟨by decide +kernel, by decide +kernel⟩, List.mem_of_getElem? (i := 1977) (by decide +kernel), List.mem_of_getElem? (i := 2677) (by decide +kernel), List.mem_of_getElem? (i := 2678) (by decide +kernel)⟩
theorem lw_p232 : lw_okq (⟨"ForthHouseModel", "tests", "(I)V"⟩, 35) := ⟨⟨by decide +kernel, by decide +kernel⟩, List.mem_of_getElem? (i := 1977) (by decide +kernel), List.mem_of_getElem? (i := 2681) (by decide +kernel), List.mem_of_getElem? (i := 2682) (by decide +kernel)⟩
theorem lw_p233 : lw_okq (⟨"ForthHouseModel", "enter", "(I)V"⟩, 35) := ⟨⟨by decide +kernel, by decide +kernel⟩, List.mem_of_getElem? (i := 1977) (by decide +kernel), List.mem_of_getElem? (i := 2687) (by decide +kernel), List.mem_of_getElem? (i := 2688) (by decide +kernel)⟩
theorem lw_p234 : lw_okq (⟨"ForthHouseModel", "mark", "(IZ)V"⟩, 35) := ⟨⟨by decide +kernel, by decide +kernel⟩, List.mem_of_getElem? (i := 1977) (by decide +kernel), List.mem_of_getElem? (i := 2691) (by decide +kernel), List.mem_of_getElem? (i := 2692) (by decide +kernel)⟩
theorem lw_p235 : lw_okq (⟨"ForthHouseModel", "interpret", "()V"⟩, 35) := ⟨⟨by decide +kernel, by decide +kernel⟩, List.mem_of_getElem? (i := 1977) (by decide +kernel), List.mem_of_getElem? (i := 2695) (by decide +kernel), List.mem_of_getElem? (i := 2696) (by decide +kernel)⟩
theorem lw_p236 : lw_okq (⟨"ForthHouseModel", "textEnds", "()V"⟩, 35) := ⟨⟨by decide +kernel, by decide +kernel⟩, List.mem_of_getElem? (i := 1977) (by decide +kernel), List.mem_of_getElem? (i := 2699) (by decide +kernel), List.mem_of_getElem? (i := 2700) (by decide +kernel)⟩
theorem lw_p237 : lw_okq (⟨"ForthHouseModel", "isOnly", "(I)Z"⟩, 35) := ⟨⟨by decide +kernel, by decide +kernel⟩, List.mem_of_getElem? (i := 1977) (by decide +kernel), List.mem_of_getElem? (i := 2703) (by decide +kernel), List.mem_of_getElem? (i := 2704) (by decide +kernel)⟩
theorem lw_p238 : lw_okq (⟨"ForthHouseModel", "isNumber", "()Z"⟩, 35) := ⟨⟨by decide +kernel, by decide +kernel⟩, List.mem_of_getElem? (i := 1977) (by decide +kernel), List.mem_of_getElem? (i := 2707) (by decide +kernel), List.mem_of_getElem? (i := 2708) (by decide +kernel)⟩
theorem lw_p239 : lw_okq (⟨"ForthHouseModel", "runItem", "(I)V"⟩, 35) := ⟨⟨by decide +kernel, by decide +kernel⟩, List.mem_of_getElem? (i := 1977) (by decide +kernel), List.mem_of_getElem? (i := 2714) (by decide +kernel), List.mem_of_getElem? (i := 2715) (by decide +kernel)⟩
def lw_privs_15 : List (MethodName × Nat) := [(⟨"ForthHouseModel", "tasks", "(I)V"⟩, 35), (⟨"ForthHouseModel", "emptyRows", "(I)V"⟩, 35), (⟨"ForthHouseModel", "passes", "()Z"⟩, 35), (⟨"ForthHouseModel", "taskEnds", "(I)V"⟩, 35), (⟨"ForthHouseModel", "thrown", "()V"⟩, 35), (⟨"ForthHouseModel", "restore", "(I)V"⟩, 35), (⟨"ForthHouseModel", "outOf", "(I)V"⟩, 35), (⟨"ForthHouseModel", "receive", "()V"⟩, 35), (⟨"ForthHouseModel", "tests", "(I)V"⟩, 35), (⟨"ForthHouseModel", "enter", "(I)V"⟩, 35), (⟨"ForthHouseModel", "mark", "(IZ)V"⟩, 35), (⟨"ForthHouseModel", "interpret", "()V"⟩, 35), (⟨"ForthHouseModel", "textEnds", "()V"⟩, 35), (⟨"ForthHouseModel", "isOnly", "(I)Z"⟩, 35), (⟨"ForthHouseModel", "isNumber", "()Z"⟩, 35), (⟨"ForthHouseModel", "runItem", "(I)V"⟩, 35)]
theorem lw_r15 : ∀ q ∈ lw_privs_15, lw_okq q := List.forall_mem_cons.mpr ⟨lw_p224, List.forall_mem_cons.mpr ⟨lw_p225, List.forall_mem_cons.mpr ⟨lw_p226, List.forall_mem_cons.mpr ⟨lw_p227, List.forall_mem_cons.mpr ⟨lw_p228, List.forall_mem_cons.mpr ⟨lw_p229, List.forall_mem_cons.mpr ⟨lw_p230, List.forall_mem_cons.mpr ⟨lw_p231, List.forall_mem_cons.mpr ⟨lw_p232, List.forall_mem_cons.mpr ⟨lw_p233, List.forall_mem_cons.mpr ⟨lw_p234, List.forall_mem_cons.mpr ⟨lw_p235, List.forall_mem_cons.mpr ⟨lw_p236, List.forall_mem_cons.mpr ⟨lw_p237, List.forall_mem_cons.mpr ⟨lw_p238, List.forall_mem_cons.mpr ⟨lw_p239, fun _ h => absurd h List.not_mem_nil⟩⟩⟩⟩⟩⟩⟩⟩⟩⟩⟩⟩⟩⟩⟩⟩
theorem lw_p240 : lw_okq (⟨"ForthHouseModel", "doItem", "(III)V"⟩, 35) := ⟨⟨by decide +kernel, by decide +kernel⟩, List.mem_of_getElem? (i := 1977) (by decide +kernel), List.mem_of_getElem? (i := 2718) (by decide +kernel), List.mem_of_getElem? (i := 2719) (by decide +kernel)⟩
theorem lw_p241 : lw_okq (⟨"ForthHouseModel", "beginLoop", "(II)V"⟩, 35) := ⟨⟨by decide +kernel, by decide +kernel⟩, List.mem_of_getElem? (i := 1977) (by decide +kernel), List.mem_of_getElem? (i := 2722) (by decide +kernel), List.mem_of_getElem? (i := 2723) (by decide +kernel)⟩
theorem lw_p242 : lw_okq (⟨"ForthHouseModel", "goOn", "(IIJ)V"⟩, 35) := ⟨⟨by decide +kernel, by decide +kernel⟩, List.mem_of_getElem? (i := 1977) (by decide +kernel), List.mem_of_getElem? (i := 2726) (by decide +kernel), List.mem_of_getElem? (i := 2727) (by decide +kernel)⟩
theorem lw_p243 : lw_okq (⟨"ForthHouseModel", "doLocal", "(III)V"⟩, 35) := ⟨⟨by decide +kernel, by decide +kernel⟩, List.mem_of_getElem? (i := 1977) (by decide +kernel), List.mem_of_getElem? (i := 2730) (by decide +kernel), List.mem_of_getElem? (i := 2731) (by decide +kernel)⟩
theorem lw_p244 : lw_okq (⟨"ForthHouseModel", "isLocal", "(II)Z"⟩, 35) := ⟨⟨by decide +kernel, by decide +kernel⟩, List.mem_of_getElem? (i := 1977) (by decide +kernel), List.mem_of_getElem? (i := 2734) (by decide +kernel), List.mem_of_getElem? (i := 2735) (by decide +kernel)⟩
theorem lw_p245 : lw_okq (⟨"ForthHouseModel", "isOf", "(II)Z"⟩, 35) := ⟨⟨by decide +kernel, by decide +kernel⟩, List.mem_of_getElem? (i := 1977) (by decide +kernel), List.mem_of_getElem? (i := 2778) (by decide +kernel), List.mem_of_getElem? (i := 2779) (by decide +kernel)⟩
theorem lw_p246 : lw_okq (⟨"ForthHouseModel", "isEnded", "(II)Z"⟩, 35) := ⟨⟨by decide +kernel, by decide +kernel⟩, List.mem_of_getElem? (i := 1977) (by decide +kernel), List.mem_of_getElem? (i := 2794) (by decide +kernel), List.mem_of_getElem? (i := 2795) (by decide +kernel)⟩
theorem lw_p247 : lw_okq (⟨"ForthHouseModel", "laysLed", "(I)V"⟩, 35) := ⟨⟨by decide +kernel, by decide +kernel⟩, List.mem_of_getElem? (i := 1977) (by decide +kernel), List.mem_of_getElem? (i := 2806) (by decide +kernel), List.mem_of_getElem? (i := 2807) (by decide +kernel)⟩
theorem lw_p248 : lw_okq (⟨"ForthHouseModel", "leanAt", "(II)Z"⟩, 35) := ⟨⟨by decide +kernel, by decide +kernel⟩, List.mem_of_getElem? (i := 1977) (by decide +kernel), List.mem_of_getElem? (i := 2810) (by decide +kernel), List.mem_of_getElem? (i := 2811) (by decide +kernel)⟩
theorem lw_p249 : lw_okq (⟨"ForthHouseModel", "drop", "(III)V"⟩, 35) := ⟨⟨by decide +kernel, by decide +kernel⟩, List.mem_of_getElem? (i := 1977) (by decide +kernel), List.mem_of_getElem? (i := 2814) (by decide +kernel), List.mem_of_getElem? (i := 2815) (by decide +kernel)⟩
theorem lw_p250 : lw_okq (⟨"ForthHouseModel", "isLed", "(II)Z"⟩, 35) := ⟨⟨by decide +kernel, by decide +kernel⟩, List.mem_of_getElem? (i := 1977) (by decide +kernel), List.mem_of_getElem? (i := 2818) (by decide +kernel), List.mem_of_getElem? (i := 2819) (by decide +kernel)⟩
theorem lw_p251 : lw_okq (⟨"ForthHouseModel", "fold", "(IIIZ)I"⟩, 35) := ⟨⟨by decide +kernel, by decide +kernel⟩, List.mem_of_getElem? (i := 1977) (by decide +kernel), List.mem_of_getElem? (i := 2825) (by decide +kernel), List.mem_of_getElem? (i := 2826) (by decide +kernel)⟩
theorem lw_p252 : lw_okq (⟨"ForthHouseModel", "partOf", "(I)I"⟩, 35) := ⟨⟨by decide +kernel, by decide +kernel⟩, List.mem_of_getElem? (i := 1977) (by decide +kernel), List.mem_of_getElem? (i := 2836) (by decide +kernel), List.mem_of_getElem? (i := 2837) (by decide +kernel)⟩
theorem lw_p253 : lw_okq (⟨"ForthHouseModel", "measures", "(I)Z"⟩, 35) := ⟨⟨by decide +kernel, by decide +kernel⟩, List.mem_of_getElem? (i := 1977) (by decide +kernel), List.mem_of_getElem? (i := 2840) (by decide +kernel), List.mem_of_getElem? (i := 2841) (by decide +kernel)⟩
theorem lw_p254 : lw_okq (⟨"ForthHouseModel", "chipWords", "(I)I"⟩, 35) := ⟨⟨by decide +kernel, by decide +kernel⟩, List.mem_of_getElem? (i := 1977) (by decide +kernel), List.mem_of_getElem? (i := 2844) (by decide +kernel), List.mem_of_getElem? (i := 2845) (by decide +kernel)⟩
theorem lw_p255 : lw_okq (⟨"ForthHouseModel", "lays", "(I)V"⟩, 35) := ⟨⟨by decide +kernel, by decide +kernel⟩, List.mem_of_getElem? (i := 1977) (by decide +kernel), List.mem_of_getElem? (i := 2848) (by decide +kernel), List.mem_of_getElem? (i := 2849) (by decide +kernel)⟩
def lw_privs_16 : List (MethodName × Nat) := [(⟨"ForthHouseModel", "doItem", "(III)V"⟩, 35), (⟨"ForthHouseModel", "beginLoop", "(II)V"⟩, 35), (⟨"ForthHouseModel", "goOn", "(IIJ)V"⟩, 35), (⟨"ForthHouseModel", "doLocal", "(III)V"⟩, 35), (⟨"ForthHouseModel", "isLocal", "(II)Z"⟩, 35), (⟨"ForthHouseModel", "isOf", "(II)Z"⟩, 35), (⟨"ForthHouseModel", "isEnded", "(II)Z"⟩, 35), (⟨"ForthHouseModel", "laysLed", "(I)V"⟩, 35), (⟨"ForthHouseModel", "leanAt", "(II)Z"⟩, 35), (⟨"ForthHouseModel", "drop", "(III)V"⟩, 35), (⟨"ForthHouseModel", "isLed", "(II)Z"⟩, 35), (⟨"ForthHouseModel", "fold", "(IIIZ)I"⟩, 35), (⟨"ForthHouseModel", "partOf", "(I)I"⟩, 35), (⟨"ForthHouseModel", "measures", "(I)Z"⟩, 35), (⟨"ForthHouseModel", "chipWords", "(I)I"⟩, 35), (⟨"ForthHouseModel", "lays", "(I)V"⟩, 35)]
theorem lw_r16 : ∀ q ∈ lw_privs_16, lw_okq q := List.forall_mem_cons.mpr ⟨lw_p240, List.forall_mem_cons.mpr ⟨lw_p241, List.forall_mem_cons.mpr ⟨lw_p242, List.forall_mem_cons.mpr ⟨lw_p243, List.forall_mem_cons.mpr ⟨lw_p244, List.forall_mem_cons.mpr ⟨lw_p245, List.forall_mem_cons.mpr ⟨lw_p246, List.forall_mem_cons.mpr ⟨lw_p247, List.forall_mem_cons.mpr ⟨lw_p248, List.forall_mem_cons.mpr ⟨lw_p249, List.forall_mem_cons.mpr ⟨lw_p250, List.forall_mem_cons.mpr ⟨lw_p251, List.forall_mem_cons.mpr ⟨lw_p252, List.forall_mem_cons.mpr ⟨lw_p253, List.forall_mem_cons.mpr ⟨lw_p254, List.forall_mem_cons.mpr ⟨lw_p255, fun _ h => absurd h List.not_mem_nil⟩⟩⟩⟩⟩⟩⟩⟩⟩⟩⟩⟩⟩⟩⟩⟩
theorem lw_p256 : lw_okq (⟨"ForthHouseModel", "lookChip", "()V"⟩, 35) := ⟨⟨by decide +kernel, by decide +kernel⟩, List.mem_of_getElem? (i := 1977) (by decide +kernel), List.mem_of_getElem? (i := 2863) (by decide +kernel), List.mem_of_getElem? (i := 2864) (by decide +kernel)⟩
theorem lw_p257 : lw_okq (⟨"ForthHouseModel", "chipStep", "()V"⟩, 35) := ⟨⟨by decide +kernel, by decide +kernel⟩, List.mem_of_getElem? (i := 1977) (by decide +kernel), List.mem_of_getElem? (i := 2871) (by decide +kernel), List.mem_of_getElem? (i := 2872) (by decide +kernel)⟩
theorem lw_p258 : lw_okq (⟨"ForthHouseModel", "chipExit", "()V"⟩, 35) := ⟨⟨by decide +kernel, by decide +kernel⟩, List.mem_of_getElem? (i := 1977) (by decide +kernel), List.mem_of_getElem? (i := 2876) (by decide +kernel), List.mem_of_getElem? (i := 2877) (by decide +kernel)⟩
theorem lw_p259 : lw_okq (⟨"ForthHouseModel", "copy", "(II)V"⟩, 35) := ⟨⟨by decide +kernel, by decide +kernel⟩, List.mem_of_getElem? (i := 1977) (by decide +kernel), List.mem_of_getElem? (i := 2905) (by decide +kernel), List.mem_of_getElem? (i := 2906) (by decide +kernel)⟩
theorem lw_p260 : lw_okq (⟨"ForthHouseModel", "tasksAlike", "(II)Z"⟩, 35) := ⟨⟨by decide +kernel, by decide +kernel⟩, List.mem_of_getElem? (i := 1977) (by decide +kernel), List.mem_of_getElem? (i := 2920) (by decide +kernel), List.mem_of_getElem? (i := 2921) (by decide +kernel)⟩
def lw_privs_17 : List (MethodName × Nat) := [(⟨"ForthHouseModel", "lookChip", "()V"⟩, 35), (⟨"ForthHouseModel", "chipStep", "()V"⟩, 35), (⟨"ForthHouseModel", "chipExit", "()V"⟩, 35), (⟨"ForthHouseModel", "copy", "(II)V"⟩, 35), (⟨"ForthHouseModel", "tasksAlike", "(II)Z"⟩, 35)]
theorem lw_r17 : ∀ q ∈ lw_privs_17, lw_okq q := List.forall_mem_cons.mpr ⟨lw_p256, List.forall_mem_cons.mpr ⟨lw_p257, List.forall_mem_cons.mpr ⟨lw_p258, List.forall_mem_cons.mpr ⟨lw_p259, List.forall_mem_cons.mpr ⟨lw_p260, fun _ h => absurd h List.not_mem_nil⟩⟩⟩⟩⟩
def lw_privs : List (MethodName × Nat) := lw_privs_1 ++ (lw_privs_2 ++ (lw_privs_3 ++ (lw_privs_4 ++ (lw_privs_5 ++ (lw_privs_6 ++ (lw_privs_7 ++ (lw_privs_8 ++ (lw_privs_9 ++ (lw_privs_10 ++ (lw_privs_11 ++ (lw_privs_12 ++ (lw_privs_13 ++ (lw_privs_14 ++ (lw_privs_15 ++ (lw_privs_16 ++ (lw_privs_17))))))))))))))))
def lw_tbl : List Cond := k2_sels lw_privs ++ tables_1
theorem lw_privs_ok : ∀ q ∈ lw_privs, lw_okq q := by
  show ∀ q ∈ lw_privs_1 ++ (lw_privs_2 ++ (lw_privs_3 ++ (lw_privs_4 ++ (lw_privs_5 ++ (lw_privs_6 ++ (lw_privs_7 ++ (lw_privs_8 ++ (lw_privs_9 ++ (lw_privs_10 ++ (lw_privs_11 ++ (lw_privs_12 ++ (lw_privs_13 ++ (lw_privs_14 ++ (lw_privs_15 ++ (lw_privs_16 ++ (lw_privs_17)))))))))))))))), lw_okq q
  exact List.forall_mem_append.mpr ⟨lw_r1, List.forall_mem_append.mpr ⟨lw_r2, List.forall_mem_append.mpr ⟨lw_r3, List.forall_mem_append.mpr ⟨lw_r4, List.forall_mem_append.mpr ⟨lw_r5, List.forall_mem_append.mpr ⟨lw_r6, List.forall_mem_append.mpr ⟨lw_r7, List.forall_mem_append.mpr ⟨lw_r8, List.forall_mem_append.mpr ⟨lw_r9, List.forall_mem_append.mpr ⟨lw_r10, List.forall_mem_append.mpr ⟨lw_r11, List.forall_mem_append.mpr ⟨lw_r12, List.forall_mem_append.mpr ⟨lw_r13, List.forall_mem_append.mpr ⟨lw_r14, List.forall_mem_append.mpr ⟨lw_r15, List.forall_mem_append.mpr ⟨lw_r16, lw_r17⟩⟩⟩⟩⟩⟩⟩⟩⟩⟩⟩⟩⟩⟩⟩⟩
end
section
/-! NAMES (printed by the kit): classes, fields, methods -/
def RX0 : String := "ForthHouse$Chip"
def TX0 : u_T := fun k => match k with
  | 0 => ("ForthHouse$Chip", "words", "[I", true)
  | 1 => ("ForthHouse$Chip", "length", "I", false)
  | 2 => ("ForthHouse$Chip", "space", "LForthHouse$Space;", true)
  | 3 => ("ForthHouse$Chip", "rows", "LForthHouse$Task;", true)
  | 4 => ("ForthHouse$Chip", "state", "I", false)
  | 5 => ("ForthHouse$Chip", "fault", "I", false)
  | 6 => ("ForthHouse$Chip", "done", "I", false)
  | 7 => ("ForthHouse$Chip", "places", "[I", true)
  | 8 => ("ForthHouse$Chip", "starts", "[I", true)
  | 9 => ("ForthHouse$Chip", "queue", "[I", true)
  | _ => ("ForthHouse$Chip", "met", "I", false)
def tyX0 : Nat → FieldType := fun k => match k with
  | 0 => .array .int
  | 1 => .int
  | 2 => .object "ForthHouse$Space"
  | 3 => .object "ForthHouse$Task"
  | 4 => .int
  | 5 => .int
  | 6 => .int
  | 7 => .array .int
  | 8 => .array .int
  | 9 => .array .int
  | _ => .int
theorem nmX0 : ∀ a, a < 11 → ∀ b, b < 11 → a ≠ b → (TX0 a).2.1 ≠ (TX0 b).2.1 := by decide +kernel
theorem tyX0_ok : ∀ k, k < 11 → parseFieldDescriptor (TX0 k).2.2.1 = some (tyX0 k) := by decide +kernel
def RX1 : String := "ForthHouse$Forth"
def TX1 : u_T := fun k => match k with
  | 0 => ("ForthHouse$Forth", "space", "LForthHouse$Space;", true)
  | 1 => ("ForthHouse$Forth", "words", "LForthHouse$Words;", true)
  | 2 => ("ForthHouse$Forth", "items", "LForthHouse$Items;", true)
  | 3 => ("ForthHouse$Forth", "texts", "LForthHouse$Texts;", true)
  | 4 => ("ForthHouse$Forth", "making", "LForthHouse$Making;", true)
  | 5 => ("ForthHouse$Forth", "lists", "LForthHouse$Lists;", true)
  | 6 => ("ForthHouse$Forth", "sink", "LForthHouse$Sink;", true)
  | 7 => ("ForthHouse$Forth", "judge", "LForthHouse$Judge;", true)
  | 8 => ("ForthHouse$Forth", "tasks", "[LForthHouse$Task;", true)
  | 9 => ("ForthHouse$Forth", "at", "I", false)
  | 10 => ("ForthHouse$Forth", "steps", "I", false)
  | 11 => ("ForthHouse$Forth", "thrownCode", "I", false)
  | 12 => ("ForthHouse$Forth", "thrownIn", "I", false)
  | 13 => ("ForthHouse$Forth", "thrownTexts", "I", false)
  | 14 => ("ForthHouse$Forth", "todo", "I", false)
  | 15 => ("ForthHouse$Forth", "direct", "Z", false)
  | 16 => ("ForthHouse$Forth", "ended", "I", false)
  | _ => ("ForthHouse$Forth", "outside", "Z", false)
def tyX1 : Nat → FieldType := fun k => match k with
  | 0 => .object "ForthHouse$Space"
  | 1 => .object "ForthHouse$Words"
  | 2 => .object "ForthHouse$Items"
  | 3 => .object "ForthHouse$Texts"
  | 4 => .object "ForthHouse$Making"
  | 5 => .object "ForthHouse$Lists"
  | 6 => .object "ForthHouse$Sink"
  | 7 => .object "ForthHouse$Judge"
  | 8 => .array (.object "ForthHouse$Task")
  | 9 => .int
  | 10 => .int
  | 11 => .int
  | 12 => .int
  | 13 => .int
  | 14 => .int
  | 15 => .boolean
  | 16 => .int
  | _ => .boolean
theorem nmX1 : ∀ a, a < 18 → ∀ b, b < 18 → a ≠ b → (TX1 a).2.1 ≠ (TX1 b).2.1 := by decide +kernel
theorem tyX1_ok : ∀ k, k < 18 → parseFieldDescriptor (TX1 k).2.2.1 = some (tyX1 k) := by decide +kernel
def RX2 : String := "ForthHouse$Items"
def TX2 : u_T := fun k => match k with
  | 0 => ("ForthHouse$Items", "kinds", "[B", true)
  | 1 => ("ForthHouse$Items", "numbers", "[I", true)
  | _ => ("ForthHouse$Items", "total", "I", false)
def tyX2 : Nat → FieldType := fun k => match k with
  | 0 => .array .byte
  | 1 => .array .int
  | _ => .int
theorem nmX2 : ∀ a, a < 3 → ∀ b, b < 3 → a ≠ b → (TX2 a).2.1 ≠ (TX2 b).2.1 := by decide +kernel
theorem tyX2_ok : ∀ k, k < 3 → parseFieldDescriptor (TX2 k).2.2.1 = some (tyX2 k) := by decide +kernel
def RX3 : String := "ForthHouse$Judge"
def TX3 : u_T := fun k => match k with
  | 0 => ("ForthHouse$Judge", "words", "LForthHouse$Words;", true)
  | 1 => ("ForthHouse$Judge", "items", "LForthHouse$Items;", true)
  | 2 => ("ForthHouse$Judge", "desk", "LForthHouse$Task;", true)
  | 3 => ("ForthHouse$Judge", "heights", "[I", true)
  | 4 => ("ForthHouse$Judge", "returns", "[I", true)
  | 5 => ("ForthHouse$Judge", "loops", "[I", true)
  | 6 => ("ForthHouse$Judge", "seen", "[B", true)
  | 7 => ("ForthHouse$Judge", "token", "I", false)
  | 8 => ("ForthHouse$Judge", "first", "I", false)
  | 9 => ("ForthHouse$Judge", "end", "I", false)
  | 10 => ("ForthHouse$Judge", "low", "I", false)
  | 11 => ("ForthHouse$Judge", "result", "I", false)
  | 12 => ("ForthHouse$Judge", "spot", "I", false)
  | 13 => ("ForthHouse$Judge", "lowest", "I", false)
  | 14 => ("ForthHouse$Judge", "exitHeight", "I", false)
  | 15 => ("ForthHouse$Judge", "exits", "Z", false)
  | 16 => ("ForthHouse$Judge", "selfMet", "Z", false)
  | 17 => ("ForthHouse$Judge", "selfKnown", "Z", false)
  | 18 => ("ForthHouse$Judge", "selfIn", "I", false)
  | _ => ("ForthHouse$Judge", "selfOut", "I", false)
def tyX3 : Nat → FieldType := fun k => match k with
  | 0 => .object "ForthHouse$Words"
  | 1 => .object "ForthHouse$Items"
  | 2 => .object "ForthHouse$Task"
  | 3 => .array .int
  | 4 => .array .int
  | 5 => .array .int
  | 6 => .array .byte
  | 7 => .int
  | 8 => .int
  | 9 => .int
  | 10 => .int
  | 11 => .int
  | 12 => .int
  | 13 => .int
  | 14 => .int
  | 15 => .boolean
  | 16 => .boolean
  | 17 => .boolean
  | 18 => .int
  | _ => .int
theorem nmX3 : ∀ a, a < 20 → ∀ b, b < 20 → a ≠ b → (TX3 a).2.1 ≠ (TX3 b).2.1 := by decide +kernel
theorem tyX3_ok : ∀ k, k < 20 → parseFieldDescriptor (TX3 k).2.2.1 = some (tyX3 k) := by decide +kernel
def RX4 : String := "ForthHouse$Lists"
def TX4 : u_T := fun k => match k with
  | 0 => ("ForthHouse$Lists", "order", "[I", true)
  | 1 => ("ForthHouse$Lists", "orderCount", "I", false)
  | 2 => ("ForthHouse$Lists", "total", "I", false)
  | 3 => ("ForthHouse$Lists", "current", "I", false)
  | 4 => ("ForthHouse$Lists", "markers", "I", false)
  | 5 => ("ForthHouse$Lists", "markItems", "[I", true)
  | 6 => ("ForthHouse$Lists", "markLists", "[I", true)
  | 7 => ("ForthHouse$Lists", "markHeres", "[I", true)
  | 8 => ("ForthHouse$Lists", "markLatest", "[I", true)
  | 9 => ("ForthHouse$Lists", "markCurrents", "[I", true)
  | 10 => ("ForthHouse$Lists", "markCounts", "[I", true)
  | _ => ("ForthHouse$Lists", "markOrders", "[I", true)
def tyX4 : Nat → FieldType := fun k => match k with
  | 0 => .array .int
  | 1 => .int
  | 2 => .int
  | 3 => .int
  | 4 => .int
  | 5 => .array .int
  | 6 => .array .int
  | 7 => .array .int
  | 8 => .array .int
  | 9 => .array .int
  | 10 => .array .int
  | _ => .array .int
theorem nmX4 : ∀ a, a < 12 → ∀ b, b < 12 → a ≠ b → (TX4 a).2.1 ≠ (TX4 b).2.1 := by decide +kernel
theorem tyX4_ok : ∀ k, k < 12 → parseFieldDescriptor (TX4 k).2.2.1 = some (tyX4 k) := by decide +kernel
def RX5 : String := "ForthHouse$Making"
def TX5 : u_T := fun k => match k with
  | 0 => ("ForthHouse$Making", "items", "LForthHouse$Items;", true)
  | 1 => ("ForthHouse$Making", "compiling", "Z", false)
  | 2 => ("ForthHouse$Making", "nameless", "Z", false)
  | 3 => ("ForthHouse$Making", "latestBefore", "I", false)
  | 4 => ("ForthHouse$Making", "open", "I", false)
  | 5 => ("ForthHouse$Making", "tokens", "[I", true)
  | 6 => ("ForthHouse$Making", "bases", "[I", true)
  | 7 => ("ForthHouse$Making", "overs", "[I", true)
  | 8 => ("ForthHouse$Making", "marks", "[I", true)
  | 9 => ("ForthHouse$Making", "localCounts", "[I", true)
  | 10 => ("ForthHouse$Making", "localLengths", "[B", true)
  | 11 => ("ForthHouse$Making", "localNames", "[B", true)
  | 12 => ("ForthHouse$Making", "pairs", "I", false)
  | 13 => ("ForthHouse$Making", "pairKinds", "[I", true)
  | _ => ("ForthHouse$Making", "pairPlaces", "[I", true)
def tyX5 : Nat → FieldType := fun k => match k with
  | 0 => .object "ForthHouse$Items"
  | 1 => .boolean
  | 2 => .boolean
  | 3 => .int
  | 4 => .int
  | 5 => .array .int
  | 6 => .array .int
  | 7 => .array .int
  | 8 => .array .int
  | 9 => .array .int
  | 10 => .array .byte
  | 11 => .array .byte
  | 12 => .int
  | 13 => .array .int
  | _ => .array .int
theorem nmX5 : ∀ a, a < 15 → ∀ b, b < 15 → a ≠ b → (TX5 a).2.1 ≠ (TX5 b).2.1 := by decide +kernel
theorem tyX5_ok : ∀ k, k < 15 → parseFieldDescriptor (TX5 k).2.2.1 = some (tyX5 k) := by decide +kernel
def RX6 : String := "ForthHouse$Sink"
def TX6 : u_T := fun k => match k with
  | 0 => ("ForthHouse$Sink", "bytes", "[B", true)
  | 1 => ("ForthHouse$Sink", "total", "I", false)
  | 2 => ("ForthHouse$Sink", "digits", "[B", true)
  | 3 => ("ForthHouse$Sink", "noted", "I", false)
  | 4 => ("ForthHouse$Sink", "kept", "[I", true)
  | 5 => ("ForthHouse$Sink", "keptCount", "I", false)
  | 6 => ("ForthHouse$Sink", "good", "I", false)
  | _ => ("ForthHouse$Sink", "bad", "I", false)
def tyX6 : Nat → FieldType := fun k => match k with
  | 0 => .array .byte
  | 1 => .int
  | 2 => .array .byte
  | 3 => .int
  | 4 => .array .int
  | 5 => .int
  | 6 => .int
  | _ => .int
theorem nmX6 : ∀ a, a < 8 → ∀ b, b < 8 → a ≠ b → (TX6 a).2.1 ≠ (TX6 b).2.1 := by decide +kernel
theorem tyX6_ok : ∀ k, k < 8 → parseFieldDescriptor (TX6 k).2.2.1 = some (tyX6 k) := by decide +kernel
def RX7 : String := "ForthHouse$Space"
def TX7 : u_T := fun k => match k with
  | 0 => ("ForthHouse$Space", "bytes", "[B", true)
  | 1 => ("ForthHouse$Space", "cellBytes", "I", false)
  | 2 => ("ForthHouse$Space", "choices", "I", false)
  | 3 => ("ForthHouse$Space", "here", "I", false)
  | _ => ("ForthHouse$Space", "picture", "I", false)
def tyX7 : Nat → FieldType := fun k => match k with
  | 0 => .array .byte
  | 1 => .int
  | 2 => .int
  | 3 => .int
  | _ => .int
theorem nmX7 : ∀ a, a < 5 → ∀ b, b < 5 → a ≠ b → (TX7 a).2.1 ≠ (TX7 b).2.1 := by decide +kernel
theorem tyX7_ok : ∀ k, k < 5 → parseFieldDescriptor (TX7 k).2.2.1 = some (tyX7 k) := by decide +kernel
def RX8 : String := "ForthHouse$Task"
def TX8 : u_T := fun k => match k with
  | 0 => ("ForthHouse$Task", "space", "LForthHouse$Space;", true)
  | 1 => ("ForthHouse$Task", "data", "[I", true)
  | 2 => ("ForthHouse$Task", "returns", "[I", true)
  | 3 => ("ForthHouse$Task", "loops", "[I", true)
  | 4 => ("ForthHouse$Task", "locals", "[I", true)
  | 5 => ("ForthHouse$Task", "frames", "[I", true)
  | 6 => ("ForthHouse$Task", "box", "[I", true)
  | 7 => ("ForthHouse$Task", "dataCount", "I", false)
  | 8 => ("ForthHouse$Task", "returnCount", "I", false)
  | 9 => ("ForthHouse$Task", "loopCount", "I", false)
  | 10 => ("ForthHouse$Task", "localCount", "I", false)
  | 11 => ("ForthHouse$Task", "frameCount", "I", false)
  | 12 => ("ForthHouse$Task", "boxCount", "I", false)
  | 13 => ("ForthHouse$Task", "place", "I", false)
  | 14 => ("ForthHouse$Task", "state", "I", false)
  | 15 => ("ForthHouse$Task", "code", "I", false)
  | 16 => ("ForthHouse$Task", "token", "I", false)
  | _ => ("ForthHouse$Task", "takes", "Z", false)
def tyX8 : Nat → FieldType := fun k => match k with
  | 0 => .object "ForthHouse$Space"
  | 1 => .array .int
  | 2 => .array .int
  | 3 => .array .int
  | 4 => .array .int
  | 5 => .array .int
  | 6 => .array .int
  | 7 => .int
  | 8 => .int
  | 9 => .int
  | 10 => .int
  | 11 => .int
  | 12 => .int
  | 13 => .int
  | 14 => .int
  | 15 => .int
  | 16 => .int
  | _ => .boolean
theorem nmX8 : ∀ a, a < 18 → ∀ b, b < 18 → a ≠ b → (TX8 a).2.1 ≠ (TX8 b).2.1 := by decide +kernel
theorem tyX8_ok : ∀ k, k < 18 → parseFieldDescriptor (TX8 k).2.2.1 = some (tyX8 k) := by decide +kernel
def RX9 : String := "ForthHouse$Texts"
def TX9 : u_T := fun k => match k with
  | 0 => ("ForthHouse$Texts", "space", "LForthHouse$Space;", true)
  | 1 => ("ForthHouse$Texts", "main", "[B", true)
  | 2 => ("ForthHouse$Texts", "blocks", "[B", true)
  | 3 => ("ForthHouse$Texts", "kinds", "[I", true)
  | 4 => ("ForthHouse$Texts", "places", "[I", true)
  | 5 => ("ForthHouse$Texts", "lengths", "[I", true)
  | 6 => ("ForthHouse$Texts", "waits", "[I", true)
  | 7 => ("ForthHouse$Texts", "read", "[B", true)
  | 8 => ("ForthHouse$Texts", "readLength", "I", false)
  | 9 => ("ForthHouse$Texts", "mainLength", "I", false)
  | 10 => ("ForthHouse$Texts", "nested", "I", false)
  | 11 => ("ForthHouse$Texts", "live", "Z", false)
  | 12 => ("ForthHouse$Texts", "source", "[B", false)
  | 13 => ("ForthHouse$Texts", "from", "I", false)
  | _ => ("ForthHouse$Texts", "length", "I", false)
def tyX9 : Nat → FieldType := fun k => match k with
  | 0 => .object "ForthHouse$Space"
  | 1 => .array .byte
  | 2 => .array .byte
  | 3 => .array .int
  | 4 => .array .int
  | 5 => .array .int
  | 6 => .array .int
  | 7 => .array .byte
  | 8 => .int
  | 9 => .int
  | 10 => .int
  | 11 => .boolean
  | 12 => .array .byte
  | 13 => .int
  | _ => .int
theorem nmX9 : ∀ a, a < 15 → ∀ b, b < 15 → a ≠ b → (TX9 a).2.1 ≠ (TX9 b).2.1 := by decide +kernel
theorem tyX9_ok : ∀ k, k < 15 → parseFieldDescriptor (TX9 k).2.2.1 = some (tyX9 k) := by decide +kernel
def RX10 : String := "ForthHouse$Words"
def TX10 : u_T := fun k => match k with
  | 0 => ("ForthHouse$Words", "kinds", "[B", true)
  | 1 => ("ForthHouse$Words", "flags", "[B", true)
  | 2 => ("ForthHouse$Words", "lists", "[B", true)
  | 3 => ("ForthHouse$Words", "values", "[I", true)
  | 4 => ("ForthHouse$Words", "sizes", "[I", true)
  | 5 => ("ForthHouse$Words", "does", "[I", true)
  | 6 => ("ForthHouse$Words", "nameLengths", "[B", true)
  | 7 => ("ForthHouse$Words", "names", "[B", true)
  | 8 => ("ForthHouse$Words", "effects", "[B", true)
  | 9 => ("ForthHouse$Words", "ins", "[I", true)
  | 10 => ("ForthHouse$Words", "outs", "[I", true)
  | 11 => ("ForthHouse$Words", "spots", "[I", true)
  | 12 => ("ForthHouse$Words", "total", "I", false)
  | _ => ("ForthHouse$Words", "latest", "I", false)
def tyX10 : Nat → FieldType := fun k => match k with
  | 0 => .array .byte
  | 1 => .array .byte
  | 2 => .array .byte
  | 3 => .array .int
  | 4 => .array .int
  | 5 => .array .int
  | 6 => .array .byte
  | 7 => .array .byte
  | 8 => .array .byte
  | 9 => .array .int
  | 10 => .array .int
  | 11 => .array .int
  | 12 => .int
  | _ => .int
theorem nmX10 : ∀ a, a < 14 → ∀ b, b < 14 → a ≠ b → (TX10 a).2.1 ≠ (TX10 b).2.1 := by decide +kernel
theorem tyX10_ok : ∀ k, k < 14 → parseFieldDescriptor (TX10 k).2.2.1 = some (tyX10 k) := by decide +kernel
def RX11 : String := "ForthHouse"
def TX11 : u_T := fun k => match k with
  | 0 => ("ForthHouse", "tape", "[B", true)
  | 1 => ("ForthHouse", "tapeLength", "I", false)
  | 2 => ("ForthHouse", "systems", "[LForthHouse$Forth;", true)
  | 3 => ("ForthHouse", "systemCount", "I", false)
  | 4 => ("ForthHouse", "images", "[LForthHouse$Forth;", true)
  | 5 => ("ForthHouse", "kept", "[Z", true)
  | _ => ("ForthHouse", "board", "LForthHouse$Chip;", true)
def tyX11 : Nat → FieldType := fun k => match k with
  | 0 => .array .byte
  | 1 => .int
  | 2 => .array (.object "ForthHouse$Forth")
  | 3 => .int
  | 4 => .array (.object "ForthHouse$Forth")
  | 5 => .array .boolean
  | _ => .object "ForthHouse$Chip"
theorem nmX11 : ∀ a, a < 7 → ∀ b, b < 7 → a ≠ b → (TX11 a).2.1 ≠ (TX11 b).2.1 := by decide +kernel
theorem tyX11_ok : ∀ k, k < 7 → parseFieldDescriptor (TX11 k).2.2.1 = some (tyX11 k) := by decide +kernel
def RX12 : String := "ForthHouseModel"
def TX12 : u_T := fun k => match k with
  | 0 => ("ForthHouseModel", "m", "[I", true)
  | 1 => ("ForthHouseModel", "tape", "[B", true)
  | 2 => ("ForthHouseModel", "taped", "I", false)
  | 3 => ("ForthHouseModel", "b", "I", false)
  | 4 => ("ForthHouseModel", "t", "I", false)
  | 5 => ("ForthHouseModel", "cell", "I", false)
  | 6 => ("ForthHouseModel", "code", "I", false)
  | 7 => ("ForthHouseModel", "places", "[I", true)
  | 8 => ("ForthHouseModel", "effects", "[I", true)
  | 9 => ("ForthHouseModel", "read", "[I", true)
  | 10 => ("ForthHouseModel", "readSize", "I", false)
  | 11 => ("ForthHouseModel", "left", "Z", false)
  | 12 => ("ForthHouseModel", "low", "J", false)
  | 13 => ("ForthHouseModel", "more", "J", false)
  | 14 => ("ForthHouseModel", "isDouble", "Z", false)
  | 15 => ("ForthHouseModel", "heights", "[I", true)
  | 16 => ("ForthHouseModel", "seen", "[I", true)
  | 17 => ("ForthHouseModel", "from", "I", false)
  | 18 => ("ForthHouseModel", "behind", "I", false)
  | 19 => ("ForthHouseModel", "verdict", "I", false)
  | 20 => ("ForthHouseModel", "place", "I", false)
  | 21 => ("ForthHouseModel", "least", "I", false)
  | 22 => ("ForthHouseModel", "given", "I", false)
  | 23 => ("ForthHouseModel", "exits", "Z", false)
  | 24 => ("ForthHouseModel", "itself", "Z", false)
  | 25 => ("ForthHouseModel", "led", "[Z", true)
  | 26 => ("ForthHouseModel", "chip", "[I", true)
  | 27 => ("ForthHouseModel", "chipSize", "I", false)
  | 28 => ("ForthHouseModel", "chipAt", "I", false)
  | 29 => ("ForthHouseModel", "chipCode", "I", false)
  | 30 => ("ForthHouseModel", "chipDone", "I", false)
  | 31 => ("ForthHouseModel", "chipEnded", "Z", false)
  | 32 => ("ForthHouseModel", "parts", "[I", true)
  | 33 => ("ForthHouseModel", "partAt", "[I", true)
  | _ => ("ForthHouseModel", "partMany", "I", false)
def tyX12 : Nat → FieldType := fun k => match k with
  | 0 => .array .int
  | 1 => .array .byte
  | 2 => .int
  | 3 => .int
  | 4 => .int
  | 5 => .int
  | 6 => .int
  | 7 => .array .int
  | 8 => .array .int
  | 9 => .array .int
  | 10 => .int
  | 11 => .boolean
  | 12 => .long
  | 13 => .long
  | 14 => .boolean
  | 15 => .array .int
  | 16 => .array .int
  | 17 => .int
  | 18 => .int
  | 19 => .int
  | 20 => .int
  | 21 => .int
  | 22 => .int
  | 23 => .boolean
  | 24 => .boolean
  | 25 => .array .boolean
  | 26 => .array .int
  | 27 => .int
  | 28 => .int
  | 29 => .int
  | 30 => .int
  | 31 => .boolean
  | 32 => .array .int
  | 33 => .array .int
  | _ => .int
theorem nmX12 : ∀ a, a < 35 → ∀ b, b < 35 → a ≠ b → (TX12 a).2.1 ≠ (TX12 b).2.1 := by decide +kernel
theorem tyX12_ok : ∀ k, k < 35 → parseFieldDescriptor (TX12 k).2.2.1 = some (tyX12 k) := by decide +kernel
def RJx145de : String := "java/io/Serializable"
def RJx9f9b0 : String := "java/lang/CharSequence"
def RJxb160c : String := "java/lang/Comparable"
def RJ9 : String := "java/lang/Math"
def RJ0 : String := "java/lang/String"
def RJ1 : String := "java/lang/StringLatin1"
def RJ2 : String := "java/lang/StringUTF16"
def RJ10 : String := "java/lang/System"
def RJxfd54e : String := "java/lang/constant/Constable"
def RJx3cf43 : String := "java/lang/constant/ConstantDesc"
def RJ7 : String := "java/util/Arrays"
def RJ3 : String := "jdk/internal/util/Preconditions"
def RL : String := "ForthHouseLaw"
abbrev cX0_init : ByteArray := prog_2_method_1_code
abbrev cX0_holds : ByteArray := prog_2_method_2_code
abbrev cX0_make : ByteArray := prog_2_method_3_code
abbrev cX0_meet : ByteArray := prog_2_method_4_code
abbrev cX0_plan : ByteArray := prog_2_method_5_code
abbrev cX0_width : ByteArray := prog_2_method_6_code
abbrev cX0_isOnChip : ByteArray := prog_2_method_7_code
abbrev cX0_layDefinition : ByteArray := prog_2_method_8_code
abbrev cX0_layWord : ByteArray := prog_2_method_9_code
abbrev cX0_layCell : ByteArray := prog_2_method_10_code
abbrev cX0_lay : ByteArray := prog_2_method_11_code
abbrev cX0_receive : ByteArray := prog_2_method_12_code
abbrev cX0_run : ByteArray := prog_2_method_13_code
abbrev cX0_step : ByteArray := prog_2_method_14_code
abbrev cX0_end : ByteArray := prog_2_method_15_code
abbrev cX0_tell : ByteArray := prog_2_method_16_code
abbrev cX1_init : ByteArray := prog_3_method_1_code
abbrev cX1_begin : ByteArray := prog_3_method_2_code
abbrev cX1_become : ByteArray := prog_3_method_3_code
abbrev cX1_isLike : ByteArray := prog_3_method_4_code
abbrev cX1_figure : ByteArray := prog_3_method_5_code
abbrev cX1_tokenOf : ByteArray := prog_3_method_6_code
abbrev cX1_othersEnded : ByteArray := prog_3_method_7_code
abbrev cX1_isAtRest : ByteArray := prog_3_method_8_code
abbrev cX1_hasText : ByteArray := prog_3_method_9_code
abbrev cX1_hand : ByteArray := prog_3_method_10_code
abbrev cX1_run : ByteArray := prog_3_method_11_code
abbrev cX1_step : ByteArray := prog_3_method_12_code
abbrev cX1_ask : ByteArray := prog_3_method_13_code
abbrev cX1_beginTask : ByteArray := prog_3_method_14_code
abbrev cX1_take : ByteArray := prog_3_method_15_code
abbrev cX1_takeFromBox : ByteArray := prog_3_method_16_code
abbrev cX1_endCatch : ByteArray := prog_3_method_17_code
abbrev cX1_itemStep : ByteArray := prog_3_method_18_code
abbrev cX1_does : ByteArray := prog_3_method_19_code
abbrev cX1_abort : ByteArray := prog_3_method_20_code
abbrev cX1_putOut : ByteArray := prog_3_method_21_code
abbrev cX1_textStep : ByteArray := prog_3_method_22_code
abbrev cX1_endText : ByteArray := prog_3_method_23_code
abbrev cX1_takeNumber : ByteArray := prog_3_method_24_code
abbrev cX1_digitOf : ByteArray := prog_3_method_25_code
abbrev cX1_leave : ByteArray := prog_3_method_26_code
abbrev cX1_unwind : ByteArray := prog_3_method_27_code
abbrev cX1_throwOut : ByteArray := prog_3_method_28_code
abbrev cX1_endTask : ByteArray := prog_3_method_29_code
abbrev cX1_handOn : ByteArray := prog_3_method_30_code
abbrev cX1_perform : ByteArray := prog_3_method_31_code
abbrev cX1_offer : ByteArray := prog_3_method_32_code
abbrev cX1_doCreated : ByteArray := prog_3_method_33_code
abbrev cX1_goBack : ByteArray := prog_3_method_34_code
abbrev cX1_printing : ByteArray := prog_3_method_35_code
abbrev cX1_print : ByteArray := prog_3_method_36_code
abbrev cX1_sharp : ByteArray := prog_3_method_37_code
abbrev cX1_defining : ByteArray := prog_3_method_38_code
abbrev cX1_readFor : ByteArray := prog_3_method_39_code
abbrev cX1_beginDefinition : ByteArray := prog_3_method_40_code
abbrev cX1_endDefinition : ByteArray := prog_3_method_41_code
abbrev cX1_finish : ByteArray := prog_3_method_42_code
abbrev cX1_beginQuotation : ByteArray := prog_3_method_43_code
abbrev cX1_endQuotation : ByteArray := prog_3_method_44_code
abbrev cX1_addDoes : ByteArray := prog_3_method_45_code
abbrev cX1_makeValue : ByteArray := prog_3_method_46_code
abbrev cX1_makeWord : ByteArray := prog_3_method_47_code
abbrev cX1_makeImmediate : ByteArray := prog_3_method_48_code
abbrev cX1_tick : ByteArray := prog_3_method_49_code
abbrev cX1_setNamed : ByteArray := prog_3_method_50_code
abbrev cX1_assign : ByteArray := prog_3_method_51_code
abbrev cX1_string : ByteArray := prog_3_method_52_code
abbrev cX1_readLocals : ByteArray := prog_3_method_53_code
abbrev cX1_addLocals : ByteArray := prog_3_method_54_code
abbrev cX1_doToken : ByteArray := prog_3_method_55_code
abbrev cX1_evaluateText : ByteArray := prog_3_method_56_code
abbrev cX1_nest : ByteArray := prog_3_method_57_code
abbrev cX1_tasking : ByteArray := prog_3_method_58_code
abbrev cX1_beginCatch : ByteArray := prog_3_method_59_code
abbrev cX1_makeTask : ByteArray := prog_3_method_60_code
abbrev cX1_send : ByteArray := prog_3_method_61_code
abbrev cX1_receive : ByteArray := prog_3_method_62_code
abbrev cX1_load : ByteArray := prog_3_method_63_code
abbrev cX2_init : ByteArray := prog_4_method_1_code
abbrev cX2_become : ByteArray := prog_4_method_2_code
abbrev cX2_isLike : ByteArray := prog_4_method_3_code
abbrev cX2_holds : ByteArray := prog_4_method_4_code
abbrev cX2_hasRoom : ByteArray := prog_4_method_5_code
abbrev cX2_add : ByteArray := prog_4_method_6_code
abbrev cX2_point : ByteArray := prog_4_method_7_code
abbrev cX2_isJump : ByteArray := prog_4_method_8_code
abbrev cX2_isWord : ByteArray := prog_4_method_9_code
abbrev cX2_isKind : ByteArray := prog_4_method_10_code
abbrev cX3_init : ByteArray := prog_5_method_1_code
abbrev cX3_work : ByteArray := prog_5_method_2_code
abbrev cX3_pass : ByteArray := prog_5_method_3_code
abbrev cX3_leastWaiting : ByteArray := prog_5_method_4_code
abbrev cX3_stop : ByteArray := prog_5_method_5_code
abbrev cX3_arrive : ByteArray := prog_5_method_6_code
abbrev cX3_take : ByteArray := prog_5_method_7_code
abbrev cX3_goOn : ByteArray := prog_5_method_8_code
abbrev cX3_leaveAt : ByteArray := prog_5_method_9_code
abbrev cX3_look : ByteArray := prog_5_method_10_code
abbrev cX3_lookLoop : ByteArray := prog_5_method_11_code
abbrev cX3_lookWord : ByteArray := prog_5_method_12_code
abbrev cX3_lookBuiltIn : ByteArray := prog_5_method_13_code
abbrev cX3_mayLean : ByteArray := prog_5_method_14_code
abbrev cX3_makeLean : ByteArray := prog_5_method_15_code
abbrev cX3_leanOnce : ByteArray := prog_5_method_16_code
abbrev cX3_markTargets : ByteArray := prog_5_method_17_code
abbrev cX3_goes : ByteArray := prog_5_method_18_code
abbrev cX3_reckonsOne : ByteArray := prog_5_method_19_code
abbrev cX3_reckonsTwo : ByteArray := prog_5_method_20_code
abbrev cX3_reckoned : ByteArray := prog_5_method_21_code
abbrev cX3_remove : ByteArray := prog_5_method_22_code
abbrev cX4_init : ByteArray := prog_6_method_1_code
abbrev cX4_become : ByteArray := prog_6_method_2_code
abbrev cX4_isLike : ByteArray := prog_6_method_3_code
abbrev cX4_only : ByteArray := prog_6_method_4_code
abbrev cX4_search : ByteArray := prog_6_method_5_code
abbrev cX4_previous : ByteArray := prog_6_method_6_code
abbrev cX4_define : ByteArray := prog_6_method_7_code
abbrev cX4_mark : ByteArray := prog_6_method_8_code
abbrev cX4_goBack : ByteArray := prog_6_method_9_code
abbrev cX5_init : ByteArray := prog_7_method_1_code
abbrev cX5_become : ByteArray := prog_7_method_2_code
abbrev cX5_isLike : ByteArray := prog_7_method_3_code
abbrev cX5_begin : ByteArray := prog_7_method_4_code
abbrev cX5_forget : ByteArray := prog_7_method_5_code
abbrev cX5_innermost : ByteArray := prog_7_method_6_code
abbrev cX5_base : ByteArray := prog_7_method_7_code
abbrev cX5_isLevel : ByteArray := prog_7_method_8_code
abbrev cX5_isMarked : ByteArray := prog_7_method_9_code
abbrev cX5_mark : ByteArray := prog_7_method_10_code
abbrev cX5_localOf : ByteArray := prog_7_method_11_code
abbrev cX5_nameLocal : ByteArray := prog_7_method_12_code
abbrev cX5_countLocals : ByteArray := prog_7_method_13_code
abbrev cX5_kindAt : ByteArray := prog_7_method_14_code
abbrev cX5_placeAt : ByteArray := prog_7_method_15_code
abbrev cX5_setPair : ByteArray := prog_7_method_16_code
abbrev cX5_control : ByteArray := prog_7_method_17_code
abbrev cX5_pair : ByteArray := prog_7_method_18_code
abbrev cX5_branch : ByteArray := prog_7_method_19_code
abbrev cX5_then : ByteArray := prog_7_method_20_code
abbrev cX5_otherwise : ByteArray := prog_7_method_21_code
abbrev cX5_back : ByteArray := prog_7_method_22_code
abbrev cX5_during : ByteArray := prog_7_method_23_code
abbrev cX5_repeat : ByteArray := prog_7_method_24_code
abbrev cX5_endLoop : ByteArray := prog_7_method_25_code
abbrev cX5_leave : ByteArray := prog_7_method_26_code
abbrev cX5_endCase : ByteArray := prog_7_method_27_code
abbrev cX6_init : ByteArray := prog_8_method_1_code
abbrev cX6_become : ByteArray := prog_8_method_2_code
abbrev cX6_byteOf : ByteArray := prog_8_method_3_code
abbrev cX6_grow : ByteArray := prog_8_method_4_code
abbrev cX6_emit : ByteArray := prog_8_method_5_code
abbrev cX6_blanks : ByteArray := prog_8_method_6_code
abbrev cX6_write : ByteArray := prog_8_method_7_code
abbrev cX6_print : ByteArray := prog_8_method_8_code
abbrev cX6_digit : ByteArray := prog_8_method_9_code
abbrev cX6_keepAbove : ByteArray := prog_8_method_10_code
abbrev cX6_judgeAbove : ByteArray := prog_8_method_11_code
abbrev cX7_init : ByteArray := prog_9_method_1_code
abbrev cX7_become : ByteArray := prog_9_method_2_code
abbrev cX7_isLike : ByteArray := prog_9_method_3_code
abbrev cX7_isFloored : ByteArray := prog_9_method_4_code
abbrev cX7_isCased : ByteArray := prog_9_method_5_code
abbrev cX7_bits : ByteArray := prog_9_method_6_code
abbrev cX7_cut : ByteArray := prog_9_method_7_code
abbrev cX7_bare : ByteArray := prog_9_method_8_code
abbrev cX7_holds : ByteArray := prog_9_method_9_code
abbrev cX7_byteAt : ByteArray := prog_9_method_10_code
abbrev cX7_cellAt : ByteArray := prog_9_method_11_code
abbrev cX7_layCell : ByteArray := prog_9_method_12_code
abbrev cX7_hasRoom : ByteArray := prog_9_method_13_code
abbrev cX7_moveHere : ByteArray := prog_9_method_14_code
abbrev cX7_aligned : ByteArray := prog_9_method_15_code
abbrev cX7_base : ByteArray := prog_9_method_16_code
abbrev cX7_hold : ByteArray := prog_9_method_17_code
abbrev cX8_init : ByteArray := prog_10_method_1_code
abbrev cX8_become : ByteArray := prog_10_method_2_code
abbrev cX8_isLike : ByteArray := prog_10_method_3_code
abbrev cX8_clearRows : ByteArray := prog_10_method_4_code
abbrev cX8_lengthOf : ByteArray := prog_10_method_5_code
abbrev cX8_cellOf : ByteArray := prog_10_method_6_code
abbrev cX8_lack : ByteArray := prog_10_method_7_code
abbrev cX8_push : ByteArray := prog_10_method_8_code
abbrev cX8_pop : ByteArray := prog_10_method_9_code
abbrev cX8_peek : ByteArray := prog_10_method_10_code
abbrev cX8_give : ByteArray := prog_10_method_11_code
abbrev cX8_flag : ByteArray := prog_10_method_12_code
abbrev cX8_giveTwin : ByteArray := prog_10_method_13_code
abbrev cX8_popTwin : ByteArray := prog_10_method_14_code
abbrev cX8_popBareTwin : ByteArray := prog_10_method_15_code
abbrev cX8_bringUp : ByteArray := prog_10_method_16_code
abbrev cX8_base : ByteArray := prog_10_method_17_code
abbrev cX8_frameKind : ByteArray := prog_10_method_18_code
abbrev cX8_open : ByteArray := prog_10_method_19_code
abbrev cX8_enter : ByteArray := prog_10_method_20_code
abbrev cX8_close : ByteArray := prog_10_method_21_code
abbrev cX8_exit : ByteArray := prog_10_method_22_code
abbrev cX8_latestCatch : ByteArray := prog_10_method_23_code
abbrev cX8_fallTo : ByteArray := prog_10_method_24_code
abbrev cX8_core : ByteArray := prog_10_method_25_code
abbrev cX8_shuffle : ByteArray := prog_10_method_26_code
abbrev cX8_duplicate : ByteArray := prog_10_method_27_code
abbrev cX8_reachDown : ByteArray := prog_10_method_28_code
abbrev cX8_overReturn : ByteArray := prog_10_method_29_code
abbrev cX8_toReturn : ByteArray := prog_10_method_30_code
abbrev cX8_reckon : ByteArray := prog_10_method_31_code
abbrev cX8_twinWord : ByteArray := prog_10_method_32_code
abbrev cX8_divide : ByteArray := prog_10_method_33_code
abbrev cX8_divideBare : ByteArray := prog_10_method_34_code
abbrev cX8_divideTwin : ByteArray := prog_10_method_35_code
abbrev cX8_compare : ByteArray := prog_10_method_36_code
abbrev cX8_shift : ByteArray := prog_10_method_37_code
abbrev cX8_within : ByteArray := prog_10_method_38_code
abbrev cX8_memory : ByteArray := prog_10_method_39_code
abbrev cX8_lay : ByteArray := prog_10_method_40_code
abbrev cX8_fill : ByteArray := prog_10_method_41_code
abbrev cX8_move : ByteArray := prog_10_method_42_code
abbrev cX8_reach : ByteArray := prog_10_method_43_code
abbrev cX8_loopWord : ByteArray := prog_10_method_44_code
abbrev cX8_flow : ByteArray := prog_10_method_45_code
abbrev cX8_beginLoop : ByteArray := prog_10_method_46_code
abbrev cX8_loop : ByteArray := prog_10_method_47_code
abbrev cX8_of : ByteArray := prog_10_method_48_code
abbrev cX8_enterLocals : ByteArray := prog_10_method_49_code
abbrev cX8_local : ByteArray := prog_10_method_50_code
abbrev cX9_init : ByteArray := prog_11_method_1_code
abbrev cX9_become : ByteArray := prog_11_method_2_code
abbrev cX9_isLike : ByteArray := prog_11_method_3_code
abbrev cX9_settle : ByteArray := prog_11_method_4_code
abbrev cX9_start : ByteArray := prog_11_method_5_code
abbrev cX9_nest : ByteArray := prog_11_method_6_code
abbrev cX9_fallTo : ByteArray := prog_11_method_7_code
abbrev cX9_inBlock : ByteArray := prog_11_method_8_code
abbrev cX9_readWord : ByteArray := prog_11_method_9_code
abbrev cX9_isBlank : ByteArray := prog_11_method_10_code
abbrev cX9_readUpTo : ByteArray := prog_11_method_11_code
abbrev cX9_skipLine : ByteArray := prog_11_method_12_code
abbrev cX9_isRead : ByteArray := prog_11_method_13_code
abbrev cX10_init : ByteArray := prog_12_method_1_code
abbrev cX10_addLine : ByteArray := prog_12_method_2_code
abbrev cX10_become : ByteArray := prog_12_method_3_code
abbrev cX10_isLike : ByteArray := prog_12_method_4_code
abbrev cX10_holds : ByteArray := prog_12_method_5_code
abbrev cX10_isFull : ByteArray := prog_12_method_6_code
abbrev cX10_has : ByteArray := prog_12_method_7_code
abbrev cX10_isKind : ByteArray := prog_12_method_8_code
abbrev cX10_isEnded : ByteArray := prog_12_method_9_code
abbrev cX10_set : ByteArray := prog_12_method_10_code
abbrev cX10_make : ByteArray := prog_12_method_11_code
abbrev cX10_end : ByteArray := prog_12_method_12_code
abbrev cX10_newest : ByteArray := prog_12_method_13_code
abbrev cX10_tell : ByteArray := prog_12_method_14_code
abbrev cX10_letter : ByteArray := prog_12_method_15_code
abbrev cX11_init : ByteArray := prog_1_method_1_code
abbrev cX11_type : ByteArray := prog_1_method_2_code
abbrev cX11_wipe : ByteArray := prog_1_method_3_code
abbrev cX11_system : ByteArray := prog_1_method_4_code
abbrev cX11_evaluate : ByteArray := prog_1_method_5_code
abbrev cX11_go : ByteArray := prog_1_method_6_code
abbrev cX11_out : ByteArray := prog_1_method_7_code
abbrev cX11_count : ByteArray := prog_1_method_8_code
abbrev cX11_thrown : ByteArray := prog_1_method_9_code
abbrev cX11_depth : ByteArray := prog_1_method_10_code
abbrev cX11_cell : ByteArray := prog_1_method_11_code
abbrev cX11_task : ByteArray := prog_1_method_12_code
abbrev cX11_fetch : ByteArray := prog_1_method_13_code
abbrev cX11_find : ByteArray := prog_1_method_14_code
abbrev cX11_word : ByteArray := prog_1_method_15_code
abbrev cX11_name : ByteArray := prog_1_method_16_code
abbrev cX11_item : ByteArray := prog_1_method_17_code
abbrev cX11_effect : ByteArray := prog_1_method_18_code
abbrev cX11_effectOf : ByteArray := prog_1_method_19_code
abbrev cX11_lean : ByteArray := prog_1_method_20_code
abbrev cX11_chip : ByteArray := prog_1_method_21_code
abbrev cX11_chipWord : ByteArray := prog_1_method_22_code
abbrev cX11_chipPut : ByteArray := prog_1_method_23_code
abbrev cX11_chipGo : ByteArray := prog_1_method_24_code
abbrev cX11_chipTold : ByteArray := prog_1_method_25_code
abbrev cX11_chipCell : ByteArray := prog_1_method_26_code
abbrev cX11_chipByte : ByteArray := prog_1_method_27_code
abbrev cX11_put : ByteArray := prog_1_method_28_code
abbrev cX11_keep : ByteArray := prog_1_method_29_code
abbrev cX11_again : ByteArray := prog_1_method_30_code
abbrev cX11_same : ByteArray := prog_1_method_31_code
abbrev cX11_systemOf : ByteArray := prog_1_method_32_code
abbrev cX11_taskOf : ByteArray := prog_1_method_33_code
abbrev cX11_stepsGood : ByteArray := prog_1_method_34_code
abbrev cX11_sameCells : ByteArray := prog_1_method_35_code
abbrev cX11_sameBytes : ByteArray := prog_1_method_36_code
abbrev cX11_copyCells : ByteArray := prog_1_method_37_code
abbrev cX11_copyBytes : ByteArray := prog_1_method_38_code
abbrev cX11_spelled : ByteArray := prog_1_method_39_code
abbrev cX11_quotient : ByteArray := prog_1_method_40_code
abbrev cX12_bits : ByteArray := prog_14_method_1_code
abbrev cX12_mask : ByteArray := prog_14_method_2_code
abbrev cX12_wide : ByteArray := prog_14_method_3_code
abbrev cX12_round : ByteArray := prog_14_method_4_code
abbrev cX12_lies : ByteArray := prog_14_method_5_code
abbrev cX12_reach : ByteArray := prog_14_method_6_code
abbrev cX12_byteAt : ByteArray := prog_14_method_7_code
abbrev cX12_putByte : ByteArray := prog_14_method_8_code
abbrev cX12_high : ByteArray := prog_14_method_9_code
abbrev cX12_cellAt : ByteArray := prog_14_method_10_code
abbrev cX12_putCell : ByteArray := prog_14_method_11_code
abbrev cX12_depth : ByteArray := prog_14_method_12_code
abbrev cX12_may : ByteArray := prog_14_method_13_code
abbrev cX12_pop : ByteArray := prog_14_method_14_code
abbrev cX12_push : ByteArray := prog_14_method_15_code
abbrev cX12_top : ByteArray := prog_14_method_16_code
abbrev cX12_pushDouble : ByteArray := prog_14_method_17_code
abbrev cX12_popDouble : ByteArray := prog_14_method_18_code
abbrev cX12_frames : ByteArray := prog_14_method_19_code
abbrev cX12_frameAt : ByteArray := prog_14_method_20_code
abbrev cX12_base : ByteArray := prog_14_method_21_code
abbrev cX12_newFrame : ByteArray := prog_14_method_22_code
abbrev cX12_put : ByteArray := prog_14_method_23_code
abbrev cX12_textFrame : ByteArray := prog_14_method_24_code
abbrev cX12_nested : ByteArray := prog_14_method_25_code
abbrev cX12_textSize : ByteArray := prog_14_method_26_code
abbrev cX12_textByte : ByteArray := prog_14_method_27_code
abbrev cX12_in : ByteArray := prog_14_method_28_code
abbrev cX12_isBlank : ByteArray := prog_14_method_29_code
abbrev cX12_word : ByteArray := prog_14_method_30_code
abbrev cX12_upTo : ByteArray := prog_14_method_31_code
abbrev cX12_wordAt : ByteArray := prog_14_method_32_code
abbrev cX12_itemAt : ByteArray := prog_14_method_33_code
abbrev cX12_isToken : ByteArray := prog_14_method_34_code
abbrev cX12_lower : ByteArray := prog_14_method_35_code
abbrev cX12_isName : ByteArray := prog_14_method_36_code
abbrev cX12_search : ByteArray := prog_14_method_37_code
abbrev cX12_newWord : ByteArray := prog_14_method_38_code
abbrev cX12_newName : ByteArray := prog_14_method_39_code
abbrev cX12_item : ByteArray := prog_14_method_40_code
abbrev cX12_items : ByteArray := prog_14_method_41_code
abbrev cX12_here : ByteArray := prog_14_method_42_code
abbrev cX12_lead : ByteArray := prog_14_method_43_code
abbrev cX12_def : ByteArray := prog_14_method_44_code
abbrev cX12_beginDef : ByteArray := prog_14_method_45_code
abbrev cX12_endDef : ByteArray := prog_14_method_46_code
abbrev cX12_pair : ByteArray := prog_14_method_47_code
abbrev cX12_topPair : ByteArray := prog_14_method_48_code
abbrev cX12_hasPair : ByteArray := prog_14_method_49_code
abbrev cX12_numberBase : ByteArray := prog_14_method_50_code
abbrev cX12_flag : ByteArray := prog_14_method_51_code
abbrev cX12_stack : ByteArray := prog_14_method_52_code
abbrev cX12_roll : ByteArray := prog_14_method_53_code
abbrev cX12_pushReturn : ByteArray := prog_14_method_54_code
abbrev cX12_popReturn : ByteArray := prog_14_method_55_code
abbrev cX12_hasReturn : ByteArray := prog_14_method_56_code
abbrev cX12_returns : ByteArray := prog_14_method_57_code
abbrev cX12_floorOf : ByteArray := prog_14_method_58_code
abbrev cX12_quotient : ByteArray := prog_14_method_59_code
abbrev cX12_divided : ByteArray := prog_14_method_60_code
abbrev cX12_unsignedDivided : ByteArray := prog_14_method_61_code
abbrev cX12_signedDivided : ByteArray := prog_14_method_62_code
abbrev cX12_reckon : ByteArray := prog_14_method_63_code
abbrev cX12_compare : ByteArray := prog_14_method_64_code
abbrev cX12_grow : ByteArray := prog_14_method_65_code
abbrev cX12_up : ByteArray := prog_14_method_66_code
abbrev cX12_storing : ByteArray := prog_14_method_67_code
abbrev cX12_rows : ByteArray := prog_14_method_68_code
abbrev cX12_hold : ByteArray := prog_14_method_69_code
abbrev cX12_letter : ByteArray := prog_14_method_70_code
abbrev cX12_digits : ByteArray := prog_14_method_71_code
abbrev cX12_print : ByteArray := prog_14_method_72_code
abbrev cX12_type : ByteArray := prog_14_method_73_code
abbrev cX12_spaces : ByteArray := prog_14_method_74_code
abbrev cX12_printing : ByteArray := prog_14_method_75_code
abbrev cX12_plain : ByteArray := prog_14_method_76_code
abbrev cX12_layString : ByteArray := prog_14_method_77_code
abbrev cX12_literal : ByteArray := prog_14_method_78_code
abbrev cX12_string : ByteArray := prog_14_method_79_code
abbrev cX12_comment : ByteArray := prog_14_method_80_code
abbrev cX12_named : ByteArray := prog_14_method_81_code
abbrev cX12_local : ByteArray := prog_14_method_82_code
abbrev cX12_is : ByteArray := prog_14_method_83_code
abbrev cX12_locals : ByteArray := prog_14_method_84_code
abbrev cX12_freeMark : ByteArray := prog_14_method_85_code
abbrev cX12_marker : ByteArray := prog_14_method_86_code
abbrev cX12_mark : ByteArray := prog_14_method_87_code
abbrev cX12_makes : ByteArray := prog_14_method_88_code
abbrev cX12_assign : ByteArray := prog_14_method_89_code
abbrev cX12_putValue : ByteArray := prog_14_method_90_code
abbrev cX12_postpone : ByteArray := prog_14_method_91_code
abbrev cX12_ends : ByteArray := prog_14_method_92_code
abbrev cX12_compiles : ByteArray := prog_14_method_93_code
abbrev cX12_drops : ByteArray := prog_14_method_94_code
abbrev cX12_origin : ByteArray := prog_14_method_95_code
abbrev cX12_then : ByteArray := prog_14_method_96_code
abbrev cX12_swapPairs : ByteArray := prog_14_method_97_code
abbrev cX12_back : ByteArray := prog_14_method_98_code
abbrev cX12_settle : ByteArray := prog_14_method_99_code
abbrev cX12_loopEnds : ByteArray := prog_14_method_100_code
abbrev cX12_innermost : ByteArray := prog_14_method_101_code
abbrev cX12_control : ByteArray := prog_14_method_102_code
abbrev cX12_endCase : ByteArray := prog_14_method_103_code
abbrev cX12_does : ByteArray := prog_14_method_104_code
abbrev cX12_enter : ByteArray := prog_14_method_105_code
abbrev cX12_isCompiling : ByteArray := prog_14_method_106_code
abbrev cX12_isOnly : ByteArray := prog_14_method_107_code
abbrev cX12_builtIn : ByteArray := prog_14_method_108_code
abbrev cX12_asks : ByteArray := prog_14_method_109_code
abbrev cX12_nest : ByteArray := prog_14_method_110_code
abbrev cX12_open : ByteArray := prog_14_method_111_code
abbrev cX12_loopAt : ByteArray := prog_14_method_112_code
abbrev cX12_exit : ByteArray := prog_14_method_113_code
abbrev cX12_loops : ByteArray := prog_14_method_114_code
abbrev cX12_beginLoop : ByteArray := prog_14_method_115_code
abbrev cX12_goOn : ByteArray := prog_14_method_116_code
abbrev cX12_runItem : ByteArray := prog_14_method_117_code
abbrev cX12_doItem : ByteArray := prog_14_method_118_code
abbrev cX12_isLocal : ByteArray := prog_14_method_119_code
abbrev cX12_doLocal : ByteArray := prog_14_method_120_code
abbrev cX12_orders : ByteArray := prog_14_method_121_code
abbrev cX12_taskAt : ByteArray := prog_14_method_122_code
abbrev cX12_passes : ByteArray := prog_14_method_123_code
abbrev cX12_emptyRows : ByteArray := prog_14_method_124_code
abbrev cX12_taskEnds : ByteArray := prog_14_method_125_code
abbrev cX12_tasks : ByteArray := prog_14_method_126_code
abbrev cX12_receive : ByteArray := prog_14_method_127_code
abbrev cX12_takeBox : ByteArray := prog_14_method_128_code
abbrev cX12_tests : ByteArray := prog_14_method_129_code
abbrev cX12_thrown : ByteArray := prog_14_method_130_code
abbrev cX12_restore : ByteArray := prog_14_method_131_code
abbrev cX12_outOf : ByteArray := prog_14_method_132_code
abbrev cX12_digit : ByteArray := prog_14_method_133_code
abbrev cX12_isNumber : ByteArray := prog_14_method_134_code
abbrev cX12_interpret : ByteArray := prog_14_method_135_code
abbrev cX12_textEnds : ByteArray := prog_14_method_136_code
abbrev cX12_step : ByteArray := prog_14_method_137_code
abbrev cX12_look : ByteArray := prog_14_method_138_code
abbrev cX12_steps : ByteArray := prog_14_method_139_code
abbrev cX12_conflict : ByteArray := prog_14_method_140_code
abbrev cX12_come : ByteArray := prog_14_method_141_code
abbrev cX12_goThrough : ByteArray := prog_14_method_142_code
abbrev cX12_taking : ByteArray := prog_14_method_143_code
abbrev cX12_ending : ByteArray := prog_14_method_144_code
abbrev cX12_visit : ByteArray := prog_14_method_145_code
abbrev cX12_comeToo : ByteArray := prog_14_method_146_code
abbrev cX12_visitWord : ByteArray := prog_14_method_147_code
abbrev cX12_visitBuiltIn : ByteArray := prog_14_method_148_code
abbrev cX12_effectOf : ByteArray := prog_14_method_149_code
abbrev cX12_laysLed : ByteArray := prog_14_method_150_code
abbrev cX12_isLed : ByteArray := prog_14_method_151_code
abbrev cX12_fold : ByteArray := prog_14_method_153_code
abbrev cX12_isFolding : ByteArray := prog_14_method_154_code
abbrev cX12_isTurning : ByteArray := prog_14_method_155_code
abbrev cX12_drop : ByteArray := prog_14_method_156_code
abbrev cX12_leanAt : ByteArray := prog_14_method_157_code
abbrev cX12_partOf : ByteArray := prog_14_method_158_code
abbrev cX12_chipWords : ByteArray := prog_14_method_159_code
abbrev cX12_measures : ByteArray := prog_14_method_160_code
abbrev cX12_lays : ByteArray := prog_14_method_161_code
abbrev cX12_chipStep : ByteArray := prog_14_method_162_code
abbrev cX12_chipExit : ByteArray := prog_14_method_163_code
abbrev cX12_init : ByteArray := prog_14_method_164_code
abbrev cX12_isIn : ByteArray := prog_14_method_165_code
abbrev cX12_isSystem : ByteArray := prog_14_method_166_code
abbrev cX12_type_ : ByteArray := prog_14_method_167_code
abbrev cX12_wipe : ByteArray := prog_14_method_168_code
abbrev cX12_copyTape : ByteArray := prog_14_method_169_code
abbrev cX12_systems : ByteArray := prog_14_method_170_code
abbrev cX12_system : ByteArray := prog_14_method_171_code
abbrev cX12_evaluate : ByteArray := prog_14_method_172_code
abbrev cX12_go : ByteArray := prog_14_method_173_code
abbrev cX12_out : ByteArray := prog_14_method_174_code
abbrev cX12_count : ByteArray := prog_14_method_175_code
abbrev cX12_thrown_ : ByteArray := prog_14_method_176_code
abbrev cX12_depth_ : ByteArray := prog_14_method_177_code
abbrev cX12_cell : ByteArray := prog_14_method_178_code
abbrev cX12_task : ByteArray := prog_14_method_179_code
abbrev cX12_fetch : ByteArray := prog_14_method_180_code
abbrev cX12_find : ByteArray := prog_14_method_181_code
abbrev cX12_isOf : ByteArray := prog_14_method_182_code
abbrev cX12_word_ : ByteArray := prog_14_method_183_code
abbrev cX12_name : ByteArray := prog_14_method_184_code
abbrev cX12_item_ : ByteArray := prog_14_method_185_code
abbrev cX12_isEnded : ByteArray := prog_14_method_186_code
abbrev cX12_effect : ByteArray := prog_14_method_187_code
abbrev cX12_effectOf_ : ByteArray := prog_14_method_188_code
abbrev cX12_lean : ByteArray := prog_14_method_189_code
abbrev cX12_chip : ByteArray := prog_14_method_190_code
abbrev cX12_chipWord : ByteArray := prog_14_method_191_code
abbrev cX12_lookChip : ByteArray := prog_14_method_192_code
abbrev cX12_chipPut : ByteArray := prog_14_method_193_code
abbrev cX12_chipGo : ByteArray := prog_14_method_194_code
abbrev cX12_chipTold : ByteArray := prog_14_method_195_code
abbrev cX12_chipCell : ByteArray := prog_14_method_196_code
abbrev cX12_chipByte : ByteArray := prog_14_method_197_code
abbrev cX12_put_ : ByteArray := prog_14_method_198_code
abbrev cX12_copy : ByteArray := prog_14_method_199_code
abbrev cX12_keep : ByteArray := prog_14_method_200_code
abbrev cX12_again : ByteArray := prog_14_method_201_code
abbrev cX12_rowsAlike : ByteArray := prog_14_method_202_code
abbrev cX12_same : ByteArray := prog_14_method_203_code
abbrev cX12_tasksAlike : ByteArray := prog_14_method_204_code
abbrev cJ9_floorDiv_f86c9 : ByteArray := prog_15_method_49_code
abbrev cJ9_abs_067f4 : ByteArray := prog_15_method_61_code
abbrev cJ9_max_7cf53 : ByteArray := prog_15_method_65_code
abbrev cJ9_min_7cf53 : ByteArray := prog_15_method_69_code
abbrev cJ9_min_f86c9 : ByteArray := prog_15_method_70_code
abbrev cJ0_length_8abf5 : ByteArray := prog_16_method_54_code
abbrev cJ0_charAt_5068e : ByteArray := prog_16_method_56_code
abbrev cJ0_coder_7d493 : ByteArray := prog_16_method_152_code
abbrev cJ0_isLatin1_aae02 : ByteArray := prog_16_method_154_code
abbrev cJ0_checkIndex_df160 : ByteArray := prog_16_method_155_code
abbrev cJ1_charAt_3b067 : ByteArray := prog_17_method_2_code
abbrev cJ2_getChar_3b067 : ByteArray := prog_18_method_5_code
abbrev cJ2_length_9d52b : ByteArray := prog_18_method_6_code
abbrev cJ2_charAt_3b067 : ByteArray := prog_18_method_83_code
abbrev cJ2_checkIndex_2214a : ByteArray := prog_18_method_91_code
abbrev cJ7_rangeCheck_23922 : ByteArray := prog_20_method_30_code
abbrev cJ7_fill_53178 : ByteArray := prog_20_method_103_code
abbrev cJ7_fill_031fb : ByteArray := prog_20_method_109_code
abbrev cJ7_fill_eb02e : ByteArray := prog_20_method_110_code
abbrev cJ3_checkIndex_8e157 : ByteArray := prog_21_method_11_code
abbrev cL_law : ByteArray := code
def yX0_init : MethodName := ⟨RX0, "<init>", "()V"⟩
def yX0_holds : MethodName := ⟨RX0, "holds", "(I)Z"⟩
def yX0_make : MethodName := ⟨RX0, "make", "(LForthHouse$Forth;I)I"⟩
def yX0_meet : MethodName := ⟨RX0, "meet", "(I)V"⟩
def yX0_plan : MethodName := ⟨RX0, "plan", "(LForthHouse$Forth;I)I"⟩
def yX0_width : MethodName := ⟨RX0, "width", "(LForthHouse$Forth;I)I"⟩
def yX0_isOnChip : MethodName := ⟨RX0, "isOnChip", "(I)Z"⟩
def yX0_layDefinition : MethodName := ⟨RX0, "layDefinition", "(LForthHouse$Forth;I)V"⟩
def yX0_layWord : MethodName := ⟨RX0, "layWord", "(LForthHouse$Forth;I)V"⟩
def yX0_layCell : MethodName := ⟨RX0, "layCell", "(I)V"⟩
def yX0_lay : MethodName := ⟨RX0, "lay", "(I)V"⟩
def yX0_receive : MethodName := ⟨RX0, "receive", "(I)I"⟩
def yX0_run : MethodName := ⟨RX0, "run", "(I)I"⟩
def yX0_step : MethodName := ⟨RX0, "step", "(I)I"⟩
def yX0_end : MethodName := ⟨RX0, "end", "()I"⟩
def yX0_tell : MethodName := ⟨RX0, "tell", "(I)I"⟩
def yX1_init : MethodName := ⟨RX1, "<init>", "()V"⟩
def yX1_begin : MethodName := ⟨RX1, "begin", "(II)V"⟩
def yX1_become : MethodName := ⟨RX1, "become", "(LForthHouse$Forth;)V"⟩
def yX1_isLike : MethodName := ⟨RX1, "isLike", "(LForthHouse$Forth;)Z"⟩
def yX1_figure : MethodName := ⟨RX1, "figure", "(I)I"⟩
def yX1_tokenOf : MethodName := ⟨RX1, "tokenOf", "([BI)I"⟩
def yX1_othersEnded : MethodName := ⟨RX1, "othersEnded", "()Z"⟩
def yX1_isAtRest : MethodName := ⟨RX1, "isAtRest", "()Z"⟩
def yX1_hasText : MethodName := ⟨RX1, "hasText", "()Z"⟩
def yX1_hand : MethodName := ⟨RX1, "hand", "()LForthHouse$Task;"⟩
def yX1_run : MethodName := ⟨RX1, "run", "(I)I"⟩
def yX1_step : MethodName := ⟨RX1, "step", "()I"⟩
def yX1_ask : MethodName := ⟨RX1, "ask", "(IZ)V"⟩
def yX1_beginTask : MethodName := ⟨RX1, "beginTask", "(LForthHouse$Task;)I"⟩
def yX1_take : MethodName := ⟨RX1, "take", "(LForthHouse$Task;)I"⟩
def yX1_takeFromBox : MethodName := ⟨RX1, "takeFromBox", "(LForthHouse$Task;)I"⟩
def yX1_endCatch : MethodName := ⟨RX1, "endCatch", "(LForthHouse$Task;)I"⟩
def yX1_itemStep : MethodName := ⟨RX1, "itemStep", "(LForthHouse$Task;)I"⟩
def yX1_does : MethodName := ⟨RX1, "does", "(LForthHouse$Task;I)I"⟩
def yX1_abort : MethodName := ⟨RX1, "abort", "(LForthHouse$Task;)I"⟩
def yX1_putOut : MethodName := ⟨RX1, "putOut", "(JJ)I"⟩
def yX1_textStep : MethodName := ⟨RX1, "textStep", "()I"⟩
def yX1_endText : MethodName := ⟨RX1, "endText", "()I"⟩
def yX1_takeNumber : MethodName := ⟨RX1, "takeNumber", "()I"⟩
def yX1_digitOf : MethodName := ⟨RX1, "digitOf", "(I)I"⟩
def yX1_leave : MethodName := ⟨RX1, "leave", "(JZ)I"⟩
def yX1_unwind : MethodName := ⟨RX1, "unwind", "(I)I"⟩
def yX1_throwOut : MethodName := ⟨RX1, "throwOut", "(I)V"⟩
def yX1_endTask : MethodName := ⟨RX1, "endTask", "(I)I"⟩
def yX1_handOn : MethodName := ⟨RX1, "handOn", "()Z"⟩
def yX1_perform : MethodName := ⟨RX1, "perform", "()I"⟩
def yX1_offer : MethodName := ⟨RX1, "offer", "(LForthHouse$Task;I)I"⟩
def yX1_doCreated : MethodName := ⟨RX1, "doCreated", "(LForthHouse$Task;I)I"⟩
def yX1_goBack : MethodName := ⟨RX1, "goBack", "(LForthHouse$Task;I)I"⟩
def yX1_printing : MethodName := ⟨RX1, "printing", "(LForthHouse$Task;I)I"⟩
def yX1_print : MethodName := ⟨RX1, "print", "(LForthHouse$Task;Z)I"⟩
def yX1_sharp : MethodName := ⟨RX1, "sharp", "(LForthHouse$Task;Z)I"⟩
def yX1_defining : MethodName := ⟨RX1, "defining", "(LForthHouse$Task;I)I"⟩
def yX1_readFor : MethodName := ⟨RX1, "readFor", "(I)I"⟩
def yX1_beginDefinition : MethodName := ⟨RX1, "beginDefinition", "(I)I"⟩
def yX1_endDefinition : MethodName := ⟨RX1, "endDefinition", "(LForthHouse$Task;)I"⟩
def yX1_finish : MethodName := ⟨RX1, "finish", "()V"⟩
def yX1_beginQuotation : MethodName := ⟨RX1, "beginQuotation", "()I"⟩
def yX1_endQuotation : MethodName := ⟨RX1, "endQuotation", "()I"⟩
def yX1_addDoes : MethodName := ⟨RX1, "addDoes", "()I"⟩
def yX1_makeValue : MethodName := ⟨RX1, "makeValue", "(LForthHouse$Task;I)I"⟩
def yX1_makeWord : MethodName := ⟨RX1, "makeWord", "(I)I"⟩
def yX1_makeImmediate : MethodName := ⟨RX1, "makeImmediate", "()I"⟩
def yX1_tick : MethodName := ⟨RX1, "tick", "(LForthHouse$Task;I)I"⟩
def yX1_setNamed : MethodName := ⟨RX1, "setNamed", "(I)I"⟩
def yX1_assign : MethodName := ⟨RX1, "assign", "(I)I"⟩
def yX1_string : MethodName := ⟨RX1, "string", "(LForthHouse$Task;I)I"⟩
def yX1_readLocals : MethodName := ⟨RX1, "readLocals", "()I"⟩
def yX1_addLocals : MethodName := ⟨RX1, "addLocals", "(II)I"⟩
def yX1_doToken : MethodName := ⟨RX1, "doToken", "(LForthHouse$Task;I)I"⟩
def yX1_evaluateText : MethodName := ⟨RX1, "evaluateText", "(LForthHouse$Task;)I"⟩
def yX1_nest : MethodName := ⟨RX1, "nest", "(LForthHouse$Task;III)I"⟩
def yX1_tasking : MethodName := ⟨RX1, "tasking", "(LForthHouse$Task;I)I"⟩
def yX1_beginCatch : MethodName := ⟨RX1, "beginCatch", "(LForthHouse$Task;)I"⟩
def yX1_makeTask : MethodName := ⟨RX1, "makeTask", "(LForthHouse$Task;)I"⟩
def yX1_send : MethodName := ⟨RX1, "send", "(LForthHouse$Task;)I"⟩
def yX1_receive : MethodName := ⟨RX1, "receive", "(LForthHouse$Task;)I"⟩
def yX1_load : MethodName := ⟨RX1, "load", "(LForthHouse$Task;)I"⟩
def yX2_init : MethodName := ⟨RX2, "<init>", "()V"⟩
def yX2_become : MethodName := ⟨RX2, "become", "(LForthHouse$Items;)V"⟩
def yX2_isLike : MethodName := ⟨RX2, "isLike", "(LForthHouse$Items;)Z"⟩
def yX2_holds : MethodName := ⟨RX2, "holds", "(I)Z"⟩
def yX2_hasRoom : MethodName := ⟨RX2, "hasRoom", "(I)Z"⟩
def yX2_add : MethodName := ⟨RX2, "add", "(II)I"⟩
def yX2_point : MethodName := ⟨RX2, "point", "(I)V"⟩
def yX2_isJump : MethodName := ⟨RX2, "isJump", "(I)Z"⟩
def yX2_isWord : MethodName := ⟨RX2, "isWord", "(II)Z"⟩
def yX2_isKind : MethodName := ⟨RX2, "isKind", "(II)Z"⟩
def yX3_init : MethodName := ⟨RX3, "<init>", "(LForthHouse$Words;LForthHouse$Items;LForthHouse$Space;)V"⟩
def yX3_work : MethodName := ⟨RX3, "work", "(I)V"⟩
def yX3_pass : MethodName := ⟨RX3, "pass", "()V"⟩
def yX3_leastWaiting : MethodName := ⟨RX3, "leastWaiting", "()I"⟩
def yX3_stop : MethodName := ⟨RX3, "stop", "(II)V"⟩
def yX3_arrive : MethodName := ⟨RX3, "arrive", "(IIII)V"⟩
def yX3_take : MethodName := ⟨RX3, "take", "(II)V"⟩
def yX3_goOn : MethodName := ⟨RX3, "goOn", "(III)V"⟩
def yX3_leaveAt : MethodName := ⟨RX3, "leaveAt", "(I)V"⟩
def yX3_look : MethodName := ⟨RX3, "look", "(I)V"⟩
def yX3_lookLoop : MethodName := ⟨RX3, "lookLoop", "(II)V"⟩
def yX3_lookWord : MethodName := ⟨RX3, "lookWord", "(II)V"⟩
def yX3_lookBuiltIn : MethodName := ⟨RX3, "lookBuiltIn", "(II)V"⟩
def yX3_mayLean : MethodName := ⟨RX3, "mayLean", "(I)Z"⟩
def yX3_makeLean : MethodName := ⟨RX3, "makeLean", "(I)I"⟩
def yX3_leanOnce : MethodName := ⟨RX3, "leanOnce", "()I"⟩
def yX3_markTargets : MethodName := ⟨RX3, "markTargets", "()V"⟩
def yX3_goes : MethodName := ⟨RX3, "goes", "(I)Z"⟩
def yX3_reckonsOne : MethodName := ⟨RX3, "reckonsOne", "(I)Z"⟩
def yX3_reckonsTwo : MethodName := ⟨RX3, "reckonsTwo", "(I)Z"⟩
def yX3_reckoned : MethodName := ⟨RX3, "reckoned", "(III)I"⟩
def yX3_remove : MethodName := ⟨RX3, "remove", "(II)I"⟩
def yX4_init : MethodName := ⟨RX4, "<init>", "()V"⟩
def yX4_become : MethodName := ⟨RX4, "become", "(LForthHouse$Lists;)V"⟩
def yX4_isLike : MethodName := ⟨RX4, "isLike", "(LForthHouse$Lists;)Z"⟩
def yX4_only : MethodName := ⟨RX4, "only", "()V"⟩
def yX4_search : MethodName := ⟨RX4, "search", "(I)I"⟩
def yX4_previous : MethodName := ⟨RX4, "previous", "()I"⟩
def yX4_define : MethodName := ⟨RX4, "define", "()I"⟩
def yX4_mark : MethodName := ⟨RX4, "mark", "(III)I"⟩
def yX4_goBack : MethodName := ⟨RX4, "goBack", "(I)V"⟩
def yX5_init : MethodName := ⟨RX5, "<init>", "(LForthHouse$Items;)V"⟩
def yX5_become : MethodName := ⟨RX5, "become", "(LForthHouse$Making;)V"⟩
def yX5_isLike : MethodName := ⟨RX5, "isLike", "(LForthHouse$Making;)Z"⟩
def yX5_begin : MethodName := ⟨RX5, "begin", "(II)V"⟩
def yX5_forget : MethodName := ⟨RX5, "forget", "()V"⟩
def yX5_innermost : MethodName := ⟨RX5, "innermost", "()I"⟩
def yX5_base : MethodName := ⟨RX5, "base", "()I"⟩
def yX5_isLevel : MethodName := ⟨RX5, "isLevel", "()Z"⟩
def yX5_isMarked : MethodName := ⟨RX5, "isMarked", "(I)Z"⟩
def yX5_mark : MethodName := ⟨RX5, "mark", "(I)V"⟩
def yX5_localOf : MethodName := ⟨RX5, "localOf", "([BIZ)I"⟩
def yX5_nameLocal : MethodName := ⟨RX5, "nameLocal", "(I[BI)V"⟩
def yX5_countLocals : MethodName := ⟨RX5, "countLocals", "(I)V"⟩
def yX5_kindAt : MethodName := ⟨RX5, "kindAt", "(I)I"⟩
def yX5_placeAt : MethodName := ⟨RX5, "placeAt", "(I)I"⟩
def yX5_setPair : MethodName := ⟨RX5, "setPair", "(III)V"⟩
def yX5_control : MethodName := ⟨RX5, "control", "(I)I"⟩
def yX5_pair : MethodName := ⟨RX5, "pair", "(II)I"⟩
def yX5_branch : MethodName := ⟨RX5, "branch", "(II)I"⟩
def yX5_then : MethodName := ⟨RX5, "then", "()I"⟩
def yX5_otherwise : MethodName := ⟨RX5, "otherwise", "(II)I"⟩
def yX5_back : MethodName := ⟨RX5, "back", "(I)I"⟩
def yX5_during : MethodName := ⟨RX5, "during", "()I"⟩
def yX5_repeat : MethodName := ⟨RX5, "repeat", "()I"⟩
def yX5_endLoop : MethodName := ⟨RX5, "endLoop", "(I)I"⟩
def yX5_leave : MethodName := ⟨RX5, "leave", "()I"⟩
def yX5_endCase : MethodName := ⟨RX5, "endCase", "()I"⟩
def yX6_init : MethodName := ⟨RX6, "<init>", "()V"⟩
def yX6_become : MethodName := ⟨RX6, "become", "(LForthHouse$Sink;)V"⟩
def yX6_byteOf : MethodName := ⟨RX6, "byteOf", "(I)I"⟩
def yX6_grow : MethodName := ⟨RX6, "grow", "(J)V"⟩
def yX6_emit : MethodName := ⟨RX6, "emit", "(I)V"⟩
def yX6_blanks : MethodName := ⟨RX6, "blanks", "(I)V"⟩
def yX6_write : MethodName := ⟨RX6, "write", "([BII)V"⟩
def yX6_print : MethodName := ⟨RX6, "print", "(JI)V"⟩
def yX6_digit : MethodName := ⟨RX6, "digit", "(I)B"⟩
def yX6_keepAbove : MethodName := ⟨RX6, "keepAbove", "(LForthHouse$Task;)V"⟩
def yX6_judgeAbove : MethodName := ⟨RX6, "judgeAbove", "(LForthHouse$Task;)V"⟩
def yX7_init : MethodName := ⟨RX7, "<init>", "()V"⟩
def yX7_become : MethodName := ⟨RX7, "become", "(LForthHouse$Space;)V"⟩
def yX7_isLike : MethodName := ⟨RX7, "isLike", "(LForthHouse$Space;)Z"⟩
def yX7_isFloored : MethodName := ⟨RX7, "isFloored", "()Z"⟩
def yX7_isCased : MethodName := ⟨RX7, "isCased", "()Z"⟩
def yX7_bits : MethodName := ⟨RX7, "bits", "()I"⟩
def yX7_cut : MethodName := ⟨RX7, "cut", "(J)I"⟩
def yX7_bare : MethodName := ⟨RX7, "bare", "(I)J"⟩
def yX7_holds : MethodName := ⟨RX7, "holds", "(JJ)Z"⟩
def yX7_byteAt : MethodName := ⟨RX7, "byteAt", "(I)I"⟩
def yX7_cellAt : MethodName := ⟨RX7, "cellAt", "(I)I"⟩
def yX7_layCell : MethodName := ⟨RX7, "layCell", "(II)V"⟩
def yX7_hasRoom : MethodName := ⟨RX7, "hasRoom", "(I)Z"⟩
def yX7_moveHere : MethodName := ⟨RX7, "moveHere", "(J)I"⟩
def yX7_aligned : MethodName := ⟨RX7, "aligned", "(J)J"⟩
def yX7_base : MethodName := ⟨RX7, "base", "()I"⟩
def yX7_hold : MethodName := ⟨RX7, "hold", "(I)I"⟩
def yX8_init : MethodName := ⟨RX8, "<init>", "(LForthHouse$Space;)V"⟩
def yX8_become : MethodName := ⟨RX8, "become", "(LForthHouse$Task;)V"⟩
def yX8_isLike : MethodName := ⟨RX8, "isLike", "(LForthHouse$Task;)Z"⟩
def yX8_clearRows : MethodName := ⟨RX8, "clearRows", "()V"⟩
def yX8_lengthOf : MethodName := ⟨RX8, "lengthOf", "(I)I"⟩
def yX8_cellOf : MethodName := ⟨RX8, "cellOf", "(II)I"⟩
def yX8_lack : MethodName := ⟨RX8, "lack", "(II)I"⟩
def yX8_push : MethodName := ⟨RX8, "push", "(I)V"⟩
def yX8_pop : MethodName := ⟨RX8, "pop", "()I"⟩
def yX8_peek : MethodName := ⟨RX8, "peek", "(I)I"⟩
def yX8_give : MethodName := ⟨RX8, "give", "(J)I"⟩
def yX8_flag : MethodName := ⟨RX8, "flag", "(Z)I"⟩
def yX8_giveTwin : MethodName := ⟨RX8, "giveTwin", "(J)I"⟩
def yX8_popTwin : MethodName := ⟨RX8, "popTwin", "()J"⟩
def yX8_popBareTwin : MethodName := ⟨RX8, "popBareTwin", "()J"⟩
def yX8_bringUp : MethodName := ⟨RX8, "bringUp", "(I)V"⟩
def yX8_base : MethodName := ⟨RX8, "base", "(I)I"⟩
def yX8_frameKind : MethodName := ⟨RX8, "frameKind", "()I"⟩
def yX8_open : MethodName := ⟨RX8, "open", "(I)Z"⟩
def yX8_enter : MethodName := ⟨RX8, "enter", "(I)I"⟩
def yX8_close : MethodName := ⟨RX8, "close", "()V"⟩
def yX8_exit : MethodName := ⟨RX8, "exit", "()I"⟩
def yX8_latestCatch : MethodName := ⟨RX8, "latestCatch", "()I"⟩
def yX8_fallTo : MethodName := ⟨RX8, "fallTo", "(II)V"⟩
def yX8_core : MethodName := ⟨RX8, "core", "(I)I"⟩
def yX8_shuffle : MethodName := ⟨RX8, "shuffle", "(I)I"⟩
def yX8_duplicate : MethodName := ⟨RX8, "duplicate", "()I"⟩
def yX8_reachDown : MethodName := ⟨RX8, "reachDown", "(I)I"⟩
def yX8_overReturn : MethodName := ⟨RX8, "overReturn", "(I)I"⟩
def yX8_toReturn : MethodName := ⟨RX8, "toReturn", "(III)I"⟩
def yX8_reckon : MethodName := ⟨RX8, "reckon", "(I)I"⟩
def yX8_twinWord : MethodName := ⟨RX8, "twinWord", "(I)I"⟩
def yX8_divide : MethodName := ⟨RX8, "divide", "(II)I"⟩
def yX8_divideBare : MethodName := ⟨RX8, "divideBare", "(J)I"⟩
def yX8_divideTwin : MethodName := ⟨RX8, "divideTwin", "(II)I"⟩
def yX8_compare : MethodName := ⟨RX8, "compare", "(I)I"⟩
def yX8_shift : MethodName := ⟨RX8, "shift", "(IJ)I"⟩
def yX8_within : MethodName := ⟨RX8, "within", "(I)I"⟩
def yX8_memory : MethodName := ⟨RX8, "memory", "(I)I"⟩
def yX8_lay : MethodName := ⟨RX8, "lay", "(II)I"⟩
def yX8_fill : MethodName := ⟨RX8, "fill", "(I)I"⟩
def yX8_move : MethodName := ⟨RX8, "move", "(J)I"⟩
def yX8_reach : MethodName := ⟨RX8, "reach", "(IJ)I"⟩
def yX8_loopWord : MethodName := ⟨RX8, "loopWord", "(I)I"⟩
def yX8_flow : MethodName := ⟨RX8, "flow", "(II)I"⟩
def yX8_beginLoop : MethodName := ⟨RX8, "beginLoop", "(II)I"⟩
def yX8_loop : MethodName := ⟨RX8, "loop", "(II)I"⟩
def yX8_of : MethodName := ⟨RX8, "of", "(I)I"⟩
def yX8_enterLocals : MethodName := ⟨RX8, "enterLocals", "(II)I"⟩
def yX8_local : MethodName := ⟨RX8, "local", "(II)I"⟩
def yX9_init : MethodName := ⟨RX9, "<init>", "(LForthHouse$Space;)V"⟩
def yX9_become : MethodName := ⟨RX9, "become", "(LForthHouse$Texts;)V"⟩
def yX9_isLike : MethodName := ⟨RX9, "isLike", "(LForthHouse$Texts;)Z"⟩
def yX9_settle : MethodName := ⟨RX9, "settle", "()V"⟩
def yX9_start : MethodName := ⟨RX9, "start", "([BI)V"⟩
def yX9_nest : MethodName := ⟨RX9, "nest", "(III)V"⟩
def yX9_fallTo : MethodName := ⟨RX9, "fallTo", "(II)V"⟩
def yX9_inBlock : MethodName := ⟨RX9, "inBlock", "()Z"⟩
def yX9_readWord : MethodName := ⟨RX9, "readWord", "(Z)I"⟩
def yX9_isBlank : MethodName := ⟨RX9, "isBlank", "(B)Z"⟩
def yX9_readUpTo : MethodName := ⟨RX9, "readUpTo", "(IZ)V"⟩
def yX9_skipLine : MethodName := ⟨RX9, "skipLine", "(Z)V"⟩
def yX9_isRead : MethodName := ⟨RX9, "isRead", "(II)Z"⟩
def yX10_init : MethodName := ⟨RX10, "<init>", "()V"⟩
def yX10_addLine : MethodName := ⟨RX10, "addLine", "(Ljava/lang/String;)V"⟩
def yX10_become : MethodName := ⟨RX10, "become", "(LForthHouse$Words;)V"⟩
def yX10_isLike : MethodName := ⟨RX10, "isLike", "(LForthHouse$Words;)Z"⟩
def yX10_holds : MethodName := ⟨RX10, "holds", "(I)Z"⟩
def yX10_isFull : MethodName := ⟨RX10, "isFull", "()Z"⟩
def yX10_has : MethodName := ⟨RX10, "has", "(II)Z"⟩
def yX10_isKind : MethodName := ⟨RX10, "isKind", "(II)Z"⟩
def yX10_isEnded : MethodName := ⟨RX10, "isEnded", "(I)Z"⟩
def yX10_set : MethodName := ⟨RX10, "set", "(II)V"⟩
def yX10_make : MethodName := ⟨RX10, "make", "(III[BI)I"⟩
def yX10_end : MethodName := ⟨RX10, "end", "(II)V"⟩
def yX10_newest : MethodName := ⟨RX10, "newest", "(I[BIZ)I"⟩
def yX10_tell : MethodName := ⟨RX10, "tell", "(II)I"⟩
def yX10_letter : MethodName := ⟨RX10, "letter", "(II)I"⟩
def yX11_init : MethodName := ⟨RX11, "<init>", "()V"⟩
def yX11_type : MethodName := ⟨RX11, "type", "(JI)I"⟩
def yX11_wipe : MethodName := ⟨RX11, "wipe", "()I"⟩
def yX11_system : MethodName := ⟨RX11, "system", "(II)I"⟩
def yX11_evaluate : MethodName := ⟨RX11, "evaluate", "(II)I"⟩
def yX11_go : MethodName := ⟨RX11, "go", "(II)I"⟩
def yX11_out : MethodName := ⟨RX11, "out", "(II)I"⟩
def yX11_count : MethodName := ⟨RX11, "count", "(II)I"⟩
def yX11_thrown : MethodName := ⟨RX11, "thrown", "(II)I"⟩
def yX11_depth : MethodName := ⟨RX11, "depth", "(III)I"⟩
def yX11_cell : MethodName := ⟨RX11, "cell", "(IIII)I"⟩
def yX11_task : MethodName := ⟨RX11, "task", "(II)I"⟩
def yX11_fetch : MethodName := ⟨RX11, "fetch", "(III)I"⟩
def yX11_find : MethodName := ⟨RX11, "find", "(I)I"⟩
def yX11_word : MethodName := ⟨RX11, "word", "(III)I"⟩
def yX11_name : MethodName := ⟨RX11, "name", "(III)I"⟩
def yX11_item : MethodName := ⟨RX11, "item", "(III)I"⟩
def yX11_effect : MethodName := ⟨RX11, "effect", "(II)I"⟩
def yX11_effectOf : MethodName := ⟨RX11, "effectOf", "(III)I"⟩
def yX11_lean : MethodName := ⟨RX11, "lean", "(II)I"⟩
def yX11_chip : MethodName := ⟨RX11, "chip", "(II)I"⟩
def yX11_chipWord : MethodName := ⟨RX11, "chipWord", "(I)I"⟩
def yX11_chipPut : MethodName := ⟨RX11, "chipPut", "(I)I"⟩
def yX11_chipGo : MethodName := ⟨RX11, "chipGo", "(I)I"⟩
def yX11_chipTold : MethodName := ⟨RX11, "chipTold", "(I)I"⟩
def yX11_chipCell : MethodName := ⟨RX11, "chipCell", "(I)I"⟩
def yX11_chipByte : MethodName := ⟨RX11, "chipByte", "(I)I"⟩
def yX11_put : MethodName := ⟨RX11, "put", "(III)I"⟩
def yX11_keep : MethodName := ⟨RX11, "keep", "(II)I"⟩
def yX11_again : MethodName := ⟨RX11, "again", "(II)I"⟩
def yX11_same : MethodName := ⟨RX11, "same", "(II)Z"⟩
def yX11_systemOf : MethodName := ⟨RX11, "systemOf", "(I)LForthHouse$Forth;"⟩
def yX11_taskOf : MethodName := ⟨RX11, "taskOf", "(II)LForthHouse$Task;"⟩
def yX11_stepsGood : MethodName := ⟨RX11, "stepsGood", "(I)Z"⟩
def yX11_sameCells : MethodName := ⟨RX11, "sameCells", "([I[III)Z"⟩
def yX11_sameBytes : MethodName := ⟨RX11, "sameBytes", "([B[BI)Z"⟩
def yX11_copyCells : MethodName := ⟨RX11, "copyCells", "([I[I)V"⟩
def yX11_copyBytes : MethodName := ⟨RX11, "copyBytes", "([B[B)V"⟩
def yX11_spelled : MethodName := ⟨RX11, "spelled", "([BI[BIZ)Z"⟩
def yX11_quotient : MethodName := ⟨RX11, "quotient", "(JJ)J"⟩
def yX12_bits : MethodName := ⟨RX12, "bits", "()I"⟩
def yX12_mask : MethodName := ⟨RX12, "mask", "()J"⟩
def yX12_wide : MethodName := ⟨RX12, "wide", "(I)J"⟩
def yX12_round : MethodName := ⟨RX12, "round", "(J)I"⟩
def yX12_lies : MethodName := ⟨RX12, "lies", "(JJ)Z"⟩
def yX12_reach : MethodName := ⟨RX12, "reach", "(IJ)Z"⟩
def yX12_byteAt : MethodName := ⟨RX12, "byteAt", "(J)I"⟩
def yX12_putByte : MethodName := ⟨RX12, "putByte", "(JI)V"⟩
def yX12_high : MethodName := ⟨RX12, "high", "()Z"⟩
def yX12_cellAt : MethodName := ⟨RX12, "cellAt", "(J)I"⟩
def yX12_putCell : MethodName := ⟨RX12, "putCell", "(JI)V"⟩
def yX12_depth : MethodName := ⟨RX12, "depth", "()I"⟩
def yX12_may : MethodName := ⟨RX12, "may", "(II)Z"⟩
def yX12_pop : MethodName := ⟨RX12, "pop", "()I"⟩
def yX12_push : MethodName := ⟨RX12, "push", "(J)V"⟩
def yX12_top : MethodName := ⟨RX12, "top", "(I)I"⟩
def yX12_pushDouble : MethodName := ⟨RX12, "pushDouble", "(J)V"⟩
def yX12_popDouble : MethodName := ⟨RX12, "popDouble", "()J"⟩
def yX12_frames : MethodName := ⟨RX12, "frames", "()I"⟩
def yX12_frameAt : MethodName := ⟨RX12, "frameAt", "(I)I"⟩
def yX12_base : MethodName := ⟨RX12, "base", "(I)I"⟩
def yX12_newFrame : MethodName := ⟨RX12, "newFrame", "(I)I"⟩
def yX12_put : MethodName := ⟨RX12, "put", "(I)V"⟩
def yX12_textFrame : MethodName := ⟨RX12, "textFrame", "()I"⟩
def yX12_nested : MethodName := ⟨RX12, "nested", "()I"⟩
def yX12_textSize : MethodName := ⟨RX12, "textSize", "(I)I"⟩
def yX12_textByte : MethodName := ⟨RX12, "textByte", "(II)I"⟩
def yX12_in : MethodName := ⟨RX12, "in", "()J"⟩
def yX12_isBlank : MethodName := ⟨RX12, "isBlank", "(I)Z"⟩
def yX12_word : MethodName := ⟨RX12, "word", "()Z"⟩
def yX12_upTo : MethodName := ⟨RX12, "upTo", "(I)V"⟩
def yX12_wordAt : MethodName := ⟨RX12, "wordAt", "(I)I"⟩
def yX12_itemAt : MethodName := ⟨RX12, "itemAt", "(I)I"⟩
def yX12_isToken : MethodName := ⟨RX12, "isToken", "(J)Z"⟩
def yX12_lower : MethodName := ⟨RX12, "lower", "(I)I"⟩
def yX12_isName : MethodName := ⟨RX12, "isName", "(II)Z"⟩
def yX12_search : MethodName := ⟨RX12, "search", "()I"⟩
def yX12_newWord : MethodName := ⟨RX12, "newWord", "(IZ)I"⟩
def yX12_newName : MethodName := ⟨RX12, "newName", "()Z"⟩
def yX12_item : MethodName := ⟨RX12, "item", "(II)V"⟩
def yX12_items : MethodName := ⟨RX12, "items", "(I)Z"⟩
def yX12_here : MethodName := ⟨RX12, "here", "()I"⟩
def yX12_lead : MethodName := ⟨RX12, "lead", "(II)V"⟩
def yX12_def : MethodName := ⟨RX12, "def", "()I"⟩
def yX12_beginDef : MethodName := ⟨RX12, "beginDef", "(ZZ)V"⟩
def yX12_endDef : MethodName := ⟨RX12, "endDef", "()Z"⟩
def yX12_pair : MethodName := ⟨RX12, "pair", "(III)V"⟩
def yX12_topPair : MethodName := ⟨RX12, "topPair", "(II)I"⟩
def yX12_hasPair : MethodName := ⟨RX12, "hasPair", "(I)Z"⟩
def yX12_numberBase : MethodName := ⟨RX12, "numberBase", "()I"⟩
def yX12_flag : MethodName := ⟨RX12, "flag", "(Z)V"⟩
def yX12_stack : MethodName := ⟨RX12, "stack", "(I)V"⟩
def yX12_roll : MethodName := ⟨RX12, "roll", "(I)V"⟩
def yX12_pushReturn : MethodName := ⟨RX12, "pushReturn", "(I)V"⟩
def yX12_popReturn : MethodName := ⟨RX12, "popReturn", "()I"⟩
def yX12_hasReturn : MethodName := ⟨RX12, "hasReturn", "(I)Z"⟩
def yX12_returns : MethodName := ⟨RX12, "returns", "(I)V"⟩
def yX12_floorOf : MethodName := ⟨RX12, "floorOf", "(JJ)J"⟩
def yX12_quotient : MethodName := ⟨RX12, "quotient", "(JJ)J"⟩
def yX12_divided : MethodName := ⟨RX12, "divided", "(I)V"⟩
def yX12_unsignedDivided : MethodName := ⟨RX12, "unsignedDivided", "()V"⟩
def yX12_signedDivided : MethodName := ⟨RX12, "signedDivided", "(Z)V"⟩
def yX12_reckon : MethodName := ⟨RX12, "reckon", "(I)V"⟩
def yX12_compare : MethodName := ⟨RX12, "compare", "(I)V"⟩
def yX12_grow : MethodName := ⟨RX12, "grow", "(J)V"⟩
def yX12_up : MethodName := ⟨RX12, "up", "(J)J"⟩
def yX12_storing : MethodName := ⟨RX12, "storing", "(I)V"⟩
def yX12_rows : MethodName := ⟨RX12, "rows", "(II)V"⟩
def yX12_hold : MethodName := ⟨RX12, "hold", "(I)V"⟩
def yX12_letter : MethodName := ⟨RX12, "letter", "(J)I"⟩
def yX12_digits : MethodName := ⟨RX12, "digits", "(Z)V"⟩
def yX12_print : MethodName := ⟨RX12, "print", "(J)V"⟩
def yX12_type : MethodName := ⟨RX12, "type", "(IJ)V"⟩
def yX12_spaces : MethodName := ⟨RX12, "spaces", "(I)V"⟩
def yX12_printing : MethodName := ⟨RX12, "printing", "(I)V"⟩
def yX12_plain : MethodName := ⟨RX12, "plain", "(I)V"⟩
def yX12_layString : MethodName := ⟨RX12, "layString", "()I"⟩
def yX12_literal : MethodName := ⟨RX12, "literal", "(I)V"⟩
def yX12_string : MethodName := ⟨RX12, "string", "(I)V"⟩
def yX12_comment : MethodName := ⟨RX12, "comment", "()V"⟩
def yX12_named : MethodName := ⟨RX12, "named", "()I"⟩
def yX12_local : MethodName := ⟨RX12, "local", "()I"⟩
def yX12_is : MethodName := ⟨RX12, "is", "(Ljava/lang/String;)Z"⟩
def yX12_locals : MethodName := ⟨RX12, "locals", "()V"⟩
def yX12_freeMark : MethodName := ⟨RX12, "freeMark", "()I"⟩
def yX12_marker : MethodName := ⟨RX12, "marker", "()V"⟩
def yX12_mark : MethodName := ⟨RX12, "mark", "(IZ)V"⟩
def yX12_makes : MethodName := ⟨RX12, "makes", "(I)V"⟩
def yX12_assign : MethodName := ⟨RX12, "assign", "(Z)V"⟩
def yX12_putValue : MethodName := ⟨RX12, "putValue", "(II)V"⟩
def yX12_postpone : MethodName := ⟨RX12, "postpone", "()V"⟩
def yX12_ends : MethodName := ⟨RX12, "ends", "(Z)V"⟩
def yX12_compiles : MethodName := ⟨RX12, "compiles", "(I)V"⟩
def yX12_drops : MethodName := ⟨RX12, "drops", "()V"⟩
def yX12_origin : MethodName := ⟨RX12, "origin", "(I)V"⟩
def yX12_then : MethodName := ⟨RX12, "then", "()V"⟩
def yX12_swapPairs : MethodName := ⟨RX12, "swapPairs", "()V"⟩
def yX12_back : MethodName := ⟨RX12, "back", "(I)V"⟩
def yX12_settle : MethodName := ⟨RX12, "settle", "(III)V"⟩
def yX12_loopEnds : MethodName := ⟨RX12, "loopEnds", "(I)V"⟩
def yX12_innermost : MethodName := ⟨RX12, "innermost", "()I"⟩
def yX12_control : MethodName := ⟨RX12, "control", "(I)V"⟩
def yX12_endCase : MethodName := ⟨RX12, "endCase", "()V"⟩
def yX12_does : MethodName := ⟨RX12, "does", "(IZ)V"⟩
def yX12_enter : MethodName := ⟨RX12, "enter", "(I)V"⟩
def yX12_isCompiling : MethodName := ⟨RX12, "isCompiling", "(I)Z"⟩
def yX12_isOnly : MethodName := ⟨RX12, "isOnly", "(I)Z"⟩
def yX12_builtIn : MethodName := ⟨RX12, "builtIn", "(I)V"⟩
def yX12_asks : MethodName := ⟨RX12, "asks", "(I)V"⟩
def yX12_nest : MethodName := ⟨RX12, "nest", "(III)V"⟩
def yX12_open : MethodName := ⟨RX12, "open", "()I"⟩
def yX12_loopAt : MethodName := ⟨RX12, "loopAt", "(I)I"⟩
def yX12_exit : MethodName := ⟨RX12, "exit", "()V"⟩
def yX12_loops : MethodName := ⟨RX12, "loops", "(I)V"⟩
def yX12_beginLoop : MethodName := ⟨RX12, "beginLoop", "(II)V"⟩
def yX12_goOn : MethodName := ⟨RX12, "goOn", "(IIJ)V"⟩
def yX12_runItem : MethodName := ⟨RX12, "runItem", "(I)V"⟩
def yX12_doItem : MethodName := ⟨RX12, "doItem", "(III)V"⟩
def yX12_isLocal : MethodName := ⟨RX12, "isLocal", "(II)Z"⟩
def yX12_doLocal : MethodName := ⟨RX12, "doLocal", "(III)V"⟩
def yX12_orders : MethodName := ⟨RX12, "orders", "(I)V"⟩
def yX12_taskAt : MethodName := ⟨RX12, "taskAt", "(I)I"⟩
def yX12_passes : MethodName := ⟨RX12, "passes", "()Z"⟩
def yX12_emptyRows : MethodName := ⟨RX12, "emptyRows", "(I)V"⟩
def yX12_taskEnds : MethodName := ⟨RX12, "taskEnds", "(I)V"⟩
def yX12_tasks : MethodName := ⟨RX12, "tasks", "(I)V"⟩
def yX12_receive : MethodName := ⟨RX12, "receive", "()V"⟩
def yX12_takeBox : MethodName := ⟨RX12, "takeBox", "()V"⟩
def yX12_tests : MethodName := ⟨RX12, "tests", "(I)V"⟩
def yX12_thrown : MethodName := ⟨RX12, "thrown", "()V"⟩
def yX12_restore : MethodName := ⟨RX12, "restore", "(I)V"⟩
def yX12_outOf : MethodName := ⟨RX12, "outOf", "(I)V"⟩
def yX12_digit : MethodName := ⟨RX12, "digit", "(I)I"⟩
def yX12_isNumber : MethodName := ⟨RX12, "isNumber", "()Z"⟩
def yX12_interpret : MethodName := ⟨RX12, "interpret", "()V"⟩
def yX12_textEnds : MethodName := ⟨RX12, "textEnds", "()V"⟩
def yX12_step : MethodName := ⟨RX12, "step", "()V"⟩
def yX12_look : MethodName := ⟨RX12, "look", "(I)V"⟩
def yX12_steps : MethodName := ⟨RX12, "steps", "(II)I"⟩
def yX12_conflict : MethodName := ⟨RX12, "conflict", "(II)V"⟩
def yX12_come : MethodName := ⟨RX12, "come", "(IIIII)V"⟩
def yX12_goThrough : MethodName := ⟨RX12, "goThrough", "(IZII)V"⟩
def yX12_taking : MethodName := ⟨RX12, "taking", "(III)I"⟩
def yX12_ending : MethodName := ⟨RX12, "ending", "(IIII)V"⟩
def yX12_visit : MethodName := ⟨RX12, "visit", "(IIZII)V"⟩
def yX12_comeToo : MethodName := ⟨RX12, "comeToo", "(IIIII)V"⟩
def yX12_visitWord : MethodName := ⟨RX12, "visitWord", "(IIIZIIIII)V"⟩
def yX12_visitBuiltIn : MethodName := ⟨RX12, "visitBuiltIn", "(IIIII)V"⟩
def yX12_effectOf : MethodName := ⟨RX12, "effectOf", "(I)V"⟩
def yX12_laysLed : MethodName := ⟨RX12, "laysLed", "(I)V"⟩
def yX12_isLed : MethodName := ⟨RX12, "isLed", "(II)Z"⟩
def yX12_fold : MethodName := ⟨RX12, "fold", "(IIIZ)I"⟩
def yX12_isFolding : MethodName := ⟨RX12, "isFolding", "(I)Z"⟩
def yX12_isTurning : MethodName := ⟨RX12, "isTurning", "(I)Z"⟩
def yX12_drop : MethodName := ⟨RX12, "drop", "(III)V"⟩
def yX12_leanAt : MethodName := ⟨RX12, "leanAt", "(II)Z"⟩
def yX12_partOf : MethodName := ⟨RX12, "partOf", "(I)I"⟩
def yX12_chipWords : MethodName := ⟨RX12, "chipWords", "(I)I"⟩
def yX12_measures : MethodName := ⟨RX12, "measures", "(I)Z"⟩
def yX12_lays : MethodName := ⟨RX12, "lays", "(I)V"⟩
def yX12_chipStep : MethodName := ⟨RX12, "chipStep", "()V"⟩
def yX12_chipExit : MethodName := ⟨RX12, "chipExit", "()V"⟩
def yX12_init : MethodName := ⟨RX12, "<init>", "()V"⟩
def yX12_isIn : MethodName := ⟨RX12, "isIn", "(III)Z"⟩
def yX12_isSystem : MethodName := ⟨RX12, "isSystem", "(I)Z"⟩
def yX12_type_ : MethodName := ⟨RX12, "type", "(JI)I"⟩
def yX12_wipe : MethodName := ⟨RX12, "wipe", "()I"⟩
def yX12_copyTape : MethodName := ⟨RX12, "copyTape", "()V"⟩
def yX12_systems : MethodName := ⟨RX12, "systems", "()I"⟩
def yX12_system : MethodName := ⟨RX12, "system", "(II)I"⟩
def yX12_evaluate : MethodName := ⟨RX12, "evaluate", "(II)I"⟩
def yX12_go : MethodName := ⟨RX12, "go", "(II)I"⟩
def yX12_out : MethodName := ⟨RX12, "out", "(II)I"⟩
def yX12_count : MethodName := ⟨RX12, "count", "(II)I"⟩
def yX12_thrown_ : MethodName := ⟨RX12, "thrown", "(II)I"⟩
def yX12_depth_ : MethodName := ⟨RX12, "depth", "(III)I"⟩
def yX12_cell : MethodName := ⟨RX12, "cell", "(IIII)I"⟩
def yX12_task : MethodName := ⟨RX12, "task", "(II)I"⟩
def yX12_fetch : MethodName := ⟨RX12, "fetch", "(III)I"⟩
def yX12_find : MethodName := ⟨RX12, "find", "(I)I"⟩
def yX12_isOf : MethodName := ⟨RX12, "isOf", "(II)Z"⟩
def yX12_word_ : MethodName := ⟨RX12, "word", "(III)I"⟩
def yX12_name : MethodName := ⟨RX12, "name", "(III)I"⟩
def yX12_item_ : MethodName := ⟨RX12, "item", "(III)I"⟩
def yX12_isEnded : MethodName := ⟨RX12, "isEnded", "(II)Z"⟩
def yX12_effect : MethodName := ⟨RX12, "effect", "(II)I"⟩
def yX12_effectOf_ : MethodName := ⟨RX12, "effectOf", "(III)I"⟩
def yX12_lean : MethodName := ⟨RX12, "lean", "(II)I"⟩
def yX12_chip : MethodName := ⟨RX12, "chip", "(II)I"⟩
def yX12_chipWord : MethodName := ⟨RX12, "chipWord", "(I)I"⟩
def yX12_lookChip : MethodName := ⟨RX12, "lookChip", "()V"⟩
def yX12_chipPut : MethodName := ⟨RX12, "chipPut", "(I)I"⟩
def yX12_chipGo : MethodName := ⟨RX12, "chipGo", "(I)I"⟩
def yX12_chipTold : MethodName := ⟨RX12, "chipTold", "(I)I"⟩
def yX12_chipCell : MethodName := ⟨RX12, "chipCell", "(I)I"⟩
def yX12_chipByte : MethodName := ⟨RX12, "chipByte", "(I)I"⟩
def yX12_put_ : MethodName := ⟨RX12, "put", "(III)I"⟩
def yX12_copy : MethodName := ⟨RX12, "copy", "(II)V"⟩
def yX12_keep : MethodName := ⟨RX12, "keep", "(II)I"⟩
def yX12_again : MethodName := ⟨RX12, "again", "(II)I"⟩
def yX12_rowsAlike : MethodName := ⟨RX12, "rowsAlike", "([IIII)Z"⟩
def yX12_same : MethodName := ⟨RX12, "same", "(II)Z"⟩
def yX12_tasksAlike : MethodName := ⟨RX12, "tasksAlike", "(II)Z"⟩
def yJ9_floorDiv_f86c9 : MethodName := ⟨RJ9, "floorDiv", "(JJ)J"⟩
def yJ9_abs_067f4 : MethodName := ⟨RJ9, "abs", "(J)J"⟩
def yJ9_max_7cf53 : MethodName := ⟨RJ9, "max", "(II)I"⟩
def yJ9_min_7cf53 : MethodName := ⟨RJ9, "min", "(II)I"⟩
def yJ9_min_f86c9 : MethodName := ⟨RJ9, "min", "(JJ)J"⟩
def yJ0_length_8abf5 : MethodName := ⟨RJ0, "length", "()I"⟩
def yJ0_charAt_5068e : MethodName := ⟨RJ0, "charAt", "(I)C"⟩
def yJ0_coder_7d493 : MethodName := ⟨RJ0, "coder", "()B"⟩
def yJ0_isLatin1_aae02 : MethodName := ⟨RJ0, "isLatin1", "()Z"⟩
def yJ0_checkIndex_df160 : MethodName := ⟨RJ0, "checkIndex", "(II)V"⟩
def yJ1_charAt_3b067 : MethodName := ⟨RJ1, "charAt", "([BI)C"⟩
def yJ2_getChar_3b067 : MethodName := ⟨RJ2, "getChar", "([BI)C"⟩
def yJ2_length_9d52b : MethodName := ⟨RJ2, "length", "([B)I"⟩
def yJ2_charAt_3b067 : MethodName := ⟨RJ2, "charAt", "([BI)C"⟩
def yJ2_checkIndex_2214a : MethodName := ⟨RJ2, "checkIndex", "(I[B)V"⟩
def yJ7_rangeCheck_23922 : MethodName := ⟨RJ7, "rangeCheck", "(III)V"⟩
def yJ7_fill_53178 : MethodName := ⟨RJ7, "fill", "([II)V"⟩
def yJ7_fill_031fb : MethodName := ⟨RJ7, "fill", "([BB)V"⟩
def yJ7_fill_eb02e : MethodName := ⟨RJ7, "fill", "([BIIB)V"⟩
def yJ3_checkIndex_8e157 : MethodName := ⟨RJ3, "checkIndex", "(IILjava/util/function/BiFunction;)I"⟩
def yL_law : MethodName := ⟨RL, "law", "([I)Z"⟩
/-! classes of the worlds -/
abbrev zcls : List vw_C := [(RX0, TX0, 11), (RX1, TX1, 18), (RX2, TX2, 3), (RX3, TX3, 20), (RX4, TX4, 12), (RX5, TX5, 15), (RX6, TX6, 8), (RX7, TX7, 5), (RX8, TX8, 18), (RX9, TX9, 15), (RX10, TX10, 14), (RX11, TX11, 7), (RX12, TX12, 35)]
def zfty (ci : Nat) : Nat → FieldType := match ci with
  | 0 => tyX0
  | 1 => tyX1
  | 2 => tyX2
  | 3 => tyX3
  | 4 => tyX4
  | 5 => tyX5
  | 6 => tyX6
  | 7 => tyX7
  | 8 => tyX8
  | 9 => tyX9
  | 10 => tyX10
  | 11 => tyX11
  | _ => tyX12
def zW : List Cond := lw_tbl.filter goodWord
theorem zW_of {w : Cond} (k : Nat) (h : lw_tbl[k]? = some w) (hg : goodWord w = true) : w ∈ zW := List.mem_filter.mpr ⟨List.mem_of_getElem? h, hg⟩
theorem zW_good : GoodIn zW zW := fun w h => ⟨h, good_of_word (List.mem_filter.mp h).2⟩
theorem zmem_of {ws : List Cond} (ps : List Nat) (h : ws.map some = ps.map (fun i => lw_tbl[i]?)) (hg : ws.all goodWord = true) : ∀ w ∈ ws, w ∈ zW := by
  intro w hw
  have h1 : some w ∈ ps.map (fun i => lw_tbl[i]?) := by rw [← h]; exact List.mem_map.mpr ⟨w, hw, rfl⟩
  obtain ⟨i, -, hi⟩ := List.mem_map.mp h1
  exact zW_of i hi (List.all_eq_true.mp hg w hw)
theorem zi_0 : ∀ w ∈ u_ws RX0 TX0 11, w ∈ zW := zmem_of [429, 431, 433, 435, 437, 439, 441, 443, 445, 447, 449] (by decide +kernel) (by decide +kernel)
theorem zi_1 : ∀ w ∈ u_ws RX1 TX1 18, w ∈ zW := zmem_of [929, 931, 933, 935, 937, 939, 941, 943, 945, 947, 949, 951, 953, 955, 957, 959, 961, 963] (by decide +kernel) (by decide +kernel)
theorem zi_2 : ∀ w ∈ u_ws RX2 TX2 3, w ∈ zW := zmem_of [612, 614, 616] (by decide +kernel) (by decide +kernel)
theorem zi_3 : ∀ w ∈ u_ws RX3 TX3 20, w ∈ zW := zmem_of [854, 856, 858, 860, 862, 864, 866, 868, 870, 872, 874, 876, 878, 880, 882, 884, 886, 888, 890, 892] (by decide +kernel) (by decide +kernel)
theorem zi_4 : ∀ w ∈ u_ws RX4 TX4 12, w ∈ zW := zmem_of [766, 768, 770, 772, 774, 776, 778, 780, 782, 784, 786, 788] (by decide +kernel) (by decide +kernel)
theorem zi_5 : ∀ w ∈ u_ws RX5 TX5 15, w ∈ zW := zmem_of [709, 711, 713, 715, 717, 719, 721, 723, 725, 727, 729, 731, 733, 735, 737] (by decide +kernel) (by decide +kernel)
theorem zi_6 : ∀ w ∈ u_ws RX6 TX6 8, w ∈ zW := zmem_of [809, 811, 813, 815, 817, 819, 821, 823] (by decide +kernel) (by decide +kernel)
theorem zi_7 : ∀ w ∈ u_ws RX7 TX7 5, w ∈ zW := zmem_of [319, 321, 323, 325, 327] (by decide +kernel) (by decide +kernel)
theorem zi_8 : ∀ w ∈ u_ws RX8 TX8 18, w ∈ zW := zmem_of [377, 379, 381, 383, 385, 387, 389, 391, 393, 395, 397, 399, 401, 403, 405, 407, 409, 411] (by decide +kernel) (by decide +kernel)
theorem zi_9 : ∀ w ∈ u_ws RX9 TX9 15, w ∈ zW := zmem_of [650, 652, 654, 656, 658, 660, 662, 664, 666, 668, 670, 672, 674, 676, 678] (by decide +kernel) (by decide +kernel)
theorem zi_10 : ∀ w ∈ u_ws RX10 TX10 14, w ∈ zW := zmem_of [562, 564, 566, 568, 570, 572, 574, 576, 578, 580, 582, 584, 586, 588] (by decide +kernel) (by decide +kernel)
theorem zi_11 : ∀ w ∈ u_ws RX11 TX11 7, w ∈ zW := zmem_of [973, 975, 977, 979, 981, 983, 985] (by decide +kernel) (by decide +kernel)
theorem zi_12 : ∀ w ∈ u_ws RX12 TX12 35, w ∈ zW := zmem_of [2279, 2281, 2283, 2285, 2287, 2289, 2291, 2293, 2295, 2297, 2299, 2301, 2303, 2305, 2307, 2309, 2311, 2313, 2315, 2317, 2319, 2321, 2323, 2325, 2327, 2329, 2331, 2333, 2335, 2337, 2339, 2341, 2343, 2345, 2347] (by decide +kernel) (by decide +kernel)
theorem zcls_ok : ∀ (ci : Nat) (q : vw_C), zcls[ci]? = some q → (∀ w ∈ u_ws q.1 q.2.1 q.2.2, w ∈ zW) ∧ (∀ k, k < q.2.2 → parseFieldDescriptor (q.2.1 k).2.2.1 = some (zfty ci k)) ∧ (∀ a, a < q.2.2 → ∀ b, b < q.2.2 → a ≠ b → (q.2.1 a).2.1 ≠ (q.2.1 b).2.1)
  | 0, q, h => by cases h; exact ⟨zi_0, tyX0_ok, nmX0⟩
  | 1, q, h => by cases h; exact ⟨zi_1, tyX1_ok, nmX1⟩
  | 2, q, h => by cases h; exact ⟨zi_2, tyX2_ok, nmX2⟩
  | 3, q, h => by cases h; exact ⟨zi_3, tyX3_ok, nmX3⟩
  | 4, q, h => by cases h; exact ⟨zi_4, tyX4_ok, nmX4⟩
  | 5, q, h => by cases h; exact ⟨zi_5, tyX5_ok, nmX5⟩
  | 6, q, h => by cases h; exact ⟨zi_6, tyX6_ok, nmX6⟩
  | 7, q, h => by cases h; exact ⟨zi_7, tyX7_ok, nmX7⟩
  | 8, q, h => by cases h; exact ⟨zi_8, tyX8_ok, nmX8⟩
  | 9, q, h => by cases h; exact ⟨zi_9, tyX9_ok, nmX9⟩
  | 10, q, h => by cases h; exact ⟨zi_10, tyX10_ok, nmX10⟩
  | 11, q, h => by cases h; exact ⟨zi_11, tyX11_ok, nmX11⟩
  | 12, q, h => by cases h; exact ⟨zi_12, tyX12_ok, nmX12⟩
  | k + 13, q, h => by simp [zcls] at h
/-! the links of the classes: (kind, a, b, place among the words) -/
def zown : Nat → String := fun k => match k with
  | 0 => "ForthHouse$Chip"
  | 1 => "ForthHouse$Forth"
  | 2 => "ForthHouse$Items"
  | 3 => "ForthHouse$Judge"
  | 4 => "ForthHouse$Lists"
  | 5 => "ForthHouse$Making"
  | 6 => "ForthHouse$Sink"
  | 7 => "ForthHouse$Space"
  | 8 => "ForthHouse$Task"
  | 9 => "ForthHouse$Texts"
  | 10 => "ForthHouse$Words"
  | 11 => "ForthHouse"
  | 12 => "ForthHouseModel"
  | 13 => "ForthHouseLaw"
  | 14 => "java/lang/Math"
  | 15 => "java/util/Arrays"
  | 16 => "java/lang/String"
  | 17 => "java/lang/StringLatin1"
  | 18 => "java/lang/StringUTF16"
  | 19 => "jdk/internal/util/Preconditions"
  | _ => "java/lang/System"
def zlook {α : Type} (w : Nat) (t : List (List (Option α))) (k : Nat) : Option α := (t.getD (k / w) []).getD (k % w) none
def zmnL : List (List (Option MethodName)) := [[some yX0_init, some yX0_holds, some yX0_make, some yX0_meet, some yX0_plan, some yX0_width, some yX0_isOnChip, some yX0_layDefinition, some yX0_layWord, some yX0_layCell, some yX0_lay, some yX0_receive, some yX0_run, some yX0_step, some yX0_end, some yX0_tell, some yX1_init, some yX1_begin, some yX1_become, some yX1_isLike, some yX1_figure, some yX1_tokenOf, some yX1_othersEnded, some yX1_isAtRest], [some yX1_hasText, some yX1_hand, some yX1_run, some yX1_step, some yX1_ask, some yX1_beginTask, some yX1_take, some yX1_takeFromBox, some yX1_endCatch, some yX1_itemStep, some yX1_does, some yX1_abort, some yX1_putOut, some yX1_textStep, some yX1_endText, some yX1_takeNumber, some yX1_digitOf, some yX1_leave, some yX1_unwind, some yX1_throwOut, some yX1_endTask, some yX1_handOn, some yX1_perform, some yX1_offer], [some yX1_doCreated, some yX1_goBack, some yX1_printing, some yX1_print, some yX1_sharp, some yX1_defining, some yX1_readFor, some yX1_beginDefinition, some yX1_endDefinition, some yX1_finish, some yX1_beginQuotation, some yX1_endQuotation, some yX1_addDoes, some yX1_makeValue, some yX1_makeWord, some yX1_makeImmediate, some yX1_tick, some yX1_setNamed, some yX1_assign, some yX1_string, some yX1_readLocals, some yX1_addLocals, some yX1_doToken, some yX1_evaluateText], [some yX1_nest, some yX1_tasking, some yX1_beginCatch, some yX1_makeTask, some yX1_send, some yX1_receive, some yX1_load, some yX2_init, some yX2_become, some yX2_isLike, some yX2_holds, some yX2_hasRoom, some yX2_add, some yX2_point, some yX2_isJump, some yX2_isWord, some yX2_isKind, some yX3_init, some yX3_work, some yX3_pass, some yX3_leastWaiting, some yX3_stop, some yX3_arrive, some yX3_take], [some yX3_goOn, some yX3_leaveAt, some yX3_look, some yX3_lookLoop, some yX3_lookWord, some yX3_lookBuiltIn, some yX3_mayLean, some yX3_makeLean, some yX3_leanOnce, some yX3_markTargets, some yX3_goes, some yX3_reckonsOne, some yX3_reckonsTwo, some yX3_reckoned, some yX3_remove, some yX4_init, some yX4_become, some yX4_isLike, some yX4_only, some yX4_search, some yX4_previous, some yX4_define, some yX4_mark, some yX4_goBack], [some yX5_init, some yX5_become, some yX5_isLike, some yX5_begin, some yX5_forget, some yX5_innermost, some yX5_base, some yX5_isLevel, some yX5_isMarked, some yX5_mark, some yX5_localOf, some yX5_nameLocal, some yX5_countLocals, some yX5_kindAt, some yX5_placeAt, some yX5_setPair, some yX5_control, some yX5_pair, some yX5_branch, some yX5_then, some yX5_otherwise, some yX5_back, some yX5_during, some yX5_repeat], [some yX5_endLoop, some yX5_leave, some yX5_endCase, some yX6_init, some yX6_become, some yX6_byteOf, some yX6_grow, some yX6_emit, some yX6_blanks, some yX6_write, some yX6_print, some yX6_digit, some yX6_keepAbove, some yX6_judgeAbove, some yX7_init, some yX7_become, some yX7_isLike, some yX7_isFloored, some yX7_isCased, some yX7_bits, some yX7_cut, some yX7_bare, some yX7_holds, some yX7_byteAt], [some yX7_cellAt, some yX7_layCell, some yX7_hasRoom, some yX7_moveHere, some yX7_aligned, some yX7_base, some yX7_hold, some yX8_init, some yX8_become, some yX8_isLike, some yX8_clearRows, some yX8_lengthOf, some yX8_cellOf, some yX8_lack, some yX8_push, some yX8_pop, some yX8_peek, some yX8_give, some yX8_flag, some yX8_giveTwin, some yX8_popTwin, some yX8_popBareTwin, some yX8_bringUp, some yX8_base], [some yX8_frameKind, some yX8_open, some yX8_enter, some yX8_close, some yX8_exit, some yX8_latestCatch, some yX8_fallTo, some yX8_core, some yX8_shuffle, some yX8_duplicate, some yX8_reachDown, some yX8_overReturn, some yX8_toReturn, some yX8_reckon, some yX8_twinWord, some yX8_divide, some yX8_divideBare, some yX8_divideTwin, some yX8_compare, some yX8_shift, some yX8_within, some yX8_memory, some yX8_lay, some yX8_fill], [some yX8_move, some yX8_reach, some yX8_loopWord, some yX8_flow, some yX8_beginLoop, some yX8_loop, some yX8_of, some yX8_enterLocals, some yX8_local, some yX9_init, some yX9_become, some yX9_isLike, some yX9_settle, some yX9_start, some yX9_nest, some yX9_fallTo, some yX9_inBlock, some yX9_readWord, some yX9_isBlank, some yX9_readUpTo, some yX9_skipLine, some yX9_isRead, some yX10_init, some yX10_addLine], [some yX10_become, some yX10_isLike, some yX10_holds, some yX10_isFull, some yX10_has, some yX10_isKind, some yX10_isEnded, some yX10_set, some yX10_make, some yX10_end, some yX10_newest, some yX10_tell, some yX10_letter, some yX11_init, some yX11_type, some yX11_wipe, some yX11_system, some yX11_evaluate, some yX11_go, some yX11_out, some yX11_count, some yX11_thrown, some yX11_depth, some yX11_cell], [some yX11_task, some yX11_fetch, some yX11_find, some yX11_word, some yX11_name, some yX11_item, some yX11_effect, some yX11_effectOf, some yX11_lean, some yX11_chip, some yX11_chipWord, some yX11_chipPut, some yX11_chipGo, some yX11_chipTold, some yX11_chipCell, some yX11_chipByte, some yX11_put, some yX11_keep, some yX11_again, some yX11_same, some yX11_systemOf, some yX11_taskOf, some yX11_stepsGood, some yX11_sameCells], [some yX11_sameBytes, some yX11_copyCells, some yX11_copyBytes, some yX11_spelled, some yX11_quotient, some yX12_bits, some yX12_mask, some yX12_wide, some yX12_round, some yX12_lies, some yX12_reach, some yX12_byteAt, some yX12_putByte, some yX12_high, some yX12_cellAt, some yX12_putCell, some yX12_depth, some yX12_may, some yX12_pop, some yX12_push, some yX12_top, some yX12_pushDouble, some yX12_popDouble, some yX12_frames], [some yX12_frameAt, some yX12_base, some yX12_newFrame, some yX12_put, some yX12_textFrame, some yX12_nested, some yX12_textSize, some yX12_textByte, some yX12_in, some yX12_isBlank, some yX12_word, some yX12_upTo, some yX12_wordAt, some yX12_itemAt, some yX12_isToken, some yX12_lower, some yX12_isName, some yX12_search, some yX12_newWord, some yX12_newName, some yX12_item, some yX12_items, some yX12_here, some yX12_lead], [some yX12_def, some yX12_beginDef, some yX12_endDef, some yX12_pair, some yX12_topPair, some yX12_hasPair, some yX12_numberBase, some yX12_flag, some yX12_stack, some yX12_roll, some yX12_pushReturn, some yX12_popReturn, some yX12_hasReturn, some yX12_returns, some yX12_floorOf, some yX12_quotient, some yX12_divided, some yX12_unsignedDivided, some yX12_signedDivided, some yX12_reckon, some yX12_compare, some yX12_grow, some yX12_up, some yX12_storing], [some yX12_rows, some yX12_hold, some yX12_letter, some yX12_digits, some yX12_print, some yX12_type, some yX12_spaces, some yX12_printing, some yX12_plain, some yX12_layString, some yX12_literal, some yX12_string, some yX12_comment, some yX12_named, some yX12_local, some yX12_is, some yX12_locals, some yX12_freeMark, some yX12_marker, some yX12_mark, some yX12_makes, some yX12_assign, some yX12_putValue, some yX12_postpone], [some yX12_ends, some yX12_compiles, some yX12_drops, some yX12_origin, some yX12_then, some yX12_swapPairs, some yX12_back, some yX12_settle, some yX12_loopEnds, some yX12_innermost, some yX12_control, some yX12_endCase, some yX12_does, some yX12_enter, some yX12_isCompiling, some yX12_isOnly, some yX12_builtIn, some yX12_asks, some yX12_nest, some yX12_open, some yX12_loopAt, some yX12_exit, some yX12_loops, some yX12_beginLoop], [some yX12_goOn, some yX12_runItem, some yX12_doItem, some yX12_isLocal, some yX12_doLocal, some yX12_orders, some yX12_taskAt, some yX12_passes, some yX12_emptyRows, some yX12_taskEnds, some yX12_tasks, some yX12_receive, some yX12_takeBox, some yX12_tests, some yX12_thrown, some yX12_restore, some yX12_outOf, some yX12_digit, some yX12_isNumber, some yX12_interpret, some yX12_textEnds, some yX12_step, some yX12_look, some yX12_steps], [some yX12_conflict, some yX12_come, some yX12_goThrough, some yX12_taking, some yX12_ending, some yX12_visit, some yX12_comeToo, some yX12_visitWord, some yX12_visitBuiltIn, some yX12_effectOf, some yX12_laysLed, some yX12_isLed, some yX12_fold, some yX12_isFolding, some yX12_isTurning, some yX12_drop, some yX12_leanAt, some yX12_partOf, some yX12_chipWords, some yX12_measures, some yX12_lays, some yX12_chipStep, some yX12_chipExit, some yX12_init], [some yX12_isIn, some yX12_isSystem, some yX12_type_, some yX12_wipe, some yX12_copyTape, some yX12_systems, some yX12_system, some yX12_evaluate, some yX12_go, some yX12_out, some yX12_count, some yX12_thrown_, some yX12_depth_, some yX12_cell, some yX12_task, some yX12_fetch, some yX12_find, some yX12_isOf, some yX12_word_, some yX12_name, some yX12_item_, some yX12_isEnded, some yX12_effect, some yX12_effectOf_], [some yX12_lean, some yX12_chip, some yX12_chipWord, some yX12_lookChip, some yX12_chipPut, some yX12_chipGo, some yX12_chipTold, some yX12_chipCell, some yX12_chipByte, some yX12_put_, some yX12_copy, some yX12_keep, some yX12_again, some yX12_rowsAlike, some yX12_same, some yX12_tasksAlike, some yJ9_floorDiv_f86c9, some yJ9_abs_067f4, some yJ9_max_7cf53, some yJ9_min_7cf53, some yJ9_min_f86c9, some yJ0_length_8abf5, some yJ0_charAt_5068e, some yJ0_coder_7d493], [some yJ0_isLatin1_aae02, some yJ0_checkIndex_df160, some yJ1_charAt_3b067, some yJ2_getChar_3b067, some yJ2_length_9d52b, some yJ2_charAt_3b067, some yJ2_checkIndex_2214a, some yJ7_rangeCheck_23922, some yJ7_fill_53178, some yJ7_fill_031fb, some yJ7_fill_eb02e, some yJ3_checkIndex_8e157, some yL_law]]
def zmn : Nat → MethodName := fun k => (zlook 24 zmnL k).getD yL_law
def zlkL_0 : List (List (Option (Nat × Nat × Nat × Nat))) := [[none, none, none, some (9, 0, 0, 297), none, none, none, none, none, some (0, 0, 0, 414), none, none, none, none, none, some (3, 7, 0, 298), none, some (2, 158, 0, 300), some (0, 0, 2, 417), none, none, none, some (3, 8, 0, 333), none, some (1, 175, 1, 335), none, none, some (0, 0, 3, 419), none, none, none, some (0, 0, 7, 425)], [none, none, some (0, 0, 8, 426), none, none, some (0, 0, 9, 427), none, none, some (0, 0, 1, 416), none, none, none, some (1, 178, 0, 2021), none, none, some (0, 0, 4, 421), none, none, some (0, 0, 5, 423), none, none, some (0, 0, 6, 424), none, none, some (1, 4, 2, 2022), none, none, none, some (0, 0, 10, 428), none, none, some (1, 7, 2, 2044)], [none, none, none, some (0, 1, 0, 899), none, none, some (1, 159, 1, 2063), none, none, some (0, 8, 13, 365), none, none, some (1, 512, 2, 2026), none, none, none, none, none, some (1, 3, 1, 2029), none, none, none, some (0, 1, 1, 902), none, none, some (1, 246, 1, 2033), none, none, none, none, none, some (1, 244, 2, 2034)], [none, none, none, some (0, 10, 3, 536), none, none, some (0, 10, 4, 540), none, none, some (0, 1, 2, 905), none, none, none, some (1, 82, 1, 2035), none, none, none, none, some (1, 5, 2, 2036), none, none, some (0, 2, 0, 598), none, none, none, some (0, 2, 1, 603), none, none, some (1, 242, 1, 2040), some (0, 10, 0, 529), some (1, 6, 1, 2041)], [none, some (0, 10, 5, 542), none, none, some (1, 9, 1, 2048), none, none, some (1, 8, 2, 2057), none, none, some (1, 86, 1, 2062), none, none, some (5, 16777216, 0, 2052), some (1, 10, 1, 2053), none, none, some (5, 285212672, 0, 2061), some (0, 8, 7, 351), none, none, some (1, 185, 1, 2088), none, none, none, some (1, 13, 1, 2097), none, none, none, some (1, 1, 1, 2101), some (1, 219, 2, 2102)], [none, none, some (1, 194, 1, 2103), none, none, some (8, 13, 0, 2104), none, none, some (8, 14, 0, 2105), none, none, some (1, 181, 2, 2106), none, none, some (1, 199, 1, 2107), none, none, some (0, 8, 11, 360), none, none, some (1, 196, 0, 2108), none, none, none, some (1, 14, 0, 2109), none, none, some (0, 8, 8, 354), none, none, some (0, 8, 9, 356)], [none, some (0, 8, 10, 358), none, none, some (1, 179, 1, 2121)]]
def zlkT_0 : Nat → Option (Nat × Nat × Nat × Nat) := fun k => zlook 32 zlkL_0 k
def zlk_0 : Nat → Option (Nat × Nat × Nat × Nat) := fun k => cond (Nat.blt k 1060) (zlkT_0 k) none
def zlkL_1 : List (List (Option (Nat × Nat × Nat × Nat))) := [[none, none, none, some (9, 0, 0, 456), none, none, none, none, none, some (3, 7, 0, 457), none, some (2, 158, 0, 458), some (0, 1, 0, 898), none, none, none, none, none, some (3, 10, 0, 459), none, some (1, 238, 0, 461), some (0, 1, 1, 901), none, none, none, some (3, 2, 0, 591), none, some (2, 79, 0, 593), some (0, 1, 2, 904)], [some (3, 9, 0, 619), none, some (1, 225, 1, 621), none, none, some (0, 1, 3, 907), none, none, none, some (3, 5, 0, 681), none, some (1, 120, 1, 683), none, none, some (0, 1, 4, 909), none, none, none, some (3, 4, 0, 740), none, some (1, 111, 0, 742), some (0, 1, 5, 910), none, none, none, some (3, 6, 0, 791), none, some (2, 147, 0, 793), some (0, 1, 6, 911)], [some (3, 3, 0, 826), none, some (1, 89, 3, 828), none, none, some (0, 1, 7, 913), none, none, none, some (3, 8, 0, 895), none, some (0, 1, 8, 915), none, none, none, some (0, 1, 14, 925), none, none, none, some (0, 1, 16, 927), none, none, some (1, 175, 1, 897), some (0, 8, 14, 367), none, none, some (0, 7, 1, 308), none, none, some (0, 7, 2, 312)], [some (1, 169, 2, 1004), none, none, none, some (1, 159, 1, 2142), none, none, some (1, 240, 1, 2143), none, none, some (1, 80, 1, 2151), none, some (1, 226, 1, 2157), none, none, some (1, 121, 1, 2163), none, none, some (1, 112, 1, 2169), none, none, some (1, 148, 1, 2174), none, none, some (1, 176, 1, 2180), none, none, some (0, 1, 9, 917), none, none, some (0, 1, 10, 918)], [none, some (0, 1, 11, 919), none, none, some (0, 1, 12, 921), none, none, some (0, 1, 13, 923), none, none, some (1, 177, 1, 2197), none, none, none, some (1, 160, 1, 2204), none, none, some (1, 241, 1, 2211), none, none, some (1, 81, 1, 2217), none, none, some (1, 227, 1, 2223), none, none, some (1, 122, 1, 2228), none, none, some (1, 113, 1, 2232)], [some (0, 7, 3, 315), none, none, some (0, 10, 12, 559), none, none, some (0, 2, 2, 610), some (0, 6, 1, 799), some (0, 5, 1, 689), none, none, none, some (0, 4, 2, 751), some (0, 4, 1, 749), none, none, some (0, 4, 3, 753), none, none, some (0, 6, 6, 806), none, none, some (0, 6, 7, 808), none, none, some (0, 9, 11, 646), none, none, some (0, 10, 13, 561), none, none, some (0, 5, 12, 706)], [none, none, some (0, 9, 10, 643), none, none, some (0, 4, 0, 747), none, none, none, some (1, 162, 0, 1226), none, none, none, some (1, 250, 4, 1245), none, none, none, some (0, 5, 4, 695), none, none, some (1, 22, 0, 1313), none, none, some (0, 1, 17, 928), none, none, some (1, 27, 0, 1036), none, none, none, some (1, 46, 0, 1289)], [none, some (1, 90, 1, 1785), none, none, none, some (1, 42, 1, 1845), none, none, none, some (1, 25, 0, 1040), none, none, none, some (0, 8, 16, 374), none, none, some (1, 29, 1, 1044), none, none, none, some (0, 8, 17, 376), none, none, some (1, 30, 1, 1056), none, none, some (1, 192, 0, 1072), none, none, some (1, 33, 1, 1080)], [some (1, 32, 1, 1190), none, none, some (1, 24, 0, 1195), none, none, some (1, 37, 0, 1199), none, none, some (1, 44, 1, 1277), none, none, some (0, 1, 15, 926), none, none, some (1, 242, 1, 1048), none, none, none, some (1, 28, 2, 1052), none, none, none, some (1, 31, 1, 1060), none, none, some (1, 181, 2, 1064), none, none, none, some (0, 8, 6, 348)], [none, some (1, 182, 1, 1068), none, none, some (0, 8, 12, 363), none, none, some (1, 195, 0, 1194), none, none, some (0, 8, 13, 366), none, none, some (1, 82, 1, 1084), some (0, 2, 1, 606), none, none, some (0, 2, 0, 601), none, none, none, some (1, 34, 2, 1088), none, none, none, some (1, 66, 1, 1106), none, none, some (1, 84, 2, 1114), none, none, some (1, 35, 1, 1118)], [none, none, some (1, 219, 2, 1151), none, none, some (1, 245, 2, 1092), none, none, none, some (0, 10, 5, 543), none, some (1, 196, 0, 1097), none, none, some (1, 183, 0, 1110), none, none, some (1, 165, 1, 1122), none, none, none, some (1, 36, 2, 1126), none, none, none, some (1, 166, 2, 1130), none, none, some (0, 7, 0, 306), none, none, some (1, 153, 3, 1135)], [none, none, none, some (1, 233, 1, 1203), none, none, none, some (1, 38, 0, 1218), none, none, some (0, 9, 7, 638), none, none, some (0, 9, 8, 640), none, none, some (1, 130, 3, 1230), none, none, none, some (1, 21, 2, 1241), none, none, none, some (1, 39, 0, 1250), none, none, some (1, 244, 2, 1272), none, none, some (8, 15, 0, 1276)], [none, some (0, 9, 6, 636), none, none, some (1, 231, 2, 1222), none, none, some (1, 41, 2, 1254), none, none, none, some (1, 173, 0, 1264), none, none, some (1, 40, 1, 1269), none, none, some (1, 164, 1, 1258), none, none, none, some (1, 163, 0, 1259), none, none, some (1, 83, 1, 1260), none, none, some (1, 197, 0, 1849), none, none, some (0, 8, 5, 346)], [none, some (1, 198, 2, 1853), some (1, 43, 1, 1857), none, none, some (1, 168, 1, 1743), none, none, some (1, 178, 0, 1281), none, none, some (0, 5, 5, 697), none, none, some (0, 10, 3, 537), none, none, some (1, 499, 2, 1861), none, none, none, none, some (0, 5, 3, 693), none, none, some (1, 124, 0, 1862), none, none, some (0, 8, 15, 372), none, none, some (1, 45, 0, 1285)], [none, none, some (0, 10, 0, 531), some (1, 194, 1, 1293), none, none, some (1, 48, 2, 1301), none, none, some (1, 49, 2, 1309), none, none, some (1, 47, 2, 1305), none, none, some (8, 13, 0, 1322), none, none, some (8, 14, 0, 1324), none, none, some (1, 199, 1, 1326), none, none, some (1, 50, 2, 1476), none, none, some (1, 53, 2, 1515), none, none, some (1, 136, 1, 1672)], [none, some (1, 73, 2, 1735), none, none, some (0, 8, 11, 361), none, none, some (0, 4, 4, 755), none, none, some (0, 4, 8, 762), none, none, some (0, 4, 5, 757), none, none, some (0, 4, 7, 760), none, none, some (1, 119, 1, 1317), none, some (1, 51, 2, 1480), none, none, none, some (1, 151, 1, 1496), none, none, some (1, 152, 1, 1497), none, none, some (0, 7, 4, 318)], [none, none, some (1, 52, 2, 1502), none, none, some (1, 188, 0, 1514), none, none, none, some (1, 174, 1, 1509), none, none, some (1, 154, 2, 1484), none, none, some (1, 189, 0, 1506), none, none, some (2, 292, 2, 1507), none, none, none, some (1, 155, 1, 1508), none, none, none, some (1, 187, 1, 1513), none, none, some (1, 54, 1, 1519)], [some (1, 55, 1, 1523), none, none, some (1, 56, 1, 1540), none, none, some (1, 61, 2, 1564), none, none, some (1, 62, 1, 1568), none, none, some (1, 63, 0, 1577), none, none, some (1, 64, 2, 1585), none, none, some (0, 8, 7, 352), none, none, some (1, 125, 0, 1556), none, none, some (1, 65, 1, 1589), none, none, some (1, 60, 0, 1593), none, none, some (1, 67, 2, 1601)], [none, some (1, 235, 2, 1605), none, none, some (1, 236, 1, 1610), none, none, none, some (1, 68, 0, 1619), none, none, some (1, 58, 0, 1642), none, none, some (1, 59, 0, 1646), none, none, some (1, 71, 1, 1655), none, none, some (1, 70, 2, 1668), none, none, some (1, 243, 0, 1527), none, none, some (0, 5, 2, 691), none, none, some (1, 248, 5, 1531)], [none, some (1, 123, 2, 1536), none, none, some (1, 127, 0, 1544), none, none, some (1, 57, 0, 1552), none, none, some (1, 249, 2, 1560), none, none, some (1, 247, 2, 1581), none, none, some (0, 5, 7, 700), none, none, some (1, 85, 1, 1650), none, none, some (1, 129, 1, 1597), none, none, some (1, 170, 1, 1572), some (1, 118, 3, 1573), none, none, some (10, 0, 0, 1609)], [none, none, none, some (1, 128, 1, 1623), none, none, some (1, 237, 2, 1624), none, none, some (1, 69, 2, 1628), none, none, some (1, 131, 3, 1637), none, none, none, some (1, 132, 1, 1632), none, none, some (1, 72, 4, 1659), none, none, none, some (1, 193, 1, 1663), none, some (1, 230, 3, 1664), none, none, some (1, 74, 1, 1739), none, none, some (1, 115, 1, 1744)], [none, none, some (1, 116, 0, 1748), none, none, some (1, 117, 0, 1752), none, none, some (1, 114, 0, 1756), none, none, some (1, 75, 1, 1760), none, none, some (1, 76, 1, 1764), none, none, some (1, 77, 1, 1769), none, none, some (1, 78, 1, 1773), none, none, some (0, 6, 3, 802), none, none, some (1, 156, 1, 1777), none, none, some (1, 157, 1, 1781)], [some (1, 186, 1, 1768)]]
def zlkT_1 : Nat → Option (Nat × Nat × Nat × Nat) := fun k => zlook 32 zlkL_1 k
def zlk_1 : Nat → Option (Nat × Nat × Nat × Nat) := fun k => cond (Nat.blt k 1060) (zlkT_1 k) none
def zlkL_2 : List (List (Option (Nat × Nat × Nat × Nat))) := [[none, none, none, some (9, 0, 0, 596), none, none, none, none, none, some (0, 2, 0, 597), none, none, none, none, none, some (0, 2, 1, 602), none, none, none, some (2, 290, 2, 2155), none, none, none, some (2, 289, 2, 2156), none, none, none, some (0, 2, 2, 608), none, none, none, some (2, 288, 3, 2221)], [none, none, none, some (2, 287, 4, 2222), none, none, none, some (1, 82, 1, 1654)]]
def zlkT_2 : Nat → Option (Nat × Nat × Nat × Nat) := fun k => zlook 32 zlkL_2 k
def zlk_2 : Nat → Option (Nat × Nat × Nat × Nat) := fun k => cond (Nat.blt k 1060) (zlkT_2 k) none
def zlkL_3 : List (List (Option (Nat × Nat × Nat × Nat))) := [[none, none, none, some (9, 0, 0, 831), none, none, none, none, none, some (0, 3, 3, 837), none, none, none, none, none, some (0, 3, 4, 838), none, none, some (0, 3, 5, 839), none, none, some (0, 3, 6, 840), none, none, none, some (0, 3, 0, 834), none, none, none, some (0, 3, 1, 835)], [none, some (3, 8, 0, 832), none, some (1, 175, 1, 833), none, none, some (0, 3, 2, 836), none, none, none, some (1, 246, 1, 1789), none, none, none, none, none, some (0, 3, 7, 841), none, none, none, some (0, 10, 3, 535), none, none, some (0, 3, 8, 842), none, none, some (0, 10, 4, 539), none, none, some (0, 2, 2, 609)], [none, none, some (1, 499, 2, 1795), none, none, none, none, none, some (0, 3, 9, 843), none, none, some (0, 3, 16, 850), none, none, none, some (0, 3, 17, 851), none, none, some (1, 91, 0, 1796), none, none, some (0, 3, 11, 845), none, none, some (0, 3, 13, 847), none, none, some (0, 3, 18, 852), none, none, some (0, 3, 14, 848)], [none, some (0, 3, 19, 853), none, none, some (1, 93, 2, 1821), none, none, none, some (0, 10, 8, 547), none, none, some (0, 10, 9, 550), none, none, some (0, 10, 10, 553), none, none, some (0, 10, 11, 556), none, none, some (0, 3, 12, 846), none, none, some (0, 3, 15, 849), none, none, some (0, 3, 10, 844), none, none, some (1, 94, 4, 1800)], [none, some (1, 92, 0, 1804), none, none, none, some (1, 98, 1, 1808), none, none, none, some (1, 95, 2, 1827), none, none, some (0, 2, 1, 604), none, none, some (0, 2, 0, 599), none, none, some (1, 245, 2, 1812), none, none, none, some (1, 101, 2, 1813), none, none, some (1, 100, 2, 1832), none, none, some (1, 96, 3, 1837)], [some (1, 99, 2, 1841), none, none, some (1, 97, 1, 1817), none, none, some (1, 242, 1, 1836), none, none, some (0, 10, 0, 530), some (8, 15, 0, 1825), none, none, some (8, 13, 0, 1826), none, none, some (8, 14, 0, 1831), none, none, some (1, 244, 2, 1964), none, none, some (1, 88, 2, 1965), some (1, 104, 0, 1974), none, none, some (1, 105, 0, 1978), none, none, some (1, 110, 2, 1986)], [some (1, 106, 1, 1990), none, none, some (1, 107, 1, 1998), none, none, some (1, 109, 3, 2001), none, none, none, some (1, 108, 1, 2010), none, none, some (1, 86, 1, 1982), none, none, some (1, 87, 2, 1994), none, none, some (1, 178, 0, 2005), none, none, some (1, 182, 1, 2006), none, none, some (1, 205, 1, 2007), none, none, none, some (1, 210, 1, 2008)], [some (1, 183, 0, 2009)]]
def zlkT_3 : Nat → Option (Nat × Nat × Nat × Nat) := fun k => zlook 32 zlkL_3 k
def zlk_3 : Nat → Option (Nat × Nat × Nat × Nat) := fun k => cond (Nat.blt k 1060) (zlkT_3 k) none
def zlkL_4 : List (List (Option (Nat × Nat × Nat × Nat))) := [[none, none, none, some (9, 0, 0, 745), none, none, none, none, none, some (0, 4, 0, 746), none, none, none, none, none, some (0, 4, 1, 748), none, none, none, some (0, 4, 2, 750), none, none, some (0, 4, 3, 752), none, none, some (0, 4, 5, 756), none, none, some (0, 4, 6, 758), none, none, some (0, 4, 7, 759)], [none, none, some (0, 4, 8, 761), none, none, some (0, 4, 9, 763), none, none, some (0, 4, 10, 764), none, none, some (0, 4, 11, 765), none, none, some (2, 289, 2, 2173), none, none, none, some (0, 4, 4, 754), none, none, some (2, 287, 4, 2236), none, none, none, some (10, 0, 0, 1321)]]
def zlkT_4 : Nat → Option (Nat × Nat × Nat × Nat) := fun k => zlook 32 zlkL_4 k
def zlk_4 : Nat → Option (Nat × Nat × Nat × Nat) := fun k => cond (Nat.blt k 1060) (zlkT_4 k) none
def zlkL_5 : List (List (Option (Nat × Nat × Nat × Nat))) := [[none, none, none, some (9, 0, 0, 686), none, none, none, none, none, some (0, 5, 5, 696), none, none, none, none, none, some (0, 5, 6, 698), none, none, some (0, 5, 7, 699), none, none, some (0, 5, 8, 701), none, none, some (0, 5, 9, 702), none, none, some (0, 5, 10, 703), none, none, none, some (0, 5, 11, 704)], [none, none, some (0, 5, 13, 707), none, none, some (0, 5, 14, 708), none, none, some (0, 5, 0, 687), none, none, none, some (0, 5, 1, 688), none, none, none, some (0, 5, 2, 690), none, none, some (0, 5, 3, 692), none, none, none, some (0, 5, 4, 694), none, none, some (2, 289, 2, 2167), none, none, none, some (2, 290, 2, 2168)], [none, none, some (0, 5, 12, 705), none, none, some (1, 126, 0, 1548), none, none, none, some (1, 128, 1, 1234), none, none, none, some (2, 291, 5, 1238), none, none, none, some (10, 0, 0, 1641), none, none, none, none, none, some (1, 129, 1, 1636), none, none, none, some (1, 138, 2, 1676), none, none, none, some (0, 2, 2, 611)], [none, none, none, none, some (1, 137, 2, 1686), none, none, some (1, 139, 0, 1690), none, none, some (1, 140, 2, 1703), none, none, some (1, 141, 1, 1707), none, none, none, some (1, 142, 0, 1711), none, none, some (1, 143, 0, 1715), none, none, some (1, 144, 1, 1719), none, none, some (1, 145, 0, 1727), none, none, some (1, 146, 0, 1731)], [some (1, 135, 3, 1681), none, none, none, some (1, 83, 1, 1680), none, none, some (1, 84, 2, 1685), none, none, some (1, 133, 1, 1694), none, none, some (1, 134, 1, 1698), none, none, some (1, 85, 1, 1702), none, none, some (1, 88, 2, 1723), none, none, none, some (0, 2, 1, 607)]]
def zlkT_5 : Nat → Option (Nat × Nat × Nat × Nat) := fun k => zlook 32 zlkL_5 k
def zlk_5 : Nat → Option (Nat × Nat × Nat × Nat) := fun k => cond (Nat.blt k 1060) (zlkT_5 k) none
def zlkL_6 : List (List (Option (Nat × Nat × Nat × Nat))) := [[none, none, none, some (9, 0, 0, 796), none, none, none, none, none, some (0, 6, 0, 797), none, none, none, none, none, some (0, 6, 2, 800), none, none, some (0, 6, 4, 803), none, none, none, some (2, 290, 2, 2178), none, none, none, some (0, 6, 1, 798), none, none, none, some (0, 6, 3, 801)], [none, some (2, 289, 2, 2179), none, none, none, some (0, 6, 5, 804), none, none, some (0, 6, 6, 805), none, none, some (0, 6, 7, 807), none, none, some (5, 2147483647, 0, 1150), some (1, 150, 1, 1146), none, none, none, some (1, 498, 2, 1139), none, none, none, none, none, some (1, 499, 2, 1142), none, none, some (1, 514, 4, 1501)], [none, none, some (10, 0, 0, 1145), none, none, none, none, none, some (1, 497, 1, 1488), none, none, none, some (1, 155, 1, 1489), none, none, none, some (1, 151, 1, 1492), none, none, none, some (0, 8, 7, 350), none, none, none, none, some (0, 8, 1, 341)]]
def zlkT_6 : Nat → Option (Nat × Nat × Nat × Nat) := fun k => zlook 32 zlkL_6 k
def zlk_6 : Nat → Option (Nat × Nat × Nat × Nat) := fun k => cond (Nat.blt k 1060) (zlkT_6 k) none
def zlkL_7 : List (List (Option (Nat × Nat × Nat × Nat))) := [[none, none, none, some (9, 0, 0, 303), none, none, none, none, none, some (0, 7, 0, 304), none, none, none, none, none, some (0, 7, 3, 314), none, none, none, some (0, 7, 4, 317), none, none, some (2, 290, 2, 2067), none, none, none, some (0, 7, 1, 309), none, none, some (0, 7, 2, 313)], [some (2, 288, 3, 2208), none, none, none, some (6, 4096, 0, 1134), none, some (6, 256, 0, 1432), none, some (1, 498, 2, 1446), none, none, none, none, none, some (1, 168, 1, 1268)]]
def zlkT_7 : Nat → Option (Nat × Nat × Nat × Nat) := fun k => zlook 32 zlkL_7 k
def zlk_7 : Nat → Option (Nat × Nat × Nat × Nat) := fun k => cond (Nat.blt k 1060) (zlkT_7 k) none
def zlkL_8 : List (List (Option (Nat × Nat × Nat × Nat))) := [[none, none, none, some (9, 0, 0, 338), none, none, none, none, none, some (0, 8, 1, 340), none, none, none, none, none, some (0, 8, 2, 342), none, none, some (0, 8, 3, 343), none, none, some (0, 8, 4, 344), none, none, some (0, 8, 5, 345), none, none, some (0, 8, 6, 347), none, none, some (0, 8, 13, 364)], [none, none, some (0, 8, 16, 373), none, none, some (0, 8, 0, 339), none, none, none, some (2, 289, 2, 2184), none, none, none, some (0, 8, 7, 349), none, none, some (0, 8, 8, 353), none, none, some (0, 8, 9, 355), none, none, some (0, 8, 10, 357), none, none, some (0, 8, 11, 359), none, none, some (0, 8, 12, 362), none, none, some (0, 8, 14, 368)], [none, none, some (0, 8, 15, 370), none, none, some (0, 8, 17, 375), none, none, none, some (2, 287, 4, 2201), none, none, none, some (1, 164, 1, 1169), none, none, none, none, none, some (1, 182, 1, 1155), none, none, none, some (1, 163, 0, 1165), none, none, none, some (1, 183, 0, 1156), none, none, some (1, 165, 1, 1346)], [none, none, some (1, 191, 1, 1076), none, none, none, some (1, 193, 1, 1297), none, none, none, some (1, 192, 0, 1101), none, none, some (1, 195, 0, 1102), none, none, some (1, 499, 2, 1378), none, none, none, none, none, some (1, 200, 1, 1330), none, none, some (1, 203, 1, 1347), none, none, some (1, 205, 1, 1355), none, none, some (1, 210, 1, 1407)], [none, none, some (1, 213, 1, 1424), none, none, some (1, 218, 1, 1472), none, none, some (1, 184, 1, 1177), none, none, some (1, 190, 1, 1334), none, none, some (1, 201, 0, 1338), none, none, some (1, 202, 1, 1342), none, none, some (1, 204, 3, 1351), none, none, none, some (1, 185, 1, 1359), none, none, some (1, 207, 2, 1363), none, none, some (6, 2, 0, 1374)], [some (1, 497, 1, 1375), none, none, none, some (1, 498, 2, 1379), none, none, some (1, 187, 1, 1380), none, none, some (1, 208, 1, 1384), none, none, some (1, 209, 2, 1395), none, none, some (1, 206, 1, 1403), none, none, some (1, 188, 0, 1399), none, none, none, some (1, 161, 0, 1367), none, none, none, some (1, 496, 2, 1371), none, none, none, some (1, 189, 0, 1388)], [none, none, some (2, 292, 2, 1392), none, none, some (8, 13, 0, 1411), none, none, none, some (1, 186, 1, 1412), none, none, none, some (1, 211, 2, 1416), none, none, none, some (1, 212, 1, 1420), none, none, some (0, 7, 3, 316), none, none, some (1, 171, 1, 1428), none, none, some (0, 7, 1, 311), none, none, some (1, 214, 2, 1433)], [some (1, 172, 1, 1442), none, none, some (1, 215, 1, 1447), none, none, some (1, 216, 1, 1458), none, none, some (1, 166, 2, 1451), none, none, none, some (1, 167, 1, 1463), none, none, some (1, 217, 2, 1467), none, none, some (1, 170, 1, 1437), none, none, some (0, 7, 0, 307), none, none, some (1, 169, 2, 1441), none, none, none, some (1, 514, 4, 1452)], [none, none, some (10, 0, 0, 1462), none, none, none, none, none, some (1, 168, 1, 1471), none, none, some (1, 220, 2, 1157), none, none, some (1, 221, 2, 1161), none, none, some (1, 222, 1, 1173), none, none, some (1, 223, 2, 1181), none, none, some (1, 224, 2, 1185), none, none, some (1, 181, 2, 1189)]]
def zlkT_8 : Nat → Option (Nat × Nat × Nat × Nat) := fun k => zlook 32 zlkL_8 k
def zlk_8 : Nat → Option (Nat × Nat × Nat × Nat) := fun k => cond (Nat.blt k 1060) (zlkT_8 k) none
def zlkL_9 : List (List (Option (Nat × Nat × Nat × Nat))) := [[none, none, none, some (9, 0, 0, 624), none, none, none, none, none, some (0, 9, 1, 629), none, none, none, none, none, some (0, 9, 2, 630), none, none, some (0, 9, 3, 632), none, none, none, some (0, 9, 4, 633), none, none, some (0, 9, 5, 634), none, none, some (0, 9, 6, 635), none, none, some (0, 9, 7, 637)], [none, none, some (0, 9, 0, 628), none, none, none, some (1, 513, 2, 625), none, none, none, none, none, some (0, 9, 12, 647), none, none, some (2, 290, 2, 2161), none, none, none, some (2, 289, 2, 2162), none, none, none, some (0, 9, 9, 641), none, none, none, some (0, 9, 10, 642), none, none, some (0, 9, 11, 644)], [none, none, some (1, 228, 0, 1028), none, none, some (2, 288, 3, 2227), none, none, none, some (0, 9, 13, 648), none, none, some (0, 9, 14, 649), none, none, some (0, 7, 0, 305), none, none, none, none, some (10, 0, 0, 1024), none, none, none, none, none, some (1, 169, 2, 1027), none, none, none, some (1, 168, 1, 1207)], [none, none, some (0, 9, 8, 639), none, none, some (1, 165, 1, 1211), none, none, none, some (1, 500, 2, 1212), none, none, none, none, none, some (1, 234, 1, 1215), none, none, none, some (1, 232, 0, 1614), none, none, none, some (1, 235, 2, 1618)]]
def zlkT_9 : Nat → Option (Nat × Nat × Nat × Nat) := fun k => zlook 32 zlkL_9 k
def zlk_9 : Nat → Option (Nat × Nat × Nat × Nat) := fun k => cond (Nat.blt k 1060) (zlkT_9 k) none
def zlkL_10 : List (List (Option (Nat × Nat × Nat × Nat))) := [[none, none, none, some (9, 0, 0, 464), none, none, none, none, none, some (0, 10, 0, 528), none, none, none, none, none, some (0, 10, 1, 532), none, none, some (0, 10, 2, 533), none, none, some (0, 10, 3, 534), none, none, none, some (0, 10, 4, 538), none, none, some (0, 10, 5, 541), none, none, some (0, 10, 6, 544)], [none, none, some (0, 10, 7, 545), none, none, some (0, 10, 8, 546), none, none, some (0, 10, 9, 549), none, none, some (0, 10, 10, 552), none, none, some (0, 10, 11, 555), none, none, some (0, 10, 13, 560), none, none, none, some (7, 0, 0, 465), none, some (1, 239, 1, 466), none, none, none, some (7, 1, 0, 520), none, some (7, 2, 0, 521), none, some (7, 3, 0, 522)], [none, some (7, 4, 0, 523), none, some (7, 5, 0, 524), none, some (7, 6, 0, 525), none, some (7, 7, 0, 526), none, some (7, 8, 0, 527), none, some (1, 501, 0, 470), none, none, none, none, none, some (1, 502, 1, 480), none, none, none, some (0, 10, 12, 558), none, none, some (8, 15, 0, 518), none, none, some (2, 290, 2, 2147), none, none, none, some (2, 289, 2, 2148)], [none, none, none, some (1, 251, 2, 2215), none, none, none, some (1, 252, 2, 2216), none, none, some (1, 242, 1, 1096), none, none, none, some (1, 245, 2, 1793), none, none, none, some (1, 244, 2, 1794), none, none, some (10, 0, 0, 1535), none, none, none, none, none, some (2, 291, 5, 1249)]]
def zlkT_10 : Nat → Option (Nat × Nat × Nat × Nat) := fun k => zlook 32 zlkL_10 k
def zlk_10 : Nat → Option (Nat × Nat × Nat × Nat) := fun k => cond (Nat.blt k 1060) (zlkT_10 k) none
def zlkL_11 : List (List (Option (Nat × Nat × Nat × Nat))) := [[none, some (9, 0, 0, 287), none, none, none, none, none, none, none, some (0, 11, 0, 966), none, none, none, some (3, 1, 0, 290), none, some (0, 11, 2, 968), none, none, none, some (0, 11, 4, 970), none, none, some (0, 11, 5, 971), none, none, none, some (3, 0, 0, 292), none, some (2, 0, 0, 294), some (0, 11, 6, 972)], [none, some (1, 16, 0, 453), some (0, 11, 1, 967), none, none, none, some (0, 11, 3, 969), none, none, some (1, 17, 2, 1000), none, none, none, some (1, 255, 0, 1012), none, none, none, some (1, 284, 1, 1013), none, none, none, some (1, 286, 1, 1017), none, none, none, some (0, 1, 3, 908), none, none, none, some (0, 9, 11, 645)], [none, none, none, some (1, 229, 2, 1020), none, none, none, some (1, 26, 1, 1032), none, none, none, some (0, 1, 6, 912), none, none, none, some (1, 149, 1, 1874), none, none, none, none, some (1, 20, 1, 1882), none, none, some (0, 1, 11, 920), none, none, some (0, 1, 12, 922), none, none, some (0, 1, 13, 924)], [some (1, 285, 2, 1894), none, none, none, some (1, 179, 1, 1898), none, none, none, none, some (1, 180, 2, 1906), none, none, none, some (0, 8, 14, 369), none, none, some (0, 8, 15, 371), none, none, some (0, 1, 0, 900), none, none, none, some (0, 7, 1, 310), none, none, none, none, some (1, 166, 2, 1918)], [some (1, 167, 1, 1919), none, none, some (1, 168, 1, 1920), none, none, some (1, 21, 2, 1925), none, none, none, some (0, 1, 1, 903), none, none, none, some (1, 251, 2, 1930), none, none, none, none, some (1, 252, 2, 1938), none, none, some (0, 1, 2, 906), none, none, none, some (1, 82, 1, 1946), none, none, none, some (0, 2, 0, 600)], [none, some (0, 2, 1, 605), none, none, none, some (1, 246, 1, 1951), none, none, some (0, 10, 8, 548), none, none, some (0, 10, 9, 551), none, none, some (0, 10, 10, 554), none, none, some (0, 10, 11, 557), none, none, some (0, 1, 7, 914), none, none, none, some (1, 102, 1, 1960), none, none, none, none, some (1, 23, 0, 1966)], [none, some (1, 103, 1, 1970), none, none, some (1, 2, 2, 2017), none, none, none, some (1, 1, 1, 2076), some (0, 0, 0, 415), none, some (1, 11, 1, 2084), none, none, some (1, 12, 1, 2093), some (1, 15, 1, 2117), none, some (0, 0, 3, 420), none, none, none, some (0, 0, 4, 422), some (0, 0, 2, 418), some (0, 9, 2, 631), none, none, some (10, 0, 0, 2071)], [some (1, 18, 1, 2138), none, none, none, some (1, 19, 1, 2193), none, none, none, some (0, 1, 8, 916), none, none, none, some (1, 499, 2, 2070)]]
def zlkT_11 : Nat → Option (Nat × Nat × Nat × Nat) := fun k => zlook 32 zlkL_11 k
def zlk_11 : Nat → Option (Nat × Nat × Nat × Nat) := fun k => cond (Nat.blt k 1060) (zlkT_11 k) none
def zlkL_12 : List (List (Option (Nat × Nat × Nat × Nat))) := [[none, some (0, 12, 5, 2249), none, none, none, none, none, some (1, 293, 0, 2442), none, none, none, some (1, 294, 0, 2486), none, none, none, some (6, 4096, 0, 2571), none, some (1, 295, 1, 2482), none, none, none, some (1, 297, 2, 2567), none, none, none, some (0, 12, 6, 2250), none, none, some (0, 12, 0, 2244)], [some (0, 12, 3, 2247), none, none, some (1, 299, 1, 2576), none, none, none, some (1, 301, 0, 2384), none, none, none, some (1, 296, 1, 2438), none, none, some (1, 300, 2, 2388), none, none, none, some (0, 12, 4, 2248), none, none, some (1, 304, 0, 2430), none, none, some (1, 307, 1, 2434), none, none, none, some (1, 306, 0, 2474), none, none, some (1, 311, 0, 2506)], [none, none, some (1, 312, 1, 2510), none, none, none, some (5, 34356, 0, 2609), some (5, 2147483647, 0, 2610), some (5, 33332, 0, 2412), some (6, 4, 0, 2413), none, some (1, 302, 1, 2572), none, none, some (1, 316, 0, 2645), none, none, some (1, 318, 1, 2649), none, none, some (1, 320, 0, 2653), none, none, some (0, 12, 10, 2254), none, none, some (1, 303, 2, 2380), none, none, some (1, 319, 2, 2657)], [none, some (1, 321, 1, 2661), none, none, none, some (0, 12, 9, 2253), none, none, some (1, 327, 1, 2786), none, none, some (1, 324, 1, 2376), none, none, some (1, 328, 2, 2782), none, none, none, some (1, 322, 0, 2641), none, none, some (1, 325, 1, 2705), none, none, some (5, 37612, 0, 2717), some (1, 333, 1, 2697), none, none, some (1, 332, 2, 2701)], [some (1, 330, 2, 2372), none, none, none, some (1, 334, 0, 2709), none, none, some (1, 336, 0, 2713), none, none, some (5, 37420, 0, 2864), some (1, 340, 2, 2869), none, none, some (6, 18446744073709551615, 0, 2550), none, some (1, 308, 1, 2470), none, none, some (1, 345, 1, 2478), none, none, none, some (1, 305, 2, 2426), none, none, some (1, 313, 1, 2502), none, none, some (1, 346, 1, 2494)], [some (1, 348, 1, 2498), none, none, some (1, 347, 0, 2514), none, none, some (1, 350, 2, 2530), none, none, none, some (1, 351, 2, 2526), none, none, some (1, 310, 0, 2546), none, none, some (1, 352, 1, 2522), none, none, some (6, 2, 0, 2533), none, some (1, 353, 0, 2534), none, none, none, some (1, 309, 1, 2538), none, none, some (1, 354, 1, 2542)], [some (1, 343, 1, 2555), none, none, some (6, 256, 0, 2584), none, some (1, 298, 2, 2563), none, none, none, some (1, 357, 1, 2580), none, none, some (1, 358, 1, 2585), none, none, none, some (1, 360, 2, 2589), none, none, some (6, 10, 0, 2614), none, some (6, 48, 0, 2615), none, some (6, 65, 0, 2616), none, some (1, 342, 0, 2601), none, none, some (1, 362, 1, 2611), none, none, some (1, 361, 1, 2629)], [none, none, some (1, 315, 1, 2605), none, none, some (1, 364, 1, 2597), none, none, some (1, 366, 1, 2617), none, none, some (1, 365, 2, 2621), none, none, none, some (1, 363, 1, 2625), none, none, some (0, 12, 8, 2252), none, none, some (1, 344, 1, 2466), none, none, some (1, 349, 1, 2490), none, none, some (1, 355, 1, 2518), none, none, some (1, 356, 1, 2551)], [none, some (1, 359, 1, 2559), none, none, some (1, 367, 1, 2593), none, none, some (1, 323, 1, 2810), none, none, some (1, 369, 0, 2814), none, none, some (1, 370, 1, 2770), none, none, some (6, 128, 0, 2818), none, some (6, 512, 0, 2823), none, some (1, 329, 0, 2778), none, none, some (1, 501, 0, 2833), none, none, none, none, some (1, 502, 1, 2371)], [some (7, 10, 0, 2828), none, some (1, 375, 1, 2829), none, none, none, some (7, 11, 0, 2834), none, some (7, 12, 0, 2835), none, some (1, 331, 0, 2637), none, none, some (1, 377, 0, 2668), none, none, some (5, 39112, 0, 2672), some (1, 378, 0, 2664), none, none, some (1, 374, 0, 2798), none, none, some (1, 382, 2, 2802), none, none, some (1, 326, 1, 2446), none, none, none, some (1, 373, 0, 2774)], [none, some (1, 338, 0, 2722), none, none, some (1, 441, 1, 2726), none, none, some (1, 335, 2, 2766), none, none, some (1, 337, 2, 2693), none, none, none, some (1, 384, 1, 2718), none, none, some (1, 383, 0, 2790), none, none, some (1, 381, 1, 2794), none, none, some (1, 371, 1, 2806), none, none, some (1, 372, 0, 2819), none, none, some (1, 376, 0, 2824)], [some (1, 339, 3, 2860), none, none, none, some (1, 386, 0, 2873), none, none, some (1, 391, 3, 2893), none, none, some (1, 387, 1, 2856), none, none, some (1, 388, 0, 2865), none, none, some (1, 390, 1, 2877), none, none, some (1, 341, 1, 2881), none, none, some (1, 389, 0, 2885), none, none, some (1, 392, 1, 2889), none, none, some (1, 393, 0, 2897), none, none, some (1, 395, 0, 2901)], [none, none, some (1, 400, 1, 2454), none, none, some (1, 397, 1, 2947), none, none, some (1, 379, 2, 2951), none, none, none, some (1, 314, 1, 2685), none, none, some (1, 398, 1, 2458), none, none, some (1, 368, 1, 2462), none, none, some (1, 380, 1, 2633), none, none, some (1, 401, 1, 2673), none, none, some (1, 385, 1, 2689), none, none, some (1, 406, 1, 2836)], [none, some (1, 394, 1, 2852), none, none, some (1, 413, 1, 2905), none, none, some (1, 418, 1, 2909), none, none, some (1, 421, 1, 2941), none, none, some (1, 402, 3, 2677), none, none, some (1, 396, 2, 2450), none, none, some (1, 317, 0, 2681), none, none, some (1, 405, 0, 2840), none, none, some (1, 403, 0, 2844), none, none, some (1, 404, 1, 2848), none, none, some (1, 410, 3, 2978)], [none, none, some (1, 407, 2, 2982), none, none, some (1, 408, 3, 2986), none, none, none, some (1, 412, 3, 2990), none, none, some (1, 411, 2, 2994), none, none, some (1, 414, 1, 2408), none, none, some (1, 416, 1, 2913), none, none, some (1, 415, 0, 2917), none, none, some (1, 422, 0, 2925), none, none, some (1, 417, 1, 2921), none, none, some (1, 419, 0, 2937)], [none, some (1, 420, 0, 2422), none, none, some (6, 7, 0, 2945), none, some (5, 37356, 0, 2946), some (1, 423, 1, 2929), none, none, some (1, 424, 1, 2933), none, none, some (0, 12, 11, 2255), none, none, none, some (0, 12, 14, 2258), none, none, some (0, 12, 13, 2257), none, none, none, some (0, 12, 12, 2256), none, none, some (1, 425, 1, 2971), none, none, some (1, 428, 0, 2959)], [none, some (1, 399, 1, 2963), none, none, some (1, 426, 0, 2967), none, none, some (1, 427, 0, 2955), none, none, some (1, 409, 1, 2974), none, none, some (5, 39700, 0, 2369), some (1, 430, 1, 2404), none, none, some (1, 429, 0, 2418), none, none, some (0, 12, 19, 2263), none, none, some (0, 12, 20, 2264), none, none, some (0, 12, 17, 2261), none, none, some (0, 12, 18, 2262)], [some (1, 432, 2, 2750), none, none, some (0, 12, 16, 2260), none, none, some (0, 12, 15, 2259), none, none, some (0, 12, 21, 2265), none, none, some (0, 12, 23, 2267), none, none, some (0, 12, 24, 2268), none, none, some (1, 437, 5, 2734), none, none, none, some (0, 12, 22, 2266), none, none, some (1, 439, 9, 2738), none, none, none, some (1, 433, 5, 2758)], [none, some (1, 435, 3, 2754), none, none, none, some (1, 438, 5, 2762), none, none, some (1, 436, 4, 2746), none, none, none, some (1, 440, 5, 2742), none, none, some (1, 434, 4, 2730), none, none, none, some (0, 12, 25, 2269), none, none, none, some (1, 456, 3, 2354), none, none, none, some (1, 447, 3, 3074), none, none, some (1, 443, 2, 3078)], [none, some (1, 445, 1, 3082), none, none, some (1, 444, 4, 3085), none, none, none, some (1, 446, 1, 3089), none, none, some (0, 12, 34, 2278), none, none, some (0, 12, 32, 2276), none, none, some (0, 12, 33, 2277), none, none, some (0, 12, 27, 2271), none, none, some (1, 450, 1, 3104), none, none, some (0, 12, 7, 2251), none, none, some (1, 449, 1, 3096)], [some (0, 12, 26, 2270), none, none, some (5, 16777216, 0, 3112), some (5, 285212672, 0, 3113), some (0, 12, 28, 2272), none, none, some (5, 16777215, 0, 3135), some (0, 12, 30, 2274), none, none, some (1, 454, 0, 3136), none, none, some (5, 238201, 0, 3140), some (5, 238204, 0, 3141), some (5, 238200, 0, 3142), some (0, 12, 29, 2273), none, none, some (0, 12, 31, 2275), none, none, some (9, 0, 0, 2242), none, none, none, none, some (5, 238220, 0, 2243), some (0, 12, 1, 2245)], [none, none, some (0, 12, 2, 2246), none, none, some (1, 461, 0, 2365), none, none, some (7, 9, 0, 2370), none, some (1, 460, 0, 2396), none, none, some (1, 457, 1, 2400), none, none, some (1, 431, 2, 2414), none, none, some (1, 473, 2, 3038), none, none, some (1, 477, 2, 3054), none, none, some (1, 442, 1, 3066), none, none, some (1, 448, 2, 3070), none, none, some (1, 451, 1, 3100)], [none, none, some (1, 452, 1, 3108), none, none, some (5, 198500, 0, 3114), some (1, 483, 0, 3123), none, none, some (1, 453, 0, 3131), none, none, some (5, 229192, 0, 3147), some (5, 198600, 0, 3156), some (1, 490, 2, 3165), none, none, some (1, 493, 4, 3177), none, none, none, some (1, 495, 2, 3180)]]
def zlkT_12 : Nat → Option (Nat × Nat × Nat × Nat) := fun k => zlook 32 zlkL_12 k
def zlk_12 : Nat → Option (Nat × Nat × Nat × Nat) := fun k => cond (Nat.blt k 1060) (zlkT_12 k) none
def zlkL_13 : List (List (Option (Nat × Nat × Nat × Nat))) := [[none, none, none, none, none, none, none, some (3, 11, 0, 282), none, some (1, 253, 0, 284), some (3, 12, 0, 2237), none, some (1, 455, 0, 2239), some (6, 4294967295, 0, 3184), none, some (1, 254, 2, 988), none, none, none, some (1, 458, 2, 2350), some (1, 255, 0, 992), none, none, none, some (1, 459, 0, 2357), some (1, 256, 2, 996), none, none, none, some (1, 462, 2, 2361), some (1, 257, 2, 1008)], [none, some (1, 463, 2, 2392), some (1, 258, 2, 1866), none, none, some (1, 464, 2, 2998), some (1, 259, 2, 1870), none, none, some (1, 465, 2, 3002), some (1, 260, 2, 1878), none, none, some (1, 466, 2, 3006), some (1, 261, 2, 1886), none, none, some (1, 467, 2, 3010), some (1, 262, 3, 1890), none, none, none, some (1, 468, 3, 3014), some (1, 263, 4, 1902), none, none, none, some (1, 469, 4, 3018), some (1, 264, 2, 1910), none, none, some (1, 470, 2, 3022)], [some (1, 265, 3, 1914), none, none, some (1, 471, 3, 3026), some (1, 266, 1, 1921), none, none, none, some (1, 472, 1, 3030), some (1, 267, 3, 1926), none, none, some (1, 474, 3, 3034), some (1, 268, 3, 1934), none, none, some (1, 475, 3, 3042), some (1, 269, 3, 1942), none, none, some (1, 476, 3, 3046), some (1, 270, 2, 1947), none, none, some (1, 478, 2, 3050), some (1, 271, 3, 1952), none, none, some (1, 479, 3, 3058), some (1, 272, 2, 1956)], [some (1, 480, 2, 3062), some (1, 273, 2, 2013), none, none, some (1, 481, 2, 3092), some (1, 274, 1, 2072), none, none, some (1, 482, 1, 3115), some (1, 275, 1, 2080), none, none, some (1, 484, 1, 3119), some (1, 276, 1, 2089), none, none, some (1, 485, 1, 3127), some (1, 277, 1, 2113), none, none, some (1, 486, 1, 3143), some (1, 278, 1, 2122), none, none, some (1, 487, 1, 3148), some (1, 279, 1, 2126), none, none, some (1, 488, 1, 3152), some (1, 280, 3, 2130)], [some (1, 489, 3, 3157), some (1, 281, 2, 2134), none, none, some (1, 491, 2, 3161), some (1, 282, 2, 2185), none, none, some (1, 492, 2, 3169), some (1, 283, 2, 2189), none, none, none, some (1, 494, 2, 3173)]]
def zlkT_13 : Nat → Option (Nat × Nat × Nat × Nat) := fun k => zlook 32 zlkL_13 k
def zlk_13 : Nat → Option (Nat × Nat × Nat × Nat) := fun k => cond (Nat.blt k 1060) (zlkT_13 k) none
def zlkL_14 : List (List (Option (Nat × Nat × Nat × Nat))) := []
def zlkT_14 : Nat → Option (Nat × Nat × Nat × Nat) := fun k => zlook 32 zlkL_14 k
def zlk_14 : Nat → Option (Nat × Nat × Nat × Nat) := fun k => cond (Nat.blt k 1060) (zlkT_14 k) none
def zlkL_15 : List (List (Option (Nat × Nat × Nat × Nat))) := [[none, none, none, none, none, none, none, none, none, none, none, none, none, some (1, 511, 3, 1455)]]
def zlkT_15 : Nat → Option (Nat × Nat × Nat × Nat) := fun k => zlook 32 zlkL_15 k
def zlk_15 : Nat → Option (Nat × Nat × Nat × Nat) := fun k => cond (Nat.blt k 1060) (zlkT_15 k) none
def zlkL_16 : List (List (Option (Nat × Nat × Nat × Nat))) := [[none, none, none, none, none, none, none, none, none, some (11, 0, 0, 3185), none, none, none, none, none, some (11, 1, 0, 3186)], [none, none, none, none, none, none, some (12, 0, 0, 478)], [], [], [], [], [], [], [], [], [none, none, none, none, none, none, none, none, none, none, none, none, none, none, none, some (1, 503, 0, 474)], [], [], [], [], [none, none, none, none, none, none, none, none, none, none, none, none, some (1, 504, 0, 484), none, none, some (1, 506, 2, 488), none, none, some (1, 509, 2, 499)], [], [], [], [], [], [], [], [], [], [], [], [], [], [], [], [], [none, none, none, none, none, none, none, none, none, none, none, none, none, none, none, none, none, none, none, none, none, none, none, none, none, none, none, none, none, some (13, 0, 0, 494)], [none, none, none, some (1, 515, 3, 496)]]
def zlkT_16 : Nat → Option (Nat × Nat × Nat × Nat) := fun k => zlook 32 zlkL_16 k
def zlk_16 : Nat → Option (Nat × Nat × Nat × Nat) := fun k => cond (Nat.blt k 1060) (zlkT_16 k) none
def zlkL_17 : List (List (Option (Nat × Nat × Nat × Nat))) := [[none, none, none, none, none, none, none, none, none, some (1, 505, 2, 491)]]
def zlkT_17 : Nat → Option (Nat × Nat × Nat × Nat) := fun k => zlook 32 zlkL_17 k
def zlk_17 : Nat → Option (Nat × Nat × Nat × Nat) := fun k => cond (Nat.blt k 1060) (zlkT_17 k) none
def zlkL_18 : List (List (Option (Nat × Nat × Nat × Nat))) := [[], [none, none, none, none, none, none, none, none, none, none, none, none, none, none, none, none, some (1, 508, 1, 505)], [none, none, none, some (1, 510, 2, 502), none, none, none, some (1, 507, 2, 509)], [], [], [], [], [], [], [], [], [], [none, none, none, none, none, none, none, none, none, none, none, none, none, none, none, none, none, none, none, none, none, none, none, none, none, none, none, none, none, none, some (1, 505, 2, 508)]]
def zlkT_18 : Nat → Option (Nat × Nat × Nat × Nat) := fun k => zlook 32 zlkL_18 k
def zlk_18 : Nat → Option (Nat × Nat × Nat × Nat) := fun k => cond (Nat.blt k 1060) (zlkT_18 k) none
def zlkL_19 : List (List (Option (Nat × Nat × Nat × Nat))) := []
def zlkT_19 : Nat → Option (Nat × Nat × Nat × Nat) := fun k => zlook 32 zlkL_19 k
def zlk_19 : Nat → Option (Nat × Nat × Nat × Nat) := fun k => cond (Nat.blt k 1060) (zlkT_19 k) none
def zlkL_20 : List (List (Option (Nat × Nat × Nat × Nat))) := []
def zlkT_20 : Nat → Option (Nat × Nat × Nat × Nat) := fun k => zlook 32 zlkL_20 k
def zlk_20 : Nat → Option (Nat × Nat × Nat × Nat) := fun k => cond (Nat.blt k 1060) (zlkT_20 k) none
def zlkA : List (Nat → Option (Nat × Nat × Nat × Nat)) := [zlk_0, zlk_1, zlk_2, zlk_3, zlk_4, zlk_5, zlk_6, zlk_7, zlk_8, zlk_9, zlk_10, zlk_11, zlk_12, zlk_13, zlk_14, zlk_15, zlk_16, zlk_17, zlk_18, zlk_19, zlk_20]
def zlk : Nat → Nat → Option (Nat × Nat × Nat × Nat) := fun o => zlkA.getD o (fun _ => none)
/-- the word that stands behind a link -/
def zlkw (own : String) (k : Nat) (r : Nat × Nat × Nat × Nat) : Option Cond := match r with
  | (0, ci, j, _) => match zcls[ci]? with
    | some q => if j < q.2.2 then some (.fieldLink own k (q.2.1 j).1 (q.2.1 j).2.1 (q.2.1 j).2.2.1) else none
    | none => none
  | (1, a, _, _) => some (.methodLink own k (zmn a))
  | (2, a, _, _) => some (.methodLinkNest own k (zmn a) "ForthHouse")
  | (3, ci, _, _) => match zcls[ci]? with
    | some q => some (.classLink own k q.1)
    | none => none
  | (5, a, _, _) => some (.constant own k (Int32.ofNat a))
  | (6, a, _, _) => some (.constantLong own k (Int64.ofNat a))
  | (8, a, _, _) => some (.fieldLinkNest own k "ForthHouse" (if a = 13 then "TAKES" else if a = 14 then "LEAVES" else "TRAITS") "[B" "ForthHouse")
  | (9, _, _, _) => some (.methodLink own k objectInit)
  | (10, _, _, _) => some (.methodLink own k arraycopyName)
  | (11, 0, _, _) => some (.fieldLink own k "java/lang/String" "value" "[B")
  | (11, 1, _, _) => some (.fieldLink own k "java/lang/String" "coder" "B")
  | (12, _, _, _) => some (.fieldLink own k "java/lang/String" "COMPACT_STRINGS" "Z")
  | (13, _, _, _) => some (.fieldLink own k "jdk/internal/util/Preconditions" "SIOOBE_FORMATTER" "Ljava/util/function/BiFunction;")
  | _ => none
def zsel : List Cond → Nat → List Nat → List Cond
  | [], _, _ => []
  | _ :: _, _, [] => []
  | a :: l, i, p :: ps => cond (Nat.beq i p) (a :: zsel l (i + 1) ps) (zsel l (i + 1) (p :: ps))
theorem zsel_mem {w : Cond} : ∀ (l : List Cond) (i : Nat) (ps : List Nat), w ∈ zsel l i ps → w ∈ l := by
  intro l
  induction l with
  | nil => intro i ps h; cases ps <;> simp [zsel] at h
  | cons a l ih =>
    intro i ps h
    cases ps with
    | nil => simp [zsel] at h
    | cons p ps =>
      unfold zsel at h
      cases hq : Nat.beq i p with
      | true =>
        rw [hq] at h
        rcases List.mem_cons.mp h with h | h
        · exact h ▸ List.mem_cons_self
        · exact List.mem_cons_of_mem _ (ih _ _ h)
      | false =>
        rw [hq] at h
        exact List.mem_cons_of_mem _ (ih _ _ h)
/-- the links to members of the nest's host -/
def zN : List Cond := lw_tbl.filter fun w => match w with
  | .methodLinkNest _ _ _ _ => true
  | .fieldLinkNest _ _ _ _ _ _ => true
  | _ => false
def znest (w : Cond) : Bool := match w with
  | .methodLinkNest _ _ _ _ => true
  | .fieldLinkNest _ _ _ _ _ _ => true
  | _ => false
abbrev zKE : Type := Nat × (Nat × Nat × Nat × Nat)
def zlkE (own : String) (es : List zKE) : List (Option Cond) := es.map fun q => zlkw own q.1 q.2
theorem zlk_gen {f : Nat → Option (Nat × Nat × Nat × Nat)} {own : String} (es : List zKE) (ps : List Nat) (h1 : zlkE own es = (zsel lw_tbl 0 ps).map some) (h2 : ((List.range 1060).all fun k => match f k with | some r => r.1 == 7 || es.contains (k, r) | none => true) = true) (h3 : (es.all fun q => match zlkw own q.1 q.2 with | some w => goodWord w || znest w | none => false) = true) (hf : ∀ k, ¬ k < 1060 → f k = none) :
    ∀ k r, f k = some r → r.1 ≠ 7 → ∃ w, zlkw own k r = some w ∧ (w ∈ zW ∨ (w ∈ zN ∧ znest w = true)) := by
  intro k r hr h7
  have hm : (k, r) ∈ es := by
    by_cases hk : k < 1060
    · have := List.all_eq_true.mp h2 k (List.mem_range.mpr hk)
      rw [hr] at this
      simp only [Bool.or_eq_true, beq_iff_eq] at this
      rcases this with q | q
      · exact absurd q h7
      · simpa using q
    · rw [hf k hk] at hr; cases hr
  have h4 := List.all_eq_true.mp h3 (k, r) hm
  cases hw : zlkw own k r with
  | none =>
    rw [hw] at h4
    cases h4
  | some w =>
    rw [hw] at h4
    refine ⟨w, rfl, ?_⟩
    have h5 : some w ∈ (zsel lw_tbl 0 ps).map some := by
      rw [← h1, ← hw]
      exact List.mem_map.mpr ⟨(k, r), hm, rfl⟩
    obtain ⟨w', h6, h8⟩ := List.mem_map.mp h5
    cases h8
    have h9 := zsel_mem _ _ _ h6
    simp only [Bool.or_eq_true] at h4
    rcases h4 with q | q
    · exact Or.inl (List.mem_filter.mpr ⟨h9, q⟩)
    · refine Or.inr ⟨List.mem_filter.mpr ⟨h9, ?_⟩, q⟩
      cases w <;> simp [znest] at q <;> rfl
theorem zlk_no {g : Nat → Option (Nat × Nat × Nat × Nat)} (k : Nat) (h : ¬ k < 1060) : cond (Nat.blt k 1060) (g k) none = none := by
  have : Nat.blt k 1060 = false := by
    cases hq : Nat.blt k 1060 with
    | false => rfl
    | true => exact absurd (Nat.le_of_ble_eq_true hq) h
  rw [this]
  rfl
def zes_0 : List zKE := [(3, 9, 0, 0, 297), (15, 3, 7, 0, 298), (17, 2, 158, 0, 300), (22, 3, 8, 0, 333), (24, 1, 175, 1, 335), (146, 0, 8, 7, 351), (187, 0, 8, 8, 354), (190, 0, 8, 9, 356), (193, 0, 8, 10, 358), (177, 0, 8, 11, 360), (73, 0, 8, 13, 365), (9, 0, 0, 0, 414), (40, 0, 0, 1, 416), (18, 0, 0, 2, 417), (27, 0, 0, 3, 419), (47, 0, 0, 4, 421), (50, 0, 0, 5, 423), (53, 0, 0, 6, 424), (31, 0, 0, 7, 425), (34, 0, 0, 8, 426), (37, 0, 0, 9, 427), (60, 0, 0, 10, 428), (125, 0, 10, 0, 529), (99, 0, 10, 3, 536), (102, 0, 10, 4, 540), (129, 0, 10, 5, 542), (117, 0, 2, 0, 598), (121, 0, 2, 1, 603), (67, 0, 1, 0, 899), (86, 0, 1, 1, 902), (105, 0, 1, 2, 905), (44, 1, 178, 0, 2021), (56, 1, 4, 2, 2022), (76, 1, 512, 2, 2026), (82, 1, 3, 1, 2029), (89, 1, 246, 1, 2033), (95, 1, 244, 2, 2034), (109, 1, 82, 1, 2035), (114, 1, 5, 2, 2036), (124, 1, 242, 1, 2040), (126, 1, 6, 1, 2041), (63, 1, 7, 2, 2044), (132, 1, 9, 1, 2048), (141, 5, 16777216, 0, 2052), (142, 1, 10, 1, 2053), (135, 1, 8, 2, 2057), (145, 5, 285212672, 0, 2061), (138, 1, 86, 1, 2062), (70, 1, 159, 1, 2063), (149, 1, 185, 1, 2088), (153, 1, 13, 1, 2097), (157, 1, 1, 1, 2101), (158, 1, 219, 2, 2102), (162, 1, 194, 1, 2103), (165, 8, 13, 0, 2104), (168, 8, 14, 0, 2105), (171, 1, 181, 2, 2106), (174, 1, 199, 1, 2107), (180, 1, 196, 0, 2108), (184, 1, 14, 0, 2109), (196, 1, 179, 1, 2121)]
set_option maxRecDepth 100000 in
theorem zlk_0_ok : ∀ k r, zlk_0 k = some r → r.1 ≠ 7 → ∃ w, zlkw (zown 0) k r = some w ∧ (w ∈ zW ∨ (w ∈ zN ∧ znest w = true)) := zlk_gen zes_0 [297, 298, 300, 333, 335, 351, 354, 356, 358, 360, 365, 414, 416, 417, 419, 421, 423, 424, 425, 426, 427, 428, 529, 536, 540, 542, 598, 603, 899, 902, 905, 2021, 2022, 2026, 2029, 2033, 2034, 2035, 2036, 2040, 2041, 2044, 2048, 2052, 2053, 2057, 2061, 2062, 2063, 2088, 2097, 2101, 2102, 2103, 2104, 2105, 2106, 2107, 2108, 2109, 2121] (by decide +kernel) (by decide +kernel) (by decide +kernel) (fun k h => zlk_no (g := zlkT_0) k h)
def zes_1 : List zKE := [(348, 0, 7, 0, 306), (90, 0, 7, 1, 308), (93, 0, 7, 2, 312), (160, 0, 7, 3, 315), (511, 0, 7, 4, 318), (414, 0, 8, 5, 346), (286, 0, 8, 6, 348), (562, 0, 8, 7, 352), (484, 0, 8, 11, 361), (292, 0, 8, 12, 363), (298, 0, 8, 13, 366), (87, 0, 8, 14, 367), (444, 0, 8, 15, 372), (237, 0, 8, 16, 374), (244, 0, 8, 17, 376), (3, 9, 0, 0, 456), (9, 3, 7, 0, 457), (11, 2, 158, 0, 458), (18, 3, 10, 0, 459), (20, 1, 238, 0, 461), (450, 0, 10, 0, 531), (430, 0, 10, 3, 537), (329, 0, 10, 5, 543), (163, 0, 10, 12, 559), (188, 0, 10, 13, 561), (25, 3, 2, 0, 591), (27, 2, 79, 0, 593), (305, 0, 2, 0, 601), (302, 0, 2, 1, 606), (166, 0, 2, 2, 610), (32, 3, 9, 0, 619), (34, 1, 225, 1, 621), (385, 0, 9, 6, 636), (362, 0, 9, 7, 638), (365, 0, 9, 8, 640), (194, 0, 9, 10, 643), (185, 0, 9, 11, 646), (41, 3, 5, 0, 681), (43, 1, 120, 1, 683), (168, 0, 5, 1, 689), (602, 0, 5, 2, 691), (438, 0, 5, 3, 693), (209, 0, 5, 4, 695), (427, 0, 5, 5, 697), (624, 0, 5, 7, 700), (191, 0, 5, 12, 706), (50, 3, 4, 0, 740), (52, 1, 111, 0, 742), (197, 0, 4, 0, 747), (173, 0, 4, 1, 749), (172, 0, 4, 2, 751), (176, 0, 4, 3, 753), (487, 0, 4, 4, 755), (493, 0, 4, 5, 757), (496, 0, 4, 7, 760), (490, 0, 4, 8, 762), (57, 3, 6, 0, 791), (59, 2, 147, 0, 793), (167, 0, 6, 1, 799), (695, 0, 6, 3, 802), (179, 0, 6, 6, 806), (182, 0, 6, 7, 808), (64, 3, 3, 0, 826), (66, 1, 89, 3, 828), (73, 3, 8, 0, 895), (86, 1, 175, 1, 897), (12, 0, 1, 0, 898), (21, 0, 1, 1, 901), (28, 0, 1, 2, 904), (37, 0, 1, 3, 907), (46, 0, 1, 4, 909), (53, 0, 1, 5, 910), (60, 0, 1, 6, 911), (69, 0, 1, 7, 913), (75, 0, 1, 8, 915), (123, 0, 1, 9, 917), (126, 0, 1, 10, 918), (129, 0, 1, 11, 919), (132, 0, 1, 12, 921), (135, 0, 1, 13, 923), (79, 0, 1, 14, 925), (268, 0, 1, 15, 926), (83, 0, 1, 16, 927), (215, 0, 1, 17, 928), (96, 1, 169, 2, 1004), (218, 1, 27, 0, 1036), (233, 1, 25, 0, 1040), (240, 1, 29, 1, 1044), (271, 1, 242, 1, 1048), (275, 1, 28, 2, 1052), (247, 1, 30, 1, 1056), (279, 1, 31, 1, 1060), (282, 1, 181, 2, 1064), (289, 1, 182, 1, 1068), (250, 1, 192, 0, 1072), (253, 1, 33, 1, 1080), (301, 1, 82, 1, 1084), (309, 1, 34, 2, 1088), (325, 1, 245, 2, 1092), (331, 1, 196, 0, 1097), (313, 1, 66, 1, 1106), (334, 1, 183, 0, 1110), (316, 1, 84, 2, 1114), (319, 1, 35, 1, 1118), (337, 1, 165, 1, 1122), (341, 1, 36, 2, 1126), (345, 1, 166, 2, 1130), (351, 1, 153, 3, 1135), (322, 1, 219, 2, 1151), (256, 1, 32, 1, 1190), (295, 1, 195, 0, 1194), (259, 1, 24, 0, 1195), (262, 1, 37, 0, 1199), (355, 1, 233, 1, 1203), (359, 1, 38, 0, 1218), (388, 1, 231, 2, 1222), (201, 1, 162, 0, 1226), (368, 1, 130, 3, 1230), (372, 1, 21, 2, 1241), (205, 1, 250, 4, 1245), (376, 1, 39, 0, 1250), (391, 1, 41, 2, 1254), (401, 1, 164, 1, 1258), (405, 1, 163, 0, 1259), (408, 1, 83, 1, 1260), (395, 1, 173, 0, 1264), (398, 1, 40, 1, 1269), (379, 1, 244, 2, 1272), (382, 8, 15, 0, 1276), (265, 1, 44, 1, 1277), (424, 1, 178, 0, 1281), (447, 1, 45, 0, 1285), (222, 1, 46, 0, 1289), (451, 1, 194, 1, 1293), (454, 1, 48, 2, 1301), (460, 1, 47, 2, 1305), (457, 1, 49, 2, 1309), (212, 1, 22, 0, 1313), (499, 1, 119, 1, 1317), (463, 8, 13, 0, 1322), (466, 8, 14, 0, 1324), (469, 1, 199, 1, 1326), (472, 1, 50, 2, 1476), (501, 1, 51, 2, 1480), (524, 1, 154, 2, 1484), (505, 1, 151, 1, 1496), (508, 1, 152, 1, 1497), (514, 1, 52, 2, 1502), (527, 1, 189, 0, 1506), (530, 2, 292, 2, 1507), (534, 1, 155, 1, 1508), (521, 1, 174, 1, 1509), (538, 1, 187, 1, 1513), (517, 1, 188, 0, 1514), (475, 1, 53, 2, 1515), (541, 1, 54, 1, 1519), (544, 1, 55, 1, 1523), (599, 1, 243, 0, 1527), (605, 1, 248, 5, 1531), (609, 1, 123, 2, 1536), (547, 1, 56, 1, 1540), (612, 1, 127, 0, 1544), (615, 1, 57, 0, 1552), (565, 1, 125, 0, 1556), (618, 1, 249, 2, 1560), (550, 1, 61, 2, 1564), (553, 1, 62, 1, 1568), (633, 1, 170, 1, 1572), (634, 1, 118, 3, 1573), (556, 1, 63, 0, 1577), (621, 1, 247, 2, 1581), (559, 1, 64, 2, 1585), (568, 1, 65, 1, 1589), (571, 1, 60, 0, 1593), (630, 1, 129, 1, 1597), (574, 1, 67, 2, 1601), (577, 1, 235, 2, 1605), (637, 10, 0, 0, 1609), (580, 1, 236, 1, 1610), (584, 1, 68, 0, 1619), (643, 1, 128, 1, 1623), (646, 1, 237, 2, 1624), (649, 1, 69, 2, 1628), (656, 1, 132, 1, 1632), (652, 1, 131, 3, 1637), (587, 1, 58, 0, 1642), (590, 1, 59, 0, 1646), (627, 1, 85, 1, 1650), (593, 1, 71, 1, 1655), (659, 1, 72, 4, 1659), (663, 1, 193, 1, 1663), (665, 1, 230, 3, 1664), (596, 1, 70, 2, 1668), (478, 1, 136, 1, 1672), (481, 1, 73, 2, 1735), (668, 1, 74, 1, 1739), (421, 1, 168, 1, 1743), (671, 1, 115, 1, 1744), (674, 1, 116, 0, 1748), (677, 1, 117, 0, 1752), (680, 1, 114, 0, 1756), (683, 1, 75, 1, 1760), (686, 1, 76, 1, 1764), (704, 1, 186, 1, 1768), (689, 1, 77, 1, 1769), (692, 1, 78, 1, 1773), (698, 1, 156, 1, 1777), (701, 1, 157, 1, 1781), (225, 1, 90, 1, 1785), (229, 1, 42, 1, 1845), (411, 1, 197, 0, 1849), (417, 1, 198, 2, 1853), (418, 1, 43, 1, 1857), (433, 1, 499, 2, 1861), (441, 1, 124, 0, 1862), (100, 1, 159, 1, 2142), (103, 1, 240, 1, 2143), (106, 1, 80, 1, 2151), (108, 1, 226, 1, 2157), (111, 1, 121, 1, 2163), (114, 1, 112, 1, 2169), (117, 1, 148, 1, 2174), (120, 1, 176, 1, 2180), (138, 1, 177, 1, 2197), (142, 1, 160, 1, 2204), (145, 1, 241, 1, 2211), (148, 1, 81, 1, 2217), (151, 1, 227, 1, 2223), (154, 1, 122, 1, 2228), (157, 1, 113, 1, 2232)]
set_option maxRecDepth 100000 in
theorem zlk_1_ok : ∀ k r, zlk_1 k = some r → r.1 ≠ 7 → ∃ w, zlkw (zown 1) k r = some w ∧ (w ∈ zW ∨ (w ∈ zN ∧ znest w = true)) := zlk_gen zes_1 [306, 308, 312, 315, 318, 346, 348, 352, 361, 363, 366, 367, 372, 374, 376, 456, 457, 458, 459, 461, 531, 537, 543, 559, 561, 591, 593, 601, 606, 610, 619, 621, 636, 638, 640, 643, 646, 681, 683, 689, 691, 693, 695, 697, 700, 706, 740, 742, 747, 749, 751, 753, 755, 757, 760, 762, 791, 793, 799, 802, 806, 808, 826, 828, 895, 897, 898, 901, 904, 907, 909, 910, 911, 913, 915, 917, 918, 919, 921, 923, 925, 926, 927, 928, 1004, 1036, 1040, 1044, 1048, 1052, 1056, 1060, 1064, 1068, 1072, 1080, 1084, 1088, 1092, 1097, 1106, 1110, 1114, 1118, 1122, 1126, 1130, 1135, 1151, 1190, 1194, 1195, 1199, 1203, 1218, 1222, 1226, 1230, 1241, 1245, 1250, 1254, 1258, 1259, 1260, 1264, 1269, 1272, 1276, 1277, 1281, 1285, 1289, 1293, 1301, 1305, 1309, 1313, 1317, 1322, 1324, 1326, 1476, 1480, 1484, 1496, 1497, 1502, 1506, 1507, 1508, 1509, 1513, 1514, 1515, 1519, 1523, 1527, 1531, 1536, 1540, 1544, 1552, 1556, 1560, 1564, 1568, 1572, 1573, 1577, 1581, 1585, 1589, 1593, 1597, 1601, 1605, 1609, 1610, 1619, 1623, 1624, 1628, 1632, 1637, 1642, 1646, 1650, 1655, 1659, 1663, 1664, 1668, 1672, 1735, 1739, 1743, 1744, 1748, 1752, 1756, 1760, 1764, 1768, 1769, 1773, 1777, 1781, 1785, 1845, 1849, 1853, 1857, 1861, 1862, 2142, 2143, 2151, 2157, 2163, 2169, 2174, 2180, 2197, 2204, 2211, 2217, 2223, 2228, 2232] (by decide +kernel) (by decide +kernel) (by decide +kernel) (fun k h => zlk_no (g := zlkT_1) k h)
def zes_2 : List zKE := [(3, 9, 0, 0, 596), (9, 0, 2, 0, 597), (15, 0, 2, 1, 602), (27, 0, 2, 2, 608), (39, 1, 82, 1, 1654), (19, 2, 290, 2, 2155), (23, 2, 289, 2, 2156), (31, 2, 288, 3, 2221), (35, 2, 287, 4, 2222)]
set_option maxRecDepth 100000 in
theorem zlk_2_ok : ∀ k r, zlk_2 k = some r → r.1 ≠ 7 → ∃ w, zlkw (zown 2) k r = some w ∧ (w ∈ zW ∨ (w ∈ zN ∧ znest w = true)) := zlk_gen zes_2 [596, 597, 602, 608, 1654, 2155, 2156, 2221, 2222] (by decide +kernel) (by decide +kernel) (by decide +kernel) (fun k h => zlk_no (g := zlkT_2) k h)
def zes_3 : List zKE := [(169, 0, 10, 0, 530), (52, 0, 10, 3, 535), (58, 0, 10, 4, 539), (104, 0, 10, 8, 547), (107, 0, 10, 9, 550), (110, 0, 10, 10, 553), (113, 0, 10, 11, 556), (143, 0, 2, 0, 599), (140, 0, 2, 1, 604), (61, 0, 2, 2, 609), (3, 9, 0, 0, 831), (33, 3, 8, 0, 832), (35, 1, 175, 1, 833), (25, 0, 3, 0, 834), (29, 0, 3, 1, 835), (38, 0, 3, 2, 836), (9, 0, 3, 3, 837), (15, 0, 3, 4, 838), (18, 0, 3, 5, 839), (21, 0, 3, 6, 840), (48, 0, 3, 7, 841), (55, 0, 3, 8, 842), (72, 0, 3, 9, 843), (122, 0, 3, 10, 844), (85, 0, 3, 11, 845), (116, 0, 3, 12, 846), (88, 0, 3, 13, 847), (94, 0, 3, 14, 848), (119, 0, 3, 15, 849), (75, 0, 3, 16, 850), (79, 0, 3, 17, 851), (91, 0, 3, 18, 852), (97, 0, 3, 19, 853), (42, 1, 246, 1, 1789), (66, 1, 499, 2, 1795), (82, 1, 91, 0, 1796), (125, 1, 94, 4, 1800), (129, 1, 92, 0, 1804), (133, 1, 98, 1, 1808), (146, 1, 245, 2, 1812), (150, 1, 101, 2, 1813), (163, 1, 97, 1, 1817), (100, 1, 93, 2, 1821), (170, 8, 15, 0, 1825), (173, 8, 13, 0, 1826), (137, 1, 95, 2, 1827), (176, 8, 14, 0, 1831), (153, 1, 100, 2, 1832), (166, 1, 242, 1, 1836), (156, 1, 96, 3, 1837), (160, 1, 99, 2, 1841), (179, 1, 244, 2, 1964), (182, 1, 88, 2, 1965), (183, 1, 104, 0, 1974), (186, 1, 105, 0, 1978), (205, 1, 86, 1, 1982), (189, 1, 110, 2, 1986), (192, 1, 106, 1, 1990), (208, 1, 87, 2, 1994), (195, 1, 107, 1, 1998), (198, 1, 109, 3, 2001), (211, 1, 178, 0, 2005), (214, 1, 182, 1, 2006), (217, 1, 205, 1, 2007), (221, 1, 210, 1, 2008), (224, 1, 183, 0, 2009), (202, 1, 108, 1, 2010)]
set_option maxRecDepth 100000 in
theorem zlk_3_ok : ∀ k r, zlk_3 k = some r → r.1 ≠ 7 → ∃ w, zlkw (zown 3) k r = some w ∧ (w ∈ zW ∨ (w ∈ zN ∧ znest w = true)) := zlk_gen zes_3 [530, 535, 539, 547, 550, 553, 556, 599, 604, 609, 831, 832, 833, 834, 835, 836, 837, 838, 839, 840, 841, 842, 843, 844, 845, 846, 847, 848, 849, 850, 851, 852, 853, 1789, 1795, 1796, 1800, 1804, 1808, 1812, 1813, 1817, 1821, 1825, 1826, 1827, 1831, 1832, 1836, 1837, 1841, 1964, 1965, 1974, 1978, 1982, 1986, 1990, 1994, 1998, 2001, 2005, 2006, 2007, 2008, 2009, 2010] (by decide +kernel) (by decide +kernel) (by decide +kernel) (fun k h => zlk_no (g := zlkT_3) k h)
def zes_4 : List zKE := [(3, 9, 0, 0, 745), (9, 0, 4, 0, 746), (15, 0, 4, 1, 748), (19, 0, 4, 2, 750), (22, 0, 4, 3, 752), (50, 0, 4, 4, 754), (25, 0, 4, 5, 756), (28, 0, 4, 6, 758), (31, 0, 4, 7, 759), (34, 0, 4, 8, 761), (37, 0, 4, 9, 763), (40, 0, 4, 10, 764), (43, 0, 4, 11, 765), (57, 10, 0, 0, 1321), (46, 2, 289, 2, 2173), (53, 2, 287, 4, 2236)]
set_option maxRecDepth 100000 in
theorem zlk_4_ok : ∀ k r, zlk_4 k = some r → r.1 ≠ 7 → ∃ w, zlkw (zown 4) k r = some w ∧ (w ∈ zW ∨ (w ∈ zN ∧ znest w = true)) := zlk_gen zes_4 [745, 746, 748, 750, 752, 754, 756, 758, 759, 761, 763, 764, 765, 1321, 2173, 2236] (by decide +kernel) (by decide +kernel) (by decide +kernel) (fun k h => zlk_no (g := zlkT_4) k h)
def zes_5 : List zKE := [(151, 0, 2, 1, 607), (95, 0, 2, 2, 611), (3, 9, 0, 0, 686), (40, 0, 5, 0, 687), (44, 0, 5, 1, 688), (48, 0, 5, 2, 690), (51, 0, 5, 3, 692), (55, 0, 5, 4, 694), (9, 0, 5, 5, 696), (15, 0, 5, 6, 698), (18, 0, 5, 7, 699), (21, 0, 5, 8, 701), (24, 0, 5, 9, 702), (27, 0, 5, 10, 703), (31, 0, 5, 11, 704), (66, 0, 5, 12, 705), (34, 0, 5, 13, 707), (37, 0, 5, 14, 708), (73, 1, 128, 1, 1234), (77, 2, 291, 5, 1238), (69, 1, 126, 0, 1548), (87, 1, 129, 1, 1636), (81, 10, 0, 0, 1641), (91, 1, 138, 2, 1676), (132, 1, 83, 1, 1680), (128, 1, 135, 3, 1681), (135, 1, 84, 2, 1685), (100, 1, 137, 2, 1686), (103, 1, 139, 0, 1690), (138, 1, 133, 1, 1694), (141, 1, 134, 1, 1698), (144, 1, 85, 1, 1702), (106, 1, 140, 2, 1703), (109, 1, 141, 1, 1707), (113, 1, 142, 0, 1711), (116, 1, 143, 0, 1715), (119, 1, 144, 1, 1719), (147, 1, 88, 2, 1723), (122, 1, 145, 0, 1727), (125, 1, 146, 0, 1731), (58, 2, 289, 2, 2167), (62, 2, 290, 2, 2168)]
set_option maxRecDepth 100000 in
theorem zlk_5_ok : ∀ k r, zlk_5 k = some r → r.1 ≠ 7 → ∃ w, zlkw (zown 5) k r = some w ∧ (w ∈ zW ∨ (w ∈ zN ∧ znest w = true)) := zlk_gen zes_5 [607, 611, 686, 687, 688, 690, 692, 694, 696, 698, 699, 701, 702, 703, 704, 705, 707, 708, 1234, 1238, 1548, 1636, 1641, 1676, 1680, 1681, 1685, 1686, 1690, 1694, 1698, 1702, 1703, 1707, 1711, 1715, 1719, 1723, 1727, 1731, 2167, 2168] (by decide +kernel) (by decide +kernel) (by decide +kernel) (fun k h => zlk_no (g := zlkT_5) k h)
def zes_6 : List zKE := [(89, 0, 8, 1, 341), (84, 0, 8, 7, 350), (3, 9, 0, 0, 796), (9, 0, 6, 0, 797), (26, 0, 6, 1, 798), (15, 0, 6, 2, 800), (30, 0, 6, 3, 801), (18, 0, 6, 4, 803), (37, 0, 6, 5, 804), (40, 0, 6, 6, 805), (43, 0, 6, 7, 807), (51, 1, 498, 2, 1139), (57, 1, 499, 2, 1142), (66, 10, 0, 0, 1145), (47, 1, 150, 1, 1146), (46, 5, 2147483647, 0, 1150), (72, 1, 497, 1, 1488), (76, 1, 155, 1, 1489), (80, 1, 151, 1, 1492), (60, 1, 514, 4, 1501), (22, 2, 290, 2, 2178), (33, 2, 289, 2, 2179)]
set_option maxRecDepth 100000 in
theorem zlk_6_ok : ∀ k r, zlk_6 k = some r → r.1 ≠ 7 → ∃ w, zlkw (zown 6) k r = some w ∧ (w ∈ zW ∨ (w ∈ zN ∧ znest w = true)) := zlk_gen zes_6 [341, 350, 796, 797, 798, 800, 801, 803, 804, 805, 807, 1139, 1142, 1145, 1146, 1150, 1488, 1489, 1492, 1501, 2178, 2179] (by decide +kernel) (by decide +kernel) (by decide +kernel) (fun k h => zlk_no (g := zlkT_6) k h)
def zes_7 : List zKE := [(3, 9, 0, 0, 303), (9, 0, 7, 0, 304), (26, 0, 7, 1, 309), (29, 0, 7, 2, 313), (15, 0, 7, 3, 314), (19, 0, 7, 4, 317), (36, 6, 4096, 0, 1134), (46, 1, 168, 1, 1268), (38, 6, 256, 0, 1432), (40, 1, 498, 2, 1446), (22, 2, 290, 2, 2067), (32, 2, 288, 3, 2208)]
set_option maxRecDepth 100000 in
theorem zlk_7_ok : ∀ k r, zlk_7 k = some r → r.1 ≠ 7 → ∃ w, zlkw (zown 7) k r = some w ∧ (w ∈ zW ∨ (w ∈ zN ∧ znest w = true)) := zlk_gen zes_7 [303, 304, 309, 313, 314, 317, 1134, 1268, 1432, 1446, 2067, 2208] (by decide +kernel) (by decide +kernel) (by decide +kernel) (fun k h => zlk_no (g := zlkT_7) k h)
def zes_8 : List zKE := [(246, 0, 7, 0, 307), (218, 0, 7, 1, 311), (212, 0, 7, 3, 316), (3, 9, 0, 0, 338), (37, 0, 8, 0, 339), (9, 0, 8, 1, 340), (15, 0, 8, 2, 342), (18, 0, 8, 3, 343), (21, 0, 8, 4, 344), (24, 0, 8, 5, 345), (27, 0, 8, 6, 347), (45, 0, 8, 7, 349), (48, 0, 8, 8, 353), (51, 0, 8, 9, 355), (54, 0, 8, 10, 357), (57, 0, 8, 11, 359), (60, 0, 8, 12, 362), (30, 0, 8, 13, 364), (63, 0, 8, 14, 368), (66, 0, 8, 15, 370), (34, 0, 8, 16, 373), (69, 0, 8, 17, 375), (98, 1, 191, 1, 1076), (106, 1, 192, 0, 1101), (109, 1, 195, 0, 1102), (83, 1, 182, 1, 1155), (91, 1, 183, 0, 1156), (267, 1, 220, 2, 1157), (270, 1, 221, 2, 1161), (87, 1, 163, 0, 1165), (77, 1, 164, 1, 1169), (273, 1, 222, 1, 1173), (136, 1, 184, 1, 1177), (276, 1, 223, 2, 1181), (279, 1, 224, 2, 1185), (282, 1, 181, 2, 1189), (102, 1, 193, 1, 1297), (118, 1, 200, 1, 1330), (139, 1, 190, 1, 1334), (142, 1, 201, 0, 1338), (145, 1, 202, 1, 1342), (94, 1, 165, 1, 1346), (121, 1, 203, 1, 1347), (148, 1, 204, 3, 1351), (124, 1, 205, 1, 1355), (152, 1, 185, 1, 1359), (155, 1, 207, 2, 1363), (183, 1, 161, 0, 1367), (187, 1, 496, 2, 1371), (158, 6, 2, 0, 1374), (160, 1, 497, 1, 1375), (112, 1, 499, 2, 1378), (164, 1, 498, 2, 1379), (167, 1, 187, 1, 1380), (170, 1, 208, 1, 1384), (191, 1, 189, 0, 1388), (194, 2, 292, 2, 1392), (173, 1, 209, 2, 1395), (179, 1, 188, 0, 1399), (176, 1, 206, 1, 1403), (127, 1, 210, 1, 1407), (197, 8, 13, 0, 1411), (201, 1, 186, 1, 1412), (205, 1, 211, 2, 1416), (209, 1, 212, 1, 1420), (130, 1, 213, 1, 1424), (215, 1, 171, 1, 1428), (221, 1, 214, 2, 1433), (243, 1, 170, 1, 1437), (249, 1, 169, 2, 1441), (224, 1, 172, 1, 1442), (227, 1, 215, 1, 1447), (233, 1, 166, 2, 1451), (253, 1, 514, 4, 1452), (230, 1, 216, 1, 1458), (258, 10, 0, 0, 1462), (237, 1, 167, 1, 1463), (240, 1, 217, 2, 1467), (264, 1, 168, 1, 1471), (133, 1, 218, 1, 1472), (41, 2, 289, 2, 2184), (73, 2, 287, 4, 2201)]
set_option maxRecDepth 100000 in
theorem zlk_8_ok : ∀ k r, zlk_8 k = some r → r.1 ≠ 7 → ∃ w, zlkw (zown 8) k r = some w ∧ (w ∈ zW ∨ (w ∈ zN ∧ znest w = true)) := zlk_gen zes_8 [307, 311, 316, 338, 339, 340, 342, 343, 344, 345, 347, 349, 353, 355, 357, 359, 362, 364, 368, 370, 373, 375, 1076, 1101, 1102, 1155, 1156, 1157, 1161, 1165, 1169, 1173, 1177, 1181, 1185, 1189, 1297, 1330, 1334, 1338, 1342, 1346, 1347, 1351, 1355, 1359, 1363, 1367, 1371, 1374, 1375, 1378, 1379, 1380, 1384, 1388, 1392, 1395, 1399, 1403, 1407, 1411, 1412, 1416, 1420, 1424, 1428, 1433, 1437, 1441, 1442, 1447, 1451, 1452, 1458, 1462, 1463, 1467, 1471, 1472, 2184, 2201] (by decide +kernel) (by decide +kernel) (by decide +kernel) (fun k h => zlk_no (g := zlkT_8) k h)
def zes_9 : List zKE := [(79, 0, 7, 0, 305), (3, 9, 0, 0, 624), (38, 1, 513, 2, 625), (34, 0, 9, 0, 628), (9, 0, 9, 1, 629), (15, 0, 9, 2, 630), (18, 0, 9, 3, 632), (22, 0, 9, 4, 633), (25, 0, 9, 5, 634), (28, 0, 9, 6, 635), (31, 0, 9, 7, 637), (98, 0, 9, 8, 639), (55, 0, 9, 9, 641), (59, 0, 9, 10, 642), (62, 0, 9, 11, 644), (44, 0, 9, 12, 647), (73, 0, 9, 13, 648), (76, 0, 9, 14, 649), (84, 10, 0, 0, 1024), (90, 1, 169, 2, 1027), (66, 1, 228, 0, 1028), (94, 1, 168, 1, 1207), (101, 1, 165, 1, 1211), (105, 1, 500, 2, 1212), (111, 1, 234, 1, 1215), (115, 1, 232, 0, 1614), (119, 1, 235, 2, 1618), (47, 2, 290, 2, 2161), (51, 2, 289, 2, 2162), (69, 2, 288, 3, 2227)]
set_option maxRecDepth 100000 in
theorem zlk_9_ok : ∀ k r, zlk_9 k = some r → r.1 ≠ 7 → ∃ w, zlkw (zown 9) k r = some w ∧ (w ∈ zW ∨ (w ∈ zN ∧ znest w = true)) := zlk_gen zes_9 [305, 624, 625, 628, 629, 630, 632, 633, 634, 635, 637, 639, 641, 642, 644, 647, 648, 649, 1024, 1027, 1028, 1207, 1211, 1212, 1215, 1614, 1618, 2161, 2162, 2227] (by decide +kernel) (by decide +kernel) (by decide +kernel) (fun k h => zlk_no (g := zlkT_9) k h)
def zes_10 : List zKE := [(3, 9, 0, 0, 464), (55, 1, 239, 1, 466), (75, 1, 501, 0, 470), (81, 1, 502, 1, 480), (88, 8, 15, 0, 518), (9, 0, 10, 0, 528), (15, 0, 10, 1, 532), (18, 0, 10, 2, 533), (21, 0, 10, 3, 534), (25, 0, 10, 4, 538), (28, 0, 10, 5, 541), (31, 0, 10, 6, 544), (34, 0, 10, 7, 545), (37, 0, 10, 8, 546), (40, 0, 10, 9, 549), (43, 0, 10, 10, 552), (46, 0, 10, 11, 555), (85, 0, 10, 12, 558), (49, 0, 10, 13, 560), (106, 1, 242, 1, 1096), (123, 2, 291, 5, 1249), (117, 10, 0, 0, 1535), (110, 1, 245, 2, 1793), (114, 1, 244, 2, 1794), (91, 2, 290, 2, 2147), (95, 2, 289, 2, 2148), (99, 1, 251, 2, 2215), (103, 1, 252, 2, 2216)]
set_option maxRecDepth 100000 in
theorem zlk_10_ok : ∀ k r, zlk_10 k = some r → r.1 ≠ 7 → ∃ w, zlkw (zown 10) k r = some w ∧ (w ∈ zW ∨ (w ∈ zN ∧ znest w = true)) := zlk_gen zes_10 [464, 466, 470, 480, 518, 528, 532, 533, 534, 538, 541, 544, 545, 546, 549, 552, 555, 558, 560, 1096, 1249, 1535, 1793, 1794, 2147, 2148, 2215, 2216] (by decide +kernel) (by decide +kernel) (by decide +kernel) (fun k h => zlk_no (g := zlkT_10) k h)
def zes_11 : List zKE := [(1, 9, 0, 0, 287), (13, 3, 1, 0, 290), (26, 3, 0, 0, 292), (28, 2, 0, 0, 294), (119, 0, 7, 1, 310), (109, 0, 8, 14, 369), (112, 0, 8, 15, 371), (201, 0, 0, 0, 415), (214, 0, 0, 2, 418), (209, 0, 0, 3, 420), (213, 0, 0, 4, 422), (33, 1, 16, 0, 453), (168, 0, 10, 8, 548), (171, 0, 10, 9, 551), (174, 0, 10, 10, 554), (177, 0, 10, 11, 557), (158, 0, 2, 0, 600), (161, 0, 2, 1, 605), (215, 0, 9, 2, 631), (61, 0, 9, 11, 645), (115, 0, 1, 0, 900), (138, 0, 1, 1, 903), (150, 0, 1, 2, 906), (57, 0, 1, 3, 908), (75, 0, 1, 6, 912), (180, 0, 1, 7, 914), (232, 0, 1, 8, 916), (87, 0, 1, 11, 920), (90, 0, 1, 12, 922), (93, 0, 1, 13, 924), (9, 0, 11, 0, 966), (34, 0, 11, 1, 967), (15, 0, 11, 2, 968), (38, 0, 11, 3, 969), (19, 0, 11, 4, 970), (22, 0, 11, 5, 971), (29, 0, 11, 6, 972), (41, 1, 17, 2, 1000), (45, 1, 255, 0, 1012), (49, 1, 284, 1, 1013), (53, 1, 286, 1, 1017), (67, 1, 229, 2, 1020), (71, 1, 26, 1, 1032), (79, 1, 149, 1, 1874), (84, 1, 20, 1, 1882), (96, 1, 285, 2, 1894), (100, 1, 179, 1, 1898), (105, 1, 180, 2, 1906), (124, 1, 166, 2, 1918), (128, 1, 167, 1, 1919), (131, 1, 168, 1, 1920), (134, 1, 21, 2, 1925), (142, 1, 251, 2, 1930), (147, 1, 252, 2, 1938), (154, 1, 82, 1, 1946), (165, 1, 246, 1, 1951), (184, 1, 102, 1, 1960), (189, 1, 23, 0, 1966), (193, 1, 103, 1, 1970), (196, 1, 2, 2, 2017), (236, 1, 499, 2, 2070), (218, 10, 0, 0, 2071), (200, 1, 1, 1, 2076), (203, 1, 11, 1, 2084), (206, 1, 12, 1, 2093), (207, 1, 15, 1, 2117), (224, 1, 18, 1, 2138), (228, 1, 19, 1, 2193)]
set_option maxRecDepth 100000 in
theorem zlk_11_ok : ∀ k r, zlk_11 k = some r → r.1 ≠ 7 → ∃ w, zlkw (zown 11) k r = some w ∧ (w ∈ zW ∨ (w ∈ zN ∧ znest w = true)) := zlk_gen zes_11 [287, 290, 292, 294, 310, 369, 371, 415, 418, 420, 422, 453, 548, 551, 554, 557, 600, 605, 631, 645, 900, 903, 906, 908, 912, 914, 916, 920, 922, 924, 966, 967, 968, 969, 970, 971, 972, 1000, 1012, 1013, 1017, 1020, 1032, 1874, 1882, 1894, 1898, 1906, 1918, 1919, 1920, 1925, 1930, 1938, 1946, 1951, 1960, 1966, 1970, 2017, 2070, 2071, 2076, 2084, 2093, 2117, 2138, 2193] (by decide +kernel) (by decide +kernel) (by decide +kernel) (fun k h => zlk_no (g := zlkT_11) k h)
def zes_12 : List zKE := [(664, 9, 0, 0, 2242), (669, 5, 238220, 0, 2243), (28, 0, 12, 0, 2244), (670, 0, 12, 1, 2245), (674, 0, 12, 2, 2246), (32, 0, 12, 3, 2247), (50, 0, 12, 4, 2248), (1, 0, 12, 5, 2249), (25, 0, 12, 6, 2250), (634, 0, 12, 7, 2251), (242, 0, 12, 8, 2252), (101, 0, 12, 9, 2253), (87, 0, 12, 10, 2254), (493, 0, 12, 11, 2255), (504, 0, 12, 12, 2256), (500, 0, 12, 13, 2257), (497, 0, 12, 14, 2258), (550, 0, 12, 15, 2259), (547, 0, 12, 16, 2260), (538, 0, 12, 17, 2261), (541, 0, 12, 18, 2262), (532, 0, 12, 19, 2263), (535, 0, 12, 20, 2264), (553, 0, 12, 21, 2265), (566, 0, 12, 22, 2266), (556, 0, 12, 23, 2267), (559, 0, 12, 24, 2268), (595, 0, 12, 25, 2269), (640, 0, 12, 26, 2270), (628, 0, 12, 27, 2271), (645, 0, 12, 28, 2272), (658, 0, 12, 29, 2273), (649, 0, 12, 30, 2274), (661, 0, 12, 31, 2275), (622, 0, 12, 32, 2276), (625, 0, 12, 33, 2277), (619, 0, 12, 34, 2278), (599, 1, 456, 3, 2354), (677, 1, 461, 0, 2365), (525, 5, 39700, 0, 2369), (284, 1, 502, 1, 2371), (128, 1, 330, 2, 2372), (107, 1, 324, 1, 2376), (90, 1, 303, 2, 2380), (39, 1, 301, 0, 2384), (46, 1, 300, 2, 2388), (682, 1, 460, 0, 2396), (685, 1, 457, 1, 2400), (526, 1, 430, 1, 2404), (463, 1, 414, 1, 2408), (72, 5, 33332, 0, 2412), (73, 6, 4, 0, 2413), (688, 1, 431, 2, 2414), (529, 1, 429, 0, 2418), (481, 1, 420, 0, 2422), (151, 1, 305, 2, 2426), (53, 1, 304, 0, 2430), (56, 1, 307, 1, 2434), (43, 1, 296, 1, 2438), (7, 1, 293, 0, 2442), (314, 1, 326, 1, 2446), (432, 1, 396, 2, 2450), (386, 1, 400, 1, 2454), (399, 1, 398, 1, 2458), (402, 1, 368, 1, 2462), (245, 1, 344, 1, 2466), (144, 1, 308, 1, 2470), (60, 1, 306, 0, 2474), (147, 1, 345, 1, 2478), (17, 1, 295, 1, 2482), (11, 1, 294, 0, 2486), (248, 1, 349, 1, 2490), (157, 1, 346, 1, 2494), (160, 1, 348, 1, 2498), (154, 1, 313, 1, 2502), (63, 1, 311, 0, 2506), (66, 1, 312, 1, 2510), (163, 1, 347, 0, 2514), (251, 1, 355, 1, 2518), (176, 1, 352, 1, 2522), (170, 1, 351, 2, 2526), (166, 1, 350, 2, 2530), (179, 6, 2, 0, 2533), (181, 1, 353, 0, 2534), (185, 1, 309, 1, 2538), (188, 1, 354, 1, 2542), (173, 1, 310, 0, 2546), (142, 6, 18446744073709551615, 0, 2550), (254, 1, 356, 1, 2551), (192, 1, 343, 1, 2555), (257, 1, 359, 1, 2559), (197, 1, 298, 2, 2563), (21, 1, 297, 2, 2567), (15, 6, 4096, 0, 2571), (75, 1, 302, 1, 2572), (35, 1, 299, 1, 2576), (201, 1, 357, 1, 2580), (195, 6, 256, 0, 2584), (204, 1, 358, 1, 2585), (208, 1, 360, 2, 2589), (260, 1, 367, 1, 2593), (229, 1, 364, 1, 2597), (217, 1, 342, 0, 2601), (226, 1, 315, 1, 2605), (70, 5, 34356, 0, 2609), (71, 5, 2147483647, 0, 2610), (220, 1, 362, 1, 2611), (211, 6, 10, 0, 2614), (213, 6, 48, 0, 2615), (215, 6, 65, 0, 2616), (232, 1, 366, 1, 2617), (235, 1, 365, 2, 2621), (239, 1, 363, 1, 2625), (223, 1, 361, 1, 2629), (405, 1, 380, 1, 2633), (298, 1, 331, 0, 2637), (114, 1, 322, 0, 2641), (78, 1, 316, 0, 2645), (81, 1, 318, 1, 2649), (84, 1, 320, 0, 2653), (93, 1, 319, 2, 2657), (97, 1, 321, 1, 2661), (305, 1, 378, 0, 2664), (301, 1, 377, 0, 2668), (304, 5, 39112, 0, 2672), (408, 1, 401, 1, 2673), (429, 1, 402, 3, 2677), (435, 1, 317, 0, 2681), (396, 1, 314, 1, 2685), (411, 1, 385, 1, 2689), (330, 1, 337, 2, 2693), (121, 1, 333, 1, 2697), (124, 1, 332, 2, 2701), (117, 1, 325, 1, 2705), (132, 1, 334, 0, 2709), (135, 1, 336, 0, 2713), (120, 5, 37612, 0, 2717), (334, 1, 384, 1, 2718), (321, 1, 338, 0, 2722), (324, 1, 441, 1, 2726), (591, 1, 434, 4, 2730), (562, 1, 437, 5, 2734), (569, 1, 439, 9, 2738), (588, 1, 440, 5, 2742), (584, 1, 436, 4, 2746), (544, 1, 432, 2, 2750), (577, 1, 435, 3, 2754), (573, 1, 433, 5, 2758), (581, 1, 438, 5, 2762), (327, 1, 335, 2, 2766), (269, 1, 370, 1, 2770), (318, 1, 373, 0, 2774), (276, 1, 329, 0, 2778), (110, 1, 328, 2, 2782), (104, 1, 327, 1, 2786), (337, 1, 383, 0, 2790), (340, 1, 381, 1, 2794), (308, 1, 374, 0, 2798), (311, 1, 382, 2, 2802), (343, 1, 371, 1, 2806), (263, 1, 323, 1, 2810), (266, 1, 369, 0, 2814), (272, 6, 128, 0, 2818), (346, 1, 372, 0, 2819), (274, 6, 512, 0, 2823), (349, 1, 376, 0, 2824), (290, 1, 375, 1, 2829), (279, 1, 501, 0, 2833), (414, 1, 406, 1, 2836), (438, 1, 405, 0, 2840), (441, 1, 403, 0, 2844), (444, 1, 404, 1, 2848), (417, 1, 394, 1, 2852), (362, 1, 387, 1, 2856), (352, 1, 339, 3, 2860), (138, 5, 37420, 0, 2864), (365, 1, 388, 0, 2865), (139, 1, 340, 2, 2869), (356, 1, 386, 0, 2873), (368, 1, 390, 1, 2877), (371, 1, 341, 1, 2881), (374, 1, 389, 0, 2885), (377, 1, 392, 1, 2889), (359, 1, 391, 3, 2893), (380, 1, 393, 0, 2897), (383, 1, 395, 0, 2901), (420, 1, 413, 1, 2905), (423, 1, 418, 1, 2909), (466, 1, 416, 1, 2913), (469, 1, 415, 0, 2917), (475, 1, 417, 1, 2921), (472, 1, 422, 0, 2925), (487, 1, 423, 1, 2929), (490, 1, 424, 1, 2933), (478, 1, 419, 0, 2937), (426, 1, 421, 1, 2941), (484, 6, 7, 0, 2945), (486, 5, 37356, 0, 2946), (389, 1, 397, 1, 2947), (392, 1, 379, 2, 2951), (519, 1, 427, 0, 2955), (510, 1, 428, 0, 2959), (513, 1, 399, 1, 2963), (516, 1, 426, 0, 2967), (507, 1, 425, 1, 2971), (522, 1, 409, 1, 2974), (447, 1, 410, 3, 2978), (450, 1, 407, 2, 2982), (453, 1, 408, 3, 2986), (457, 1, 412, 3, 2990), (460, 1, 411, 2, 2994), (691, 1, 473, 2, 3038), (694, 1, 477, 2, 3054), (697, 1, 442, 1, 3066), (700, 1, 448, 2, 3070), (603, 1, 447, 3, 3074), (606, 1, 443, 2, 3078), (609, 1, 445, 1, 3082), (612, 1, 444, 4, 3085), (616, 1, 446, 1, 3089), (637, 1, 449, 1, 3096), (703, 1, 451, 1, 3100), (631, 1, 450, 1, 3104), (706, 1, 452, 1, 3108), (643, 5, 16777216, 0, 3112), (644, 5, 285212672, 0, 3113), (709, 5, 198500, 0, 3114), (710, 1, 483, 0, 3123), (713, 1, 453, 0, 3131), (648, 5, 16777215, 0, 3135), (652, 1, 454, 0, 3136), (655, 5, 238201, 0, 3140), (656, 5, 238204, 0, 3141), (657, 5, 238200, 0, 3142), (716, 5, 229192, 0, 3147), (717, 5, 198600, 0, 3156), (718, 1, 490, 2, 3165), (721, 1, 493, 4, 3177), (725, 1, 495, 2, 3180)]
set_option maxRecDepth 100000 in
theorem zlk_12_ok : ∀ k r, zlk_12 k = some r → r.1 ≠ 7 → ∃ w, zlkw (zown 12) k r = some w ∧ (w ∈ zW ∨ (w ∈ zN ∧ znest w = true)) := zlk_gen zes_12 [2242, 2243, 2244, 2245, 2246, 2247, 2248, 2249, 2250, 2251, 2252, 2253, 2254, 2255, 2256, 2257, 2258, 2259, 2260, 2261, 2262, 2263, 2264, 2265, 2266, 2267, 2268, 2269, 2270, 2271, 2272, 2273, 2274, 2275, 2276, 2277, 2278, 2354, 2365, 2369, 2371, 2372, 2376, 2380, 2384, 2388, 2396, 2400, 2404, 2408, 2412, 2413, 2414, 2418, 2422, 2426, 2430, 2434, 2438, 2442, 2446, 2450, 2454, 2458, 2462, 2466, 2470, 2474, 2478, 2482, 2486, 2490, 2494, 2498, 2502, 2506, 2510, 2514, 2518, 2522, 2526, 2530, 2533, 2534, 2538, 2542, 2546, 2550, 2551, 2555, 2559, 2563, 2567, 2571, 2572, 2576, 2580, 2584, 2585, 2589, 2593, 2597, 2601, 2605, 2609, 2610, 2611, 2614, 2615, 2616, 2617, 2621, 2625, 2629, 2633, 2637, 2641, 2645, 2649, 2653, 2657, 2661, 2664, 2668, 2672, 2673, 2677, 2681, 2685, 2689, 2693, 2697, 2701, 2705, 2709, 2713, 2717, 2718, 2722, 2726, 2730, 2734, 2738, 2742, 2746, 2750, 2754, 2758, 2762, 2766, 2770, 2774, 2778, 2782, 2786, 2790, 2794, 2798, 2802, 2806, 2810, 2814, 2818, 2819, 2823, 2824, 2829, 2833, 2836, 2840, 2844, 2848, 2852, 2856, 2860, 2864, 2865, 2869, 2873, 2877, 2881, 2885, 2889, 2893, 2897, 2901, 2905, 2909, 2913, 2917, 2921, 2925, 2929, 2933, 2937, 2941, 2945, 2946, 2947, 2951, 2955, 2959, 2963, 2967, 2971, 2974, 2978, 2982, 2986, 2990, 2994, 3038, 3054, 3066, 3070, 3074, 3078, 3082, 3085, 3089, 3096, 3100, 3104, 3108, 3112, 3113, 3114, 3123, 3131, 3135, 3136, 3140, 3141, 3142, 3147, 3156, 3165, 3177, 3180] (by decide +kernel) (by decide +kernel) (by decide +kernel) (fun k h => zlk_no (g := zlkT_12) k h)
def zes_13 : List zKE := [(7, 3, 11, 0, 282), (9, 1, 253, 0, 284), (15, 1, 254, 2, 988), (20, 1, 255, 0, 992), (25, 1, 256, 2, 996), (30, 1, 257, 2, 1008), (34, 1, 258, 2, 1866), (38, 1, 259, 2, 1870), (42, 1, 260, 2, 1878), (46, 1, 261, 2, 1886), (50, 1, 262, 3, 1890), (55, 1, 263, 4, 1902), (60, 1, 264, 2, 1910), (64, 1, 265, 3, 1914), (68, 1, 266, 1, 1921), (73, 1, 267, 3, 1926), (77, 1, 268, 3, 1934), (81, 1, 269, 3, 1942), (85, 1, 270, 2, 1947), (89, 1, 271, 3, 1952), (93, 1, 272, 2, 1956), (97, 1, 273, 2, 2013), (101, 1, 274, 1, 2072), (105, 1, 275, 1, 2080), (109, 1, 276, 1, 2089), (113, 1, 277, 1, 2113), (117, 1, 278, 1, 2122), (121, 1, 279, 1, 2126), (125, 1, 280, 3, 2130), (129, 1, 281, 2, 2134), (133, 1, 282, 2, 2185), (137, 1, 283, 2, 2189), (10, 3, 12, 0, 2237), (12, 1, 455, 0, 2239), (19, 1, 458, 2, 2350), (24, 1, 459, 0, 2357), (29, 1, 462, 2, 2361), (33, 1, 463, 2, 2392), (37, 1, 464, 2, 2998), (41, 1, 465, 2, 3002), (45, 1, 466, 2, 3006), (49, 1, 467, 2, 3010), (54, 1, 468, 3, 3014), (59, 1, 469, 4, 3018), (63, 1, 470, 2, 3022), (67, 1, 471, 3, 3026), (72, 1, 472, 1, 3030), (76, 1, 474, 3, 3034), (80, 1, 475, 3, 3042), (84, 1, 476, 3, 3046), (88, 1, 478, 2, 3050), (92, 1, 479, 3, 3058), (96, 1, 480, 2, 3062), (100, 1, 481, 2, 3092), (104, 1, 482, 1, 3115), (108, 1, 484, 1, 3119), (112, 1, 485, 1, 3127), (116, 1, 486, 1, 3143), (120, 1, 487, 1, 3148), (124, 1, 488, 1, 3152), (128, 1, 489, 3, 3157), (132, 1, 491, 2, 3161), (136, 1, 492, 2, 3169), (141, 1, 494, 2, 3173), (13, 6, 4294967295, 0, 3184)]
set_option maxRecDepth 100000 in
theorem zlk_13_ok : ∀ k r, zlk_13 k = some r → r.1 ≠ 7 → ∃ w, zlkw (zown 13) k r = some w ∧ (w ∈ zW ∨ (w ∈ zN ∧ znest w = true)) := zlk_gen zes_13 [282, 284, 988, 992, 996, 1008, 1866, 1870, 1878, 1886, 1890, 1902, 1910, 1914, 1921, 1926, 1934, 1942, 1947, 1952, 1956, 2013, 2072, 2080, 2089, 2113, 2122, 2126, 2130, 2134, 2185, 2189, 2237, 2239, 2350, 2357, 2361, 2392, 2998, 3002, 3006, 3010, 3014, 3018, 3022, 3026, 3030, 3034, 3042, 3046, 3050, 3058, 3062, 3092, 3115, 3119, 3127, 3143, 3148, 3152, 3157, 3161, 3169, 3173, 3184] (by decide +kernel) (by decide +kernel) (by decide +kernel) (fun k h => zlk_no (g := zlkT_13) k h)
def zes_14 : List zKE := []
set_option maxRecDepth 100000 in
theorem zlk_14_ok : ∀ k r, zlk_14 k = some r → r.1 ≠ 7 → ∃ w, zlkw (zown 14) k r = some w ∧ (w ∈ zW ∨ (w ∈ zN ∧ znest w = true)) := zlk_gen zes_14 [] (by decide +kernel) (by decide +kernel) (by decide +kernel) (fun k h => zlk_no (g := zlkT_14) k h)
def zes_15 : List zKE := [(13, 1, 511, 3, 1455)]
set_option maxRecDepth 100000 in
theorem zlk_15_ok : ∀ k r, zlk_15 k = some r → r.1 ≠ 7 → ∃ w, zlkw (zown 15) k r = some w ∧ (w ∈ zW ∨ (w ∈ zN ∧ znest w = true)) := zlk_gen zes_15 [1455] (by decide +kernel) (by decide +kernel) (by decide +kernel) (fun k h => zlk_no (g := zlkT_15) k h)
def zes_16 : List zKE := [(335, 1, 503, 0, 474), (38, 12, 0, 0, 478), (492, 1, 504, 0, 484), (495, 1, 506, 2, 488), (1053, 13, 0, 0, 494), (1059, 1, 515, 3, 496), (498, 1, 509, 2, 499), (9, 11, 0, 0, 3185), (15, 11, 1, 0, 3186)]
set_option maxRecDepth 100000 in
theorem zlk_16_ok : ∀ k r, zlk_16 k = some r → r.1 ≠ 7 → ∃ w, zlkw (zown 16) k r = some w ∧ (w ∈ zW ∨ (w ∈ zN ∧ znest w = true)) := zlk_gen zes_16 [474, 478, 484, 488, 494, 496, 499, 3185, 3186] (by decide +kernel) (by decide +kernel) (by decide +kernel) (fun k h => zlk_no (g := zlkT_16) k h)
def zes_17 : List zKE := [(9, 1, 505, 2, 491)]
set_option maxRecDepth 100000 in
theorem zlk_17_ok : ∀ k r, zlk_17 k = some r → r.1 ≠ 7 → ∃ w, zlkw (zown 17) k r = some w ∧ (w ∈ zW ∨ (w ∈ zN ∧ znest w = true)) := zlk_gen zes_17 [491] (by decide +kernel) (by decide +kernel) (by decide +kernel) (fun k h => zlk_no (g := zlkT_17) k h)
def zes_18 : List zKE := [(67, 1, 510, 2, 502), (48, 1, 508, 1, 505), (414, 1, 505, 2, 508), (71, 1, 507, 2, 509)]
set_option maxRecDepth 100000 in
theorem zlk_18_ok : ∀ k r, zlk_18 k = some r → r.1 ≠ 7 → ∃ w, zlkw (zown 18) k r = some w ∧ (w ∈ zW ∨ (w ∈ zN ∧ znest w = true)) := zlk_gen zes_18 [502, 505, 508, 509] (by decide +kernel) (by decide +kernel) (by decide +kernel) (fun k h => zlk_no (g := zlkT_18) k h)
def zes_19 : List zKE := []
set_option maxRecDepth 100000 in
theorem zlk_19_ok : ∀ k r, zlk_19 k = some r → r.1 ≠ 7 → ∃ w, zlkw (zown 19) k r = some w ∧ (w ∈ zW ∨ (w ∈ zN ∧ znest w = true)) := zlk_gen zes_19 [] (by decide +kernel) (by decide +kernel) (by decide +kernel) (fun k h => zlk_no (g := zlkT_19) k h)
def zes_20 : List zKE := []
set_option maxRecDepth 100000 in
theorem zlk_20_ok : ∀ k r, zlk_20 k = some r → r.1 ≠ 7 → ∃ w, zlkw (zown 20) k r = some w ∧ (w ∈ zW ∨ (w ∈ zN ∧ znest w = true)) := zlk_gen zes_20 [] (by decide +kernel) (by decide +kernel) (by decide +kernel) (fun k h => zlk_no (g := zlkT_20) k h)
theorem zlk_ok : ∀ (o : Nat), o < 21 → ∀ k r, zlk o k = some r → r.1 ≠ 7 → ∃ w, zlkw (zown o) k r = some w ∧ (w ∈ zW ∨ (w ∈ zN ∧ znest w = true))
  | 0, _ => zlk_0_ok
  | 1, _ => zlk_1_ok
  | 2, _ => zlk_2_ok
  | 3, _ => zlk_3_ok
  | 4, _ => zlk_4_ok
  | 5, _ => zlk_5_ok
  | 6, _ => zlk_6_ok
  | 7, _ => zlk_7_ok
  | 8, _ => zlk_8_ok
  | 9, _ => zlk_9_ok
  | 10, _ => zlk_10_ok
  | 11, _ => zlk_11_ok
  | 12, _ => zlk_12_ok
  | 13, _ => zlk_13_ok
  | 14, _ => zlk_14_ok
  | 15, _ => zlk_15_ok
  | 16, _ => zlk_16_ok
  | 17, _ => zlk_17_ok
  | 18, _ => zlk_18_ok
  | 19, _ => zlk_19_ok
  | 20, _ => zlk_20_ok
  | k + 21, h => by omega
theorem zw_arr0 : Cond.arrayClass .int ∈ zW := zW_of 332 (by decide +kernel) (by decide +kernel)
theorem zw_arr1 : Cond.arrayClass .byte ∈ zW := zW_of 330 (by decide +kernel) (by decide +kernel)
theorem zw_arr2 : Cond.arrayClass .boolean ∈ zW := zW_of 331 (by decide +kernel) (by decide +kernel)
theorem zw_obj1 : Cond.instanceMethod objectInit ∈ zW := zW_of 288 (by decide +kernel) (by decide +kernel)
theorem zw_obj2 : Cond.code objectInit ⟨#[0xb1]⟩ 1 none ∈ zW := zW_of 289 (by decide +kernel) (by decide +kernel)
theorem zw_cpy1 : Cond.native arraycopyName ∈ zW := zW_of 1026 (by decide +kernel) (by decide +kernel)
theorem zw_cpy2 : Cond.static arraycopyName ∈ zW := zW_of 1025 (by decide +kernel) (by decide +kernel)
theorem zw_cpy3 : Cond.initialized "java/lang/System" ∈ zW := zW_of 280 (by decide +kernel) (by decide +kernel)
theorem zw_cls0 : Cond.instantiable RX0 11 ∈ zW ∧ Cond.initialized RX0 ∈ zW := ⟨zW_of 293 (by decide +kernel) (by decide +kernel), zW_of 263 (by decide +kernel) (by decide +kernel)⟩
theorem zw_cls1 : Cond.instantiable RX1 18 ∈ zW ∧ Cond.initialized RX1 ∈ zW := ⟨zW_of 452 (by decide +kernel) (by decide +kernel), zW_of 266 (by decide +kernel) (by decide +kernel)⟩
theorem zw_cls2 : Cond.instantiable RX2 3 ∈ zW ∧ Cond.initialized RX2 ∈ zW := ⟨zW_of 592 (by decide +kernel) (by decide +kernel), zW_of 272 (by decide +kernel) (by decide +kernel)⟩
theorem zw_cls3 : Cond.instantiable RX3 20 ∈ zW ∧ Cond.initialized RX3 ∈ zW := ⟨zW_of 827 (by decide +kernel) (by decide +kernel), zW_of 278 (by decide +kernel) (by decide +kernel)⟩
theorem zw_cls4 : Cond.instantiable RX4 12 ∈ zW ∧ Cond.initialized RX4 ∈ zW := ⟨zW_of 741 (by decide +kernel) (by decide +kernel), zW_of 276 (by decide +kernel) (by decide +kernel)⟩
theorem zw_cls5 : Cond.instantiable RX5 15 ∈ zW ∧ Cond.initialized RX5 ∈ zW := ⟨zW_of 682 (by decide +kernel) (by decide +kernel), zW_of 275 (by decide +kernel) (by decide +kernel)⟩
theorem zw_cls6 : Cond.instantiable RX6 8 ∈ zW ∧ Cond.initialized RX6 ∈ zW := ⟨zW_of 792 (by decide +kernel) (by decide +kernel), zW_of 277 (by decide +kernel) (by decide +kernel)⟩
theorem zw_cls7 : Cond.instantiable RX7 5 ∈ zW ∧ Cond.initialized RX7 ∈ zW := ⟨zW_of 299 (by decide +kernel) (by decide +kernel), zW_of 264 (by decide +kernel) (by decide +kernel)⟩
theorem zw_cls8 : Cond.instantiable RX8 18 ∈ zW ∧ Cond.initialized RX8 ∈ zW := ⟨zW_of 334 (by decide +kernel) (by decide +kernel), zW_of 265 (by decide +kernel) (by decide +kernel)⟩
theorem zw_cls9 : Cond.instantiable RX9 15 ∈ zW ∧ Cond.initialized RX9 ∈ zW := ⟨zW_of 620 (by decide +kernel) (by decide +kernel), zW_of 273 (by decide +kernel) (by decide +kernel)⟩
theorem zw_cls10 : Cond.instantiable RX10 14 ∈ zW ∧ Cond.initialized RX10 ∈ zW := ⟨zW_of 460 (by decide +kernel) (by decide +kernel), zW_of 267 (by decide +kernel) (by decide +kernel)⟩
theorem zw_cls11 : Cond.instantiable RX11 7 ∈ zW ∧ Cond.initialized RX11 ∈ zW := ⟨zW_of 283 (by decide +kernel) (by decide +kernel), zW_of 262 (by decide +kernel) (by decide +kernel)⟩
theorem zw_cls12 : Cond.instantiable RX12 35 ∈ zW ∧ Cond.initialized RX12 ∈ zW := ⟨zW_of 2238 (by decide +kernel) (by decide +kernel), zW_of 279 (by decide +kernel) (by decide +kernel)⟩
theorem zw_cls : ∀ (ci : Nat) (q : vw_C), zcls[ci]? = some q → Cond.instantiable q.1 q.2.2 ∈ zW ∧ Cond.initialized q.1 ∈ zW
  | 0, q, h => by cases h; exact zw_cls0
  | 1, q, h => by cases h; exact zw_cls1
  | 2, q, h => by cases h; exact zw_cls2
  | 3, q, h => by cases h; exact zw_cls3
  | 4, q, h => by cases h; exact zw_cls4
  | 5, q, h => by cases h; exact zw_cls5
  | 6, q, h => by cases h; exact zw_cls6
  | 7, q, h => by cases h; exact zw_cls7
  | 8, q, h => by cases h; exact zw_cls8
  | 9, q, h => by cases h; exact zw_cls9
  | 10, q, h => by cases h; exact zw_cls10
  | 11, q, h => by cases h; exact zw_cls11
  | 12, q, h => by cases h; exact zw_cls12
  | k + 13, q, h => by simp [zcls] at h
end
section
/-! THE EVALUATOR: a plain function over an abstract memory. References are object numbers: below 1000000 the run's own, from there on those that were there before. -/
abbrev zE : Type := (Nat × vp_A) ⊕ (Nat × List Value)
abbrev zM : Type := Nat × Nat × (Nat → zE)
abbrev zL : Type := List (Nat × Value)
def zlen (e : zE) : Nat := match e with
  | .inl a => a.2.1
  | .inr o => o.2.length
def zset (M : zM) (k : Nat) (e : zE) : zM := (M.1, M.2.1, va_up M.2.2 k e)
def zpush (M : zM) (e : zE) : zM := (M.1 + 1, M.2.1 + zlen e, va_up M.2.2 M.1 e)
def zget (ls : zL) (i : Nat) : Option Value := match ls.find? (fun q => q.1 == i) with
  | some q => some q.2
  | none => none
def zrep : zL → Nat → Value → zL
  | [], i, v => [(i, v)]
  | q :: l, i, v => cond (q.1 == i) ((i, v) :: l.filter (fun p => !(p.1 == i))) (q :: zrep l i v)
def zput1 (ls : zL) (i : Nat) (v : Value) : zL := zrep (ls.filter (fun q => !(q.1 + 1 == i && q.2.category == 2))) i v
def zput2 (ls : zL) (i : Nat) (v : Value) : zL := zrep (ls.filter (fun q => !(q.1 == i + 1) && !(q.1 + 1 == i && q.2.category == 2))) i v
abbrev zR : Type := Option (Nat × zL × List Value × zM)
def zjmp (pc : Nat) (off : Int) : Option Nat := if (pc : Int) + off < 0 then none else some ((pc : Int) + off).toNat
/-- binary operations on ints -/
def zbI (i : Instr) : Option (Int32 → Int32 → Option Int32) := match i with
  | .iadd => some fun x y => some (x + y)
  | .isub => some fun x y => some (x - y)
  | .imul => some fun x y => some (x * y)
  | .iand => some fun x y => some (x &&& y)
  | .ior => some fun x y => some (x ||| y)
  | .ixor => some fun x y => some (x ^^^ y)
  | .idiv => some fun x y => if y = 0 then none else some (x / y)
  | .irem => some fun x y => if y = 0 then none else some (x - x / y * y)
  | .ishl => some fun x y => some (x <<< (y &&& 31))
  | .ishr => some fun x y => some (x >>> (y &&& 31))
  | .iushr => some fun x y => some (x.toUInt32 >>> (y.toUInt32 &&& Int32.toUInt32 31)).toInt32
  | _ => none
def zuI (i : Instr) : Option (Int32 → Int32) := match i with
  | .ineg => some fun x => -x
  | .i2b => some fun x => x.toInt8.toInt32
  | .i2c => some fun x => (x.toUInt32 % 65536).toInt32
  | _ => none
def zbL (i : Instr) : Option (Int64 → Int64 → Option Int64) := match i with
  | .ladd => some fun x y => some (x + y)
  | .lsub => some fun x y => some (x - y)
  | .lmul => some fun x y => some (x * y)
  | .land => some fun x y => some (x &&& y)
  | .lor => some fun x y => some (x ||| y)
  | .lxor => some fun x y => some (x ^^^ y)
  | .ldiv => some fun x y => if y = 0 then none else some (x / y)
  | .lrem => some fun x y => if y = 0 then none else some (x - x / y * y)
  | _ => none
def zsL (i : Instr) : Option (Int64 → Int32 → Int64) := match i with
  | .lshl => some fun x y => x <<< (y.toInt64 &&& 63)
  | .lshr => some fun x y => x >>> (y.toInt64 &&& 63)
  | .lushr => some fun x y => (x.toUInt64 >>> (y.toInt64.toUInt64 &&& Int64.toUInt64 63)).toInt64
  | _ => none
def zcI (c : ClassFile.Cond) (x y : Int32) : Bool := match c with
  | .eq => decide (x = y)
  | .ne => decide (¬ x = y)
  | .lt => decide (x < y)
  | .ge => decide (y ≤ x)
  | .gt => decide (y < x)
  | .le => decide (x ≤ y)
def zisByte (v : Int32) : Bool := fits .byte (.int v)
/-- what does not call, and does not reach out of the frame -/
def zs0 (pc : Nat) (ls : zL) (st : List Value) (nL : Nat) (i : Instr) (len : Nat) : Option (Nat × zL × List Value) := match i with
  | .iconst n => some (pc + 1, ls, .int (Int32.ofInt n) :: st)
  | .bipush n => some (pc + 2, ls, .int (Int8.ofInt n).toInt32 :: st)
  | .sipush n => some (pc + 3, ls, .int (Int16.ofInt n).toInt32 :: st)
  | .lconst n => some (pc + 1, ls, .long (Int64.ofNat (n : Nat)) :: st)
  | .aconst_null => some (pc + 1, ls, .null :: st)
  | .iload_n k => match zget ls k with
    | some (.int x) => some (pc + 1, ls, .int x :: st)
    | _ => none
  | .iload k => match zget ls k with
    | some (.int x) => some (pc + 2, ls, .int x :: st)
    | _ => none
  | .lload_n k => match zget ls k with
    | some (.long x) => some (pc + 1, ls, .long x :: st)
    | _ => none
  | .lload k => match zget ls k with
    | some (.long x) => some (pc + 2, ls, .long x :: st)
    | _ => none
  | .aload_n k => match zget ls k with
    | some (.ref x) => some (pc + 1, ls, .ref x :: st)
    | some .null => some (pc + 1, ls, .null :: st)
    | _ => none
  | .aload k => match zget ls k with
    | some (.ref x) => some (pc + 2, ls, .ref x :: st)
    | some .null => some (pc + 2, ls, .null :: st)
    | _ => none
  | .istore_n k => match st with
    | .int x :: r => if (k : Nat) < nL then some (pc + 1, zput1 ls k (.int x), r) else none
    | _ => none
  | .istore k => match st with
    | .int x :: r => if k < nL then some (pc + 2, zput1 ls k (.int x), r) else none
    | _ => none
  | .lstore_n k => match st with
    | .long x :: r => if (k : Nat) + 1 < nL then some (pc + 1, zput2 ls k (.long x), r) else none
    | _ => none
  | .lstore k => match st with
    | .long x :: r => if k + 1 < nL then some (pc + 2, zput2 ls k (.long x), r) else none
    | _ => none
  | .astore_n k => match st with
    | .ref x :: r => if (k : Nat) < nL then some (pc + 1, zput1 ls k (.ref x), r) else none
    | .null :: r => if (k : Nat) < nL then some (pc + 1, zput1 ls k .null, r) else none
    | _ => none
  | .astore k => match st with
    | .ref x :: r => if k < nL then some (pc + 2, zput1 ls k (.ref x), r) else none
    | .null :: r => if k < nL then some (pc + 2, zput1 ls k .null, r) else none
    | _ => none
  | .iinc k n => match zget ls k with
    | some (.int x) => if k < nL then some (pc + 3, zput1 ls k (.int (x + Int32.ofInt n)), st) else none
    | _ => none
  | .dup => match st with
    | v :: r => if v.category = 1 then some (pc + 1, ls, v :: v :: r) else none
    | _ => none
  | .pop => match st with
    | v :: r => if v.category = 1 then some (pc + 1, ls, r) else none
    | _ => none
  | .pop2 => match st with
    | v :: r => if v.category = 2 then some (pc + 1, ls, r) else none
    | _ => none
  | .dup_x1 => match st with
    | v :: w :: r => if v.category = 1 ∧ w.category = 1 then some (pc + 1, ls, v :: w :: v :: r) else none
    | _ => none
  | .dup2 => match st with
    | v :: w :: r => if v.category = 1 ∧ w.category = 1 then some (pc + 1, ls, v :: w :: v :: w :: r) else if v.category = 2 then some (pc + 1, ls, v :: v :: w :: r) else none
    | _ => none
  | .i2l => match st with
    | .int x :: r => some (pc + 1, ls, .long x.toInt64 :: r)
    | _ => none
  | .l2i => match st with
    | .long x :: r => some (pc + 1, ls, .int x.toInt32 :: r)
    | _ => none
  | .lneg => match st with
    | .long x :: r => some (pc + 1, ls, .long (-x) :: r)
    | _ => none
  | .lcmp => match st with
    | .long y :: .long x :: r => some (pc + 1, ls, .int (lg_cmp x y) :: r)
    | _ => none
  | .goto off => match zjmp pc off with
    | some t => some (t, ls, st)
    | none => none
  | .ifCond c off => match st with
    | .int x :: r => match zjmp pc off with
      | some t => some (if zcI c x 0 then t else pc + 3, ls, r)
      | none => none
    | _ => none
  | .if_icmp c off => match st with
    | .int y :: .int x :: r => match zjmp pc off with
      | some t => some (if zcI c x y then t else pc + 3, ls, r)
      | none => none
    | _ => none
  | .ifnull off => match st with
    | .ref _ :: r => some (pc + 3, ls, r)
    | .null :: r => match zjmp pc off with
      | some t => some (t, ls, r)
      | none => none
    | _ => none
  | .ifnonnull off => match st with
    | .null :: r => some (pc + 3, ls, r)
    | .ref _ :: r => match zjmp pc off with
      | some t => some (t, ls, r)
      | none => none
    | _ => none
  | .tableswitch dflt lo hi offs => match st with
    | .int x :: r => if x.toInt < lo ∨ hi < x.toInt then (match zjmp pc dflt with
        | some t => some (t, ls, r)
        | none => none) else match offs[(x.toInt - lo).toNat]? with
      | some off => (match zjmp pc off with
        | some t => some (t, ls, r)
        | none => none)
      | none => none
    | _ => none
  | .lookupswitch dflt ps => match st with
    | .int x :: r => if (ps.toList.zip (ps.toList.drop 1)).all (fun (a, next) => a.1 < next.1) = true then (match zjmp pc (Op.lookupswitch.offset ps.toList dflt x.toInt) with
        | some t => some (t, ls, r)
        | none => none) else none
    | _ => none
  | i => match zbI i with
    | some f => (match st with
      | .int y :: .int x :: r => (match f x y with
        | some v => some (pc + 1, ls, .int v :: r)
        | none => none)
      | _ => none)
    | none => match zuI i with
      | some f => (match st with
        | .int x :: r => some (pc + 1, ls, .int (f x) :: r)
        | _ => none)
      | none => match zbL i with
        | some f => (match st with
          | .long y :: .long x :: r => (match f x y with
            | some v => some (pc + 1, ls, .long v :: r)
            | none => none)
          | _ => none)
        | none => match zsL i with
          | some f => (match st with
            | .int y :: .long x :: r => some (pc + 1, ls, .long (f x y) :: r)
            | _ => none)
          | none => none
/-- the length that an instruction has -/
def zlok (i : Instr) (len : Nat) : Bool := match i with
  | .bipush _ | .iload _ | .lload _ | .aload _ | .istore _ | .lstore _ | .astore _ | .ldc _ | .newarray _ => len == 2
  | .sipush _ | .iinc _ _ | .goto _ | .ifCond _ _ | .if_icmp _ _ | .ifnull _ | .ifnonnull _ | .getfield _ | .putfield _ | .getstatic _ | .invokevirtual _ | .invokespecial _ | .invokestatic _ | .new _ | .anewarray _ | .ldc_w _ | .ldc2_w _ => len == 3
  | .tableswitch _ _ _ _ | .lookupswitch _ _ => true
  | _ => len == 1
end
section
/-! THE ROWS OF THE EVALUATOR, 0: what stays within the frame -/
def zcv (ad : Nat → Nat) (v : Value) : Value := match v with
  | .ref a => .ref (ad a)
  | w => w
def zcl (ad : Nat → Nat) (ls : zL) : zL := ls.map fun q => (q.1, zcv ad q.2)
def zcs (ad : Nat → Nat) (st : List Value) : List Value := st.map (zcv ad)
theorem zcv_cat (ad : Nat → Nat) (v : Value) : (zcv ad v).category = v.category := by cases v <;> rfl
theorem zcs_cons (ad : Nat → Nat) (v : Value) (st : List Value) : zcs ad (v :: st) = zcv ad v :: zcs ad st := rfl
theorem z_at {ad : Nat → Nat} {L : Array Slot} {nL : Nat} {ls : zL} (hl : lv_has L nL (zcl ad ls)) {i : Nat} {v : Value} (h : zget ls i = some v) : L[i]? = some (.val (zcv ad v)) := by
  unfold zget at h
  cases hf : ls.find? (fun q => q.1 == i) with
  | none => rw [hf] at h; cases h
  | some q =>
    rw [hf] at h
    have hv : q.2 = v := Option.some.inj h
    have hm := List.mem_of_find?_eq_some hf
    have hi : q.1 = i := by simpa using List.find?_some hf
    have := hl.2.2 (q.1, zcv ad q.2) (List.mem_map.mpr ⟨q, hm, rfl⟩)
    rw [hv, hi] at this
    exact this
theorem z_mem {ad : Nat → Nat} {ls : zL} {i : Nat} {v : Value} (h : zget ls i = some v) : ∃ k : Nat, (zcl ad ls)[k]? = some (i, zcv ad v) := by
  unfold zget at h
  cases hf : ls.find? (fun q => q.1 == i) with
  | none => rw [hf] at h; cases h
  | some q =>
    rw [hf] at h
    have hv : q.2 = v := Option.some.inj h
    have hm := List.mem_of_find?_eq_some hf
    have hi : q.1 = i := by simpa using List.find?_some hf
    subst hv
    subst hi
    have h2 : (q.1, zcv ad q.2) ∈ zcl ad ls := List.mem_map.mpr ⟨q, hm, rfl⟩
    exact List.getElem?_of_mem h2
theorem zrep_mem {p : Nat × Value} {i : Nat} {v : Value} : ∀ (l : zL), p ∈ zrep l i v → p = (i, v) ∨ (p ∈ l ∧ ¬ p.1 = i) := by
  intro l
  induction l with
  | nil => intro h; exact Or.inl (by simpa [zrep] using h)
  | cons q l ih =>
    intro h
    unfold zrep at h
    cases hq : (q.1 == i) with
    | true =>
      rw [hq] at h
      rcases List.mem_cons.mp h with h | h
      · exact Or.inl h
      · obtain ⟨h1, h2⟩ := List.mem_filter.mp h
        exact Or.inr ⟨List.mem_cons_of_mem _ h1, by simpa using h2⟩
    | false =>
      rw [hq] at h
      rcases List.mem_cons.mp h with h | h
      · subst h
        exact Or.inr ⟨List.mem_cons_self, by simpa using hq⟩
      · rcases ih h with h | ⟨h1, h2⟩
        · exact Or.inl h
        · exact Or.inr ⟨List.mem_cons_of_mem _ h1, h2⟩
theorem z_put1 {ad : Nat → Nat} {L : Array Slot} {nL : Nat} (ls : zL) (i : Nat) (v : Value) (h : lv_has L nL ((i, zcv ad v) :: (zcl ad ls).filter (fun q => !(q.1 == i) && !(q.1 + 1 == i && q.2.category == 2)))) : lv_has L nL (zcl ad (zput1 ls i v)) := by
  refine ⟨h.1, h.2.1, fun q hq => h.2.2 q ?_⟩
  obtain ⟨p, hp, rfl⟩ := List.mem_map.mp hq
  rcases zrep_mem _ hp with rfl | ⟨h1, h2⟩
  · exact List.mem_cons_self
  · obtain ⟨h3, h4⟩ := List.mem_filter.mp h1
    refine List.mem_cons_of_mem _ (List.mem_filter.mpr ⟨List.mem_map.mpr ⟨p, h3, rfl⟩, ?_⟩)
    simp only [zcv_cat]
    simp only [h4, Bool.and_true, Bool.not_eq_true', beq_eq_false_iff_ne, ne_eq]
    exact h2
theorem z_put2 {ad : Nat → Nat} {L : Array Slot} {nL : Nat} (ls : zL) (i : Nat) (v : Value) (h : lv_has L nL ((i, zcv ad v) :: (zcl ad ls).filter (fun q => !(q.1 == i) && (!(q.1 == i + 1) && !(q.1 + 1 == i && q.2.category == 2))))) : lv_has L nL (zcl ad (zput2 ls i v)) := by
  refine ⟨h.1, h.2.1, fun q hq => h.2.2 q ?_⟩
  obtain ⟨p, hp, rfl⟩ := List.mem_map.mp hq
  rcases zrep_mem _ hp with rfl | ⟨h1, h2⟩
  · exact List.mem_cons_self
  · obtain ⟨h3, h4⟩ := List.mem_filter.mp h1
    refine List.mem_cons_of_mem _ (List.mem_filter.mpr ⟨List.mem_map.mpr ⟨p, h3, rfl⟩, ?_⟩)
    simp only [zcv_cat]
    simp only [h4, Bool.and_true, Bool.not_eq_true', beq_eq_false_iff_ne, ne_eq]
    exact h2
theorem z_jmp {pc t : Nat} {off : Int} (h : zjmp pc off = some t) : (pc : Int) + off = (t : Int) := by
  unfold zjmp at h
  split at h
  · cases h
  · have := Option.some.inj h
    omega
theorem z_cI {c : ClassFile.Cond} {x y : Int32} : zcI c x y = true ↔ (match c with | .eq => x = y | .ne => ¬ x = y | .lt => x < y | .ge => y ≤ x | .gt => y < x | .le => x ≤ y) := by
  cases c <;> simp [zcI]
section ZS0
variable {p : Program} {l : Launch} {e : Env} {R : Room} {s : State} {m : MethodId} {args : Array Value} {below : List Frame} {meth : Method} {c : Code} {H : Heap} {locs : List Loc} {cells slots : Nat} {Q : State → Prop} {cc : ByteArray} {ad : Nat → Nat} {pc nL len pc' : Nat} {i : Instr} {ls ls' : zL} {st st' : List Value} {L : Array Slot}
theorem z_icmp (hx : p.tables.exec = Jvm.exec) (hb : c.code = cc) {k : ClassFile.Cond} {x y : Int32} {off : Int} {t : Nat} {rest : List Value} (hd : decode cc pc = .ok (.if_icmp k off, 3)) (ht : (pc : Int) + off = (t : Int)) (kk : W p l e R s m args below meth c H locs cells slots Q (F0 m (if zcI k x y then t else pc + 3) L rest)) : W p l e R s m args below meth c H locs cells slots Q (F0 m pc L (.int y :: .int x :: rest)) := by
  cases k
  · exact lv_icmp_eq hx hb hd ht (fun h => by rw [if_pos (z_cI.mpr h)] at kk; exact kk) (fun h => by rw [if_neg (fun q => h (z_cI.mp q))] at kk; exact kk)
  · exact lv_icmp_ne hx hb hd ht (fun h => by rw [if_pos (z_cI.mpr h)] at kk; exact kk) (fun h => by rw [if_neg (show ¬ zcI .ne x y = true by simp [zcI, h])] at kk; exact kk)
  · exact lv_icmp_lt hx hb hd ht (fun h => by rw [if_pos (z_cI.mpr h)] at kk; exact kk) (fun h => by rw [if_neg (fun q => h (z_cI.mp q))] at kk; exact kk)
  · exact lv_icmp_ge hx hb hd ht (fun h => by rw [if_pos (z_cI.mpr h)] at kk; exact kk) (fun h => by rw [if_neg (fun q => h (z_cI.mp q))] at kk; exact kk)
  · exact lv_icmp_gt hx hb hd ht (fun h => by rw [if_pos (z_cI.mpr h)] at kk; exact kk) (fun h => by rw [if_neg (fun q => h (z_cI.mp q))] at kk; exact kk)
  · exact lv_icmp_le hx hb hd ht (fun h => by rw [if_pos (z_cI.mpr h)] at kk; exact kk) (fun h => by rw [if_neg (fun q => h (z_cI.mp q))] at kk; exact kk)
theorem z_if (hx : p.tables.exec = Jvm.exec) (hb : c.code = cc) {k : ClassFile.Cond} {x : Int32} {off : Int} {t : Nat} {rest : List Value} (hd : decode cc pc = .ok (.ifCond k off, 3)) (ht : (pc : Int) + off = (t : Int)) (kk : W p l e R s m args below meth c H locs cells slots Q (F0 m (if zcI k x 0 then t else pc + 3) L rest)) : W p l e R s m args below meth c H locs cells slots Q (F0 m pc L (.int x :: rest)) := by
  cases k
  · exact lv_if_eq hx hb hd ht (fun h => by rw [if_pos (z_cI.mpr h)] at kk; exact kk) (fun h => by rw [if_neg (fun q => h (z_cI.mp q))] at kk; exact kk)
  · exact lv_if_ne hx hb hd ht (fun h => by rw [if_pos (z_cI.mpr h)] at kk; exact kk) (fun h => by rw [if_neg (show ¬ zcI .ne x 0 = true by simp [zcI, h])] at kk; exact kk)
  · exact lv_if_lt hx hb hd ht (fun h => by rw [if_pos (z_cI.mpr h)] at kk; exact kk) (fun h => by rw [if_neg (fun q => h (z_cI.mp q))] at kk; exact kk)
  · exact lv_if_ge hx hb hd ht (fun h => by rw [if_pos (z_cI.mpr h)] at kk; exact kk) (fun h => by rw [if_neg (fun q => h (z_cI.mp q))] at kk; exact kk)
  · exact lv_if_gt hx hb hd ht (fun h => by rw [if_pos (z_cI.mpr h)] at kk; exact kk) (fun h => by rw [if_neg (fun q => h (z_cI.mp q))] at kk; exact kk)
  · exact lv_if_le hx hb hd ht (fun h => by rw [if_pos (z_cI.mpr h)] at kk; exact kk) (fun h => by rw [if_neg (fun q => h (z_cI.mp q))] at kk; exact kk)
theorem z_bI (hx : p.tables.exec = Jvm.exec) (hb : c.code = cc) {f : Int32 → Int32 → Option Int32} (hi : zbI i = some f) {x y v : Int32} (hf : f x y = some v) {rest : List Value} (hd : decode cc pc = .ok (i, 1)) (kk : W p l e R s m args below meth c H locs cells slots Q (F0 m (pc + 1) L (.int v :: rest))) : W p l e R s m args below meth c H locs cells slots Q (F0 m pc L (.int y :: .int x :: rest)) := by
  cases i <;> simp only [zbI, Option.some.injEq, reduceCtorEq] at hi <;> subst hi
  case iadd => cases hf; exact lv_iadd hx hb hd kk
  case isub => cases hf; exact lv_isub hx hb hd kk
  case imul => cases hf; exact lv_imul hx hb hd kk
  case iand => cases hf; exact lv_iand hx hb hd kk
  case ior => cases hf; exact lv_ior hx hb hd kk
  case ixor => cases hf; exact lv_ixor hx hb hd kk
  case idiv =>
    by_cases hy : y = 0
    · simp [hy] at hf
    · simp only [hy, if_false, Option.some.injEq] at hf
      subst hf
      exact lv_idiv hx hb hd hy kk
  case irem =>
    by_cases hy : y = 0
    · simp [hy] at hf
    · simp only [hy, if_false, Option.some.injEq] at hf
      subst hf
      exact lv_irem hx hb hd hy kk
  case ishl => cases hf; exact lv_ishl hx hb hd kk
  case ishr => cases hf; exact lv_ishr hx hb hd kk
  case iushr => cases hf; exact lv_iushr hx hb hd rfl kk
theorem z_uI (hx : p.tables.exec = Jvm.exec) (hb : c.code = cc) {f : Int32 → Int32} (hi : zuI i = some f) {x : Int32} {rest : List Value} (hd : decode cc pc = .ok (i, 1)) (kk : W p l e R s m args below meth c H locs cells slots Q (F0 m (pc + 1) L (.int (f x) :: rest))) : W p l e R s m args below meth c H locs cells slots Q (F0 m pc L (.int x :: rest)) := by
  cases i <;> simp only [zuI, Option.some.injEq, reduceCtorEq] at hi <;> subst hi
  case ineg => exact lv_ineg hx hb hd kk
  case i2b => exact lv_i2b hx hb hd rfl kk
  case i2c => exact lv_i2c hx hb hd rfl kk
theorem z_bL (hx : p.tables.exec = Jvm.exec) (hb : c.code = cc) {f : Int64 → Int64 → Option Int64} (hi : zbL i = some f) {x y v : Int64} (hf : f x y = some v) {rest : List Value} (hd : decode cc pc = .ok (i, 1)) (kk : W p l e R s m args below meth c H locs cells slots Q (F0 m (pc + 1) L (.long v :: rest))) : W p l e R s m args below meth c H locs cells slots Q (F0 m pc L (.long y :: .long x :: rest)) := by
  cases i <;> simp only [zbL, Option.some.injEq, reduceCtorEq] at hi <;> subst hi
  case ladd => cases hf; exact lv_ladd hx hb hd kk
  case lsub => cases hf; exact lv_lsub hx hb hd kk
  case lmul => cases hf; exact lv_lmul hx hb hd kk
  case land => cases hf; exact lv_land hx hb hd kk
  case lor => cases hf; exact lv_lor hx hb hd kk
  case lxor => cases hf; exact lv_lxor hx hb hd kk
  case ldiv =>
    by_cases hy : y = 0
    · simp [hy] at hf
    · simp only [hy, if_false, Option.some.injEq] at hf
      subst hf
      exact lv_ldiv hx hb hd hy kk
  case lrem =>
    by_cases hy : y = 0
    · simp [hy] at hf
    · simp only [hy, if_false, Option.some.injEq] at hf
      subst hf
      exact lv_lrem hx hb hd hy kk
theorem z_sL (hx : p.tables.exec = Jvm.exec) (hb : c.code = cc) {f : Int64 → Int32 → Int64} (hi : zsL i = some f) {x : Int64} {y : Int32} {rest : List Value} (hd : decode cc pc = .ok (i, 1)) (kk : W p l e R s m args below meth c H locs cells slots Q (F0 m (pc + 1) L (.long (f x y) :: rest))) : W p l e R s m args below meth c H locs cells slots Q (F0 m pc L (.int y :: .long x :: rest)) := by
  cases i <;> simp only [zsL, Option.some.injEq, reduceCtorEq] at hi <;> subst hi
  case lshl => exact lv_lshl hx hb hd rfl kk
  case lshr => exact lv_lshr hx hb hd rfl kk
  case lushr => exact lv_lushr hx hb hd rfl kk
/-- the fallback of zs0: the operations of one byte that compute -/
theorem z_op (hx : p.tables.exec = Jvm.exec) (hb : c.code = cc) (hd : decode cc pc = .ok (i, 1)) (hl : lv_has L nL (zcl ad ls))
    (h : (match zbI i with
    | some f => (match st with
      | .int y :: .int x :: r => (match f x y with
        | some v => some (pc + 1, ls, .int v :: r)
        | none => none)
      | _ => none)
    | none => match zuI i with
      | some f => (match st with
        | .int x :: r => some (pc + 1, ls, .int (f x) :: r)
        | _ => none)
      | none => match zbL i with
        | some f => (match st with
          | .long y :: .long x :: r => (match f x y with
            | some v => some (pc + 1, ls, .long v :: r)
            | none => none)
          | _ => none)
        | none => match zsL i with
          | some f => (match st with
            | .int y :: .long x :: r => some (pc + 1, ls, .long (f x y) :: r)
            | _ => none)
          | none => none : Option (Nat × zL × List Value)) = some (pc', ls', st'))
    (kk : ∀ L', lv_has L' nL (zcl ad ls') → W p l e R s m args below meth c H locs cells slots Q (F0 m pc' L' (zcs ad st'))) : W p l e R s m args below meth c H locs cells slots Q (F0 m pc L (zcs ad st)) := by
  split at h
  · rename_i f hf
    split at h
    · rename_i y x r
      split at h
      · rename_i v hv
        cases h
        exact z_bI hx hb hf hv hd (kk L hl)
      · cases h
    · cases h
  · split at h
    · rename_i f hf
      split at h
      · cases h
        exact z_uI hx hb hf hd (kk L hl)
      · cases h
    · split at h
      · rename_i f hf
        split at h
        · rename_i y x r
          split at h
          · rename_i v hv
            cases h
            exact z_bL hx hb hf hv hd (kk L hl)
          · cases h
        · cases h
      · split at h
        · rename_i f hf
          split at h
          · cases h
            exact z_sL hx hb hf hd (kk L hl)
          · cases h
        · cases h
set_option maxHeartbeats 4000000 in
theorem z_s0 (hx : p.tables.exec = Jvm.exec) (hb : c.code = cc) (hd : decode cc pc = .ok (i, len)) (hk : zlok i len = true) (h : zs0 pc ls st nL i len = some (pc', ls', st')) (hl : lv_has L nL (zcl ad ls)) (kk : ∀ L', lv_has L' nL (zcl ad ls') → W p l e R s m args below meth c H locs cells slots Q (F0 m pc' L' (zcs ad st'))) : W p l e R s m args below meth c H locs cells slots Q (F0 m pc L (zcs ad st)) := by
  cases i
  case iconst n =>
    have hk : len = 1 := by simpa [zlok] using hk
    subst hk
    simp only [zs0, Option.some.injEq, Prod.mk.injEq] at h
    obtain ⟨rfl, rfl, rfl⟩ := h
    exact lv_iconst hx hb hd rfl (kk L hl)
  case bipush n =>
    have hk : len = 2 := by simpa [zlok] using hk
    subst hk
    simp only [zs0, Option.some.injEq, Prod.mk.injEq] at h
    obtain ⟨rfl, rfl, rfl⟩ := h
    exact lv_bipush hx hb hd rfl (kk L hl)
  case sipush n =>
    have hk : len = 3 := by simpa [zlok] using hk
    subst hk
    simp only [zs0, Option.some.injEq, Prod.mk.injEq] at h
    obtain ⟨rfl, rfl, rfl⟩ := h
    exact lv_sipush hx hb hd rfl (kk L hl)
  case lconst n =>
    have hk : len = 1 := by simpa [zlok] using hk
    subst hk
    simp only [zs0, Option.some.injEq, Prod.mk.injEq] at h
    obtain ⟨rfl, rfl, rfl⟩ := h
    exact lv_lconst hx hb hd rfl (kk L hl)
  case aconst_null =>
    have hk : len = 1 := by simpa [zlok] using hk
    subst hk
    simp only [zs0, Option.some.injEq, Prod.mk.injEq] at h
    obtain ⟨rfl, rfl, rfl⟩ := h
    exact lv_null hx hb hd (kk L hl)
  case iload_n k =>
    have hk : len = 1 := by simpa [zlok] using hk
    subst hk
    simp only [zs0] at h
    split at h
    · rename_i x hg
      cases h
      exact lv_iload_n hx hb hd rfl (z_at hl hg) (kk L hl)
    · cases h
  case iload k =>
    have hk : len = 2 := by simpa [zlok] using hk
    subst hk
    simp only [zs0] at h
    split at h
    · rename_i x hg
      cases h
      exact lv_iload hx hb hd (z_at hl hg) (kk L hl)
    · cases h
  case lload_n k =>
    have hk : len = 1 := by simpa [zlok] using hk
    subst hk
    simp only [zs0] at h
    split at h
    · rename_i x hg
      cases h
      exact lv_lload_n hx hb hd rfl (z_at hl hg) (kk L hl)
    · cases h
  case lload k =>
    have hk : len = 2 := by simpa [zlok] using hk
    subst hk
    simp only [zs0] at h
    split at h
    · rename_i x hg
      cases h
      exact lv_lload hx hb hd (z_at hl hg) (kk L hl)
    · cases h
  case aload_n k =>
    have hk : len = 1 := by simpa [zlok] using hk
    subst hk
    simp only [zs0] at h
    split at h
    · rename_i x hg
      cases h
      exact lv_aload_n hx hb hd rfl (z_at hl hg) (kk L hl)
    · rename_i hg
      cases h
      exact lv_aload_nN hx hb hd rfl (z_at hl hg) (kk L hl)
    · cases h
  case aload k =>
    have hk : len = 2 := by simpa [zlok] using hk
    subst hk
    simp only [zs0] at h
    split at h
    · rename_i x hg
      cases h
      exact lv_aload hx hb hd (z_at hl hg) (kk L hl)
    · rename_i hg
      cases h
      exact lv_aloadN hx hb hd (z_at hl hg) (kk L hl)
    · cases h
  case istore_n k =>
    have hk : len = 1 := by simpa [zlok] using hk
    subst hk
    simp only [zs0] at h
    split at h
    · rename_i x r
      split at h
      · rename_i hn
        cases h
        exact lv_istore_n hx hb hd rfl hl hn rfl (fun L' h' => kk L' (z_put1 ls (k : Nat) (.int x) h'))
      · cases h
    · cases h
  case istore k =>
    have hk : len = 2 := by simpa [zlok] using hk
    subst hk
    simp only [zs0] at h
    split at h
    · rename_i x r
      split at h
      · rename_i hn
        cases h
        exact lv_istore hx hb hd hl hn rfl (fun L' h' => kk L' (z_put1 ls k (.int x) h'))
      · cases h
    · cases h
  case lstore_n k =>
    have hk : len = 1 := by simpa [zlok] using hk
    subst hk
    simp only [zs0] at h
    split at h
    · rename_i x r
      split at h
      · rename_i hn
        cases h
        exact lv_lstore_n hx hb hd rfl hl hn rfl (fun L' h' => kk L' (z_put2 ls (k : Nat) (.long x) h'))
      · cases h
    · cases h
  case lstore k =>
    have hk : len = 2 := by simpa [zlok] using hk
    subst hk
    simp only [zs0] at h
    split at h
    · rename_i x r
      split at h
      · rename_i hn
        cases h
        exact lv_lstore hx hb hd hl hn rfl (fun L' h' => kk L' (z_put2 ls k (.long x) h'))
      · cases h
    · cases h
  case astore_n k =>
    have hk : len = 1 := by simpa [zlok] using hk
    subst hk
    simp only [zs0] at h
    split at h
    · rename_i x r
      split at h
      · rename_i hn
        cases h
        exact lv_astore_n hx hb hd rfl hl hn rfl (fun L' h' => kk L' (z_put1 ls (k : Nat) (.ref x) h'))
      · cases h
    · rename_i r
      split at h
      · rename_i hn
        cases h
        exact lv_astore_nN hx hb hd rfl hl hn rfl (fun L' h' => kk L' (z_put1 ls (k : Nat) .null h'))
      · cases h
    · cases h
  case astore k =>
    have hk : len = 2 := by simpa [zlok] using hk
    subst hk
    simp only [zs0] at h
    split at h
    · rename_i x r
      split at h
      · rename_i hn
        cases h
        exact lv_astore hx hb hd hl hn rfl (fun L' h' => kk L' (z_put1 ls k (.ref x) h'))
      · cases h
    · rename_i r
      split at h
      · rename_i hn
        cases h
        exact lv_astoreN hx hb hd hl hn rfl (fun L' h' => kk L' (z_put1 ls k .null h'))
      · cases h
    · cases h
  case iinc k n =>
    have hk : len = 3 := by simpa [zlok] using hk
    subst hk
    simp only [zs0] at h
    split at h
    · rename_i x hg
      split at h
      · rename_i hn
        cases h
        obtain ⟨j, hj⟩ := z_mem (ad := ad) hg
        exact lv_iinc hx hb hd hl hj rfl hn rfl (fun L' h' => kk L' (z_put1 ls k (.int (x + Int32.ofInt n)) h'))
      · cases h
    · cases h
  case dup =>
    have hk : len = 1 := by simpa [zlok] using hk
    subst hk
    simp only [zs0] at h
    split at h
    · split at h
      · rename_i hv
        cases h
        exact lv_dup hx hb hd ((zcv_cat _ _).trans hv) (kk L hl)
      · cases h
    · cases h
  case pop =>
    have hk : len = 1 := by simpa [zlok] using hk
    subst hk
    simp only [zs0] at h
    split at h
    · split at h
      · rename_i hv
        cases h
        exact lv_pop hx hb hd ((zcv_cat _ _).trans hv) (kk L hl)
      · cases h
    · cases h
  case pop2 =>
    have hk : len = 1 := by simpa [zlok] using hk
    subst hk
    simp only [zs0] at h
    split at h
    · split at h
      · rename_i hv
        cases h
        exact lv_pop2_2 hx hb hd ((zcv_cat _ _).trans hv) (kk L hl)
      · cases h
    · cases h
  case dup_x1 =>
    have hk : len = 1 := by simpa [zlok] using hk
    subst hk
    simp only [zs0] at h
    split at h
    · split at h
      · rename_i hv
        cases h
        exact lv_dup_x1 hx hb hd ((zcv_cat _ _).trans hv.1) ((zcv_cat _ _).trans hv.2) (kk L hl)
      · cases h
    · cases h
  case dup2 =>
    have hk : len = 1 := by simpa [zlok] using hk
    subst hk
    simp only [zs0] at h
    split at h
    · split at h
      · rename_i hv
        cases h
        exact lv_dup2_11 hx hb hd ((zcv_cat _ _).trans hv.1) ((zcv_cat _ _).trans hv.2) (kk L hl)
      · split at h
        · rename_i hv
          cases h
          exact lv_dup2_2 hx hb hd ((zcv_cat _ _).trans hv) (kk L hl)
        · cases h
    · cases h
  case i2l =>
    have hk : len = 1 := by simpa [zlok] using hk
    subst hk
    simp only [zs0] at h
    split at h
    · cases h
      exact lv_i2l hx hb hd rfl (kk L hl)
    · cases h
  case l2i =>
    have hk : len = 1 := by simpa [zlok] using hk
    subst hk
    simp only [zs0] at h
    split at h
    · cases h
      exact lv_l2i hx hb hd rfl (kk L hl)
    · cases h
  case lneg =>
    have hk : len = 1 := by simpa [zlok] using hk
    subst hk
    simp only [zs0] at h
    split at h
    · cases h
      exact lv_lneg hx hb hd (kk L hl)
    · cases h
  case lcmp =>
    have hk : len = 1 := by simpa [zlok] using hk
    subst hk
    simp only [zs0] at h
    split at h
    · cases h
      exact W.lcmp hx hb hd (kk L hl)
    · cases h
  case goto off =>
    have hk : len = 3 := by simpa [zlok] using hk
    subst hk
    simp only [zs0] at h
    split at h
    · rename_i t ht
      cases h
      exact lv_goto hx hb hd (z_jmp ht) (kk L hl)
    · cases h
  case ifCond k off =>
    have hk : len = 3 := by simpa [zlok] using hk
    subst hk
    simp only [zs0] at h
    split at h
    · split at h
      · rename_i t ht
        cases h
        exact z_if hx hb hd (z_jmp ht) (kk L hl)
      · cases h
    · cases h
  case if_icmp k off =>
    have hk : len = 3 := by simpa [zlok] using hk
    subst hk
    simp only [zs0] at h
    split at h
    · split at h
      · rename_i t ht
        cases h
        exact z_icmp hx hb hd (z_jmp ht) (kk L hl)
      · cases h
    · cases h
  case ifnull off =>
    have hk : len = 3 := by simpa [zlok] using hk
    subst hk
    simp only [zs0] at h
    split at h
    · cases h
      exact lv_ifnull hx hb hd (kk L hl)
    · split at h
      · rename_i t ht
        cases h
        exact lv_ifnullN hx hb hd (z_jmp ht) (kk L hl)
      · cases h
    · cases h
  case ifnonnull off =>
    have hk : len = 3 := by simpa [zlok] using hk
    subst hk
    simp only [zs0] at h
    split at h
    · cases h
      exact lv_ifnonnullN hx hb hd (kk L hl)
    · split at h
      · rename_i t ht
        cases h
        exact lv_ifnonnull hx hb hd (z_jmp ht) (kk L hl)
      · cases h
    · cases h
  case tableswitch dflt lo hi offs =>
    simp only [zs0] at h
    split at h
    · rename_i x r
      split at h
      · rename_i hc
        split at h
        · rename_i t ht
          cases h
          exact lv_tableOut hx hb hd hc (z_jmp ht) (kk L hl)
        · cases h
      · rename_i hc
        split at h
        · rename_i off ho
          split at h
          · rename_i t ht
            cases h
            exact lv_tableIn hx hb hd (fun q => hc (Or.inl q)) (fun q => hc (Or.inr q)) ho (z_jmp ht) (kk L hl)
          · cases h
        · cases h
    · cases h
  case lookupswitch dflt ps =>
    simp only [zs0] at h
    split at h
    · rename_i x r
      split at h
      · rename_i hc
        split at h
        · rename_i t ht
          cases h
          exact lv_lookup hx hb hd hc rfl (z_jmp ht) (kk L hl)
        · cases h
      · cases h
    · cases h
  case iadd =>
    have hk : len = 1 := by simpa [zlok] using hk
    subst hk
    exact z_op hx hb hd hl h kk
  case isub =>
    have hk : len = 1 := by simpa [zlok] using hk
    subst hk
    exact z_op hx hb hd hl h kk
  case imul =>
    have hk : len = 1 := by simpa [zlok] using hk
    subst hk
    exact z_op hx hb hd hl h kk
  case iand =>
    have hk : len = 1 := by simpa [zlok] using hk
    subst hk
    exact z_op hx hb hd hl h kk
  case ior =>
    have hk : len = 1 := by simpa [zlok] using hk
    subst hk
    exact z_op hx hb hd hl h kk
  case ixor =>
    have hk : len = 1 := by simpa [zlok] using hk
    subst hk
    exact z_op hx hb hd hl h kk
  case idiv =>
    have hk : len = 1 := by simpa [zlok] using hk
    subst hk
    exact z_op hx hb hd hl h kk
  case irem =>
    have hk : len = 1 := by simpa [zlok] using hk
    subst hk
    exact z_op hx hb hd hl h kk
  case ishl =>
    have hk : len = 1 := by simpa [zlok] using hk
    subst hk
    exact z_op hx hb hd hl h kk
  case ishr =>
    have hk : len = 1 := by simpa [zlok] using hk
    subst hk
    exact z_op hx hb hd hl h kk
  case iushr =>
    have hk : len = 1 := by simpa [zlok] using hk
    subst hk
    exact z_op hx hb hd hl h kk
  case ineg =>
    have hk : len = 1 := by simpa [zlok] using hk
    subst hk
    exact z_op hx hb hd hl h kk
  case i2b =>
    have hk : len = 1 := by simpa [zlok] using hk
    subst hk
    exact z_op hx hb hd hl h kk
  case i2c =>
    have hk : len = 1 := by simpa [zlok] using hk
    subst hk
    exact z_op hx hb hd hl h kk
  case ladd =>
    have hk : len = 1 := by simpa [zlok] using hk
    subst hk
    exact z_op hx hb hd hl h kk
  case lsub =>
    have hk : len = 1 := by simpa [zlok] using hk
    subst hk
    exact z_op hx hb hd hl h kk
  case lmul =>
    have hk : len = 1 := by simpa [zlok] using hk
    subst hk
    exact z_op hx hb hd hl h kk
  case land =>
    have hk : len = 1 := by simpa [zlok] using hk
    subst hk
    exact z_op hx hb hd hl h kk
  case lor =>
    have hk : len = 1 := by simpa [zlok] using hk
    subst hk
    exact z_op hx hb hd hl h kk
  case lxor =>
    have hk : len = 1 := by simpa [zlok] using hk
    subst hk
    exact z_op hx hb hd hl h kk
  case ldiv =>
    have hk : len = 1 := by simpa [zlok] using hk
    subst hk
    exact z_op hx hb hd hl h kk
  case lrem =>
    have hk : len = 1 := by simpa [zlok] using hk
    subst hk
    exact z_op hx hb hd hl h kk
  case lshl =>
    have hk : len = 1 := by simpa [zlok] using hk
    subst hk
    exact z_op hx hb hd hl h kk
  case lshr =>
    have hk : len = 1 := by simpa [zlok] using hk
    subst hk
    exact z_op hx hb hd hl h kk
  case lushr =>
    have hk : len = 1 := by simpa [zlok] using hk
    subst hk
    exact z_op hx hb hd hl h kk
  all_goals (exfalso; revert h; simp [zs0, zbI, zuI, zbL, zsL])
end ZS0
end
section
/-! THE EVALUATOR, 1: what reaches into memory -/
/-- the script's length, the script, and whether the formatter of String's index errors is there -/
abbrev zX : Type := Nat × (Nat → Int32) × Nat
def zty (t : Nat) : FieldType := match t with
  | 0 => .int
  | 1 => .byte
  | 2 => .boolean
  | 3 => .object "ForthHouse$Forth"
  | _ => .object "ForthHouse$Task"
def zob (M : zM) (a : Nat) : Option zE := if a < M.1 then some (M.2.2 a) else none
def zrf (r : Option Nat) : Value := match r with
  | none => .null
  | some a => .ref a
def zfit (ty : FieldType) (v : Value) : Bool := decide (narrow ty v = v) && fits ty v
def zdef (ci n : Nat) : List Value := (List.range n).map fun k => defaultValue (zfty ci k)
def zTAKES : List Int32 := [1, 1, 2, 2, 3, 3, 2, 2, 1, 2, 2, 4, 4, 1, 1, 0, 1, 0, 0, 2, 0, 2, 2, 2, 2, 2, 2, 3, 3, 1, 1, 1, 1, 1, 1, 2, 2, 2, 3, 2, 3, 3, 1, 4, 2, 2, 2, 2, 2, 2, 1, 1, 1, 1, 2, 2, 2, 1, 2, 2, 3, 0, 0, 2, 1, 2, 1, 2, 3, 1, 0, 1, 1, 1, 0, 1, 1, 1, 1, 1, 3, 3, 1, 1, 1, 1, 0, 0, 1, 2, 0, 2, 2, 2, 1, 1, 0, 0, 0, 0, 0, 0, 0, 0, 0, 0, 0, 0, 0, 0, 0, 0, 0, 0, 0, 0, 0, 0, 0, 0, 0, 0, 1, 1, 2, 0, 0, 0, 0, 0, 0, 0, 0, 0, 0, 0, 0, 0, 0, 0, 0, 0, 0, 0, 0, 0, 0, 0, 0, 0, 0, 0, 0, 0, 0, 1, 1, 0, 0, 1, 0, 0, 0, 1, 0, 0, 2, 0, 1, 0, 0, 0]
def zLEAVES : List Int32 := [2, 0, 2, 3, 3, 3, 1, 3, 1, 4, 0, 4, 6, 1, 0, 1, 0, 1, 1, 0, 2, 1, 1, 1, 1, 1, 2, 1, 2, 1, 1, 1, 1, 1, 1, 1, 1, 2, 2, 2, 2, 2, 2, 2, 2, 1, 1, 1, 1, 1, 1, 1, 1, 1, 1, 1, 1, 1, 1, 1, 1, 1, 1, 0, 1, 0, 1, 0, 0, 2, 1, 0, 0, 0, 0, 1, 1, 1, 1, 1, 0, 0, 2, 0, 0, 0, 0, 0, 0, 0, 0, 2, 2, 2, 0, 0, 1, 0, 0, 1, 0, 0, 0, 0, 0, 0, 0, 0, 0, 0, 0, 0, 0, 0, 0, 0, 0, 0, 0, 0, 0, 0, 0, 1, 0, 0, 0, 0, 0, 0, 0, 0, 0, 0, 0, 0, 0, 0, 0, 0, 0, 0, 0, 0, 0, 0, 0, 1, 1, 0, 0, 0, 0, 0, 0, 0, 0, 0, 1, 0, 0, 0, 0, 1, 0, 0, 1, 1, 0, 0, 0, 0]
def zTRAITS : List Int32 := [8, 8, 8, 8, 8, 8, 8, 8, 0, 8, 8, 8, 8, 0, 0, 8, 10, 10, 10, 10, 10, 8, 8, 8, 8, 8, 8, 8, 8, 8, 8, 8, 8, 8, 8, 8, 8, 8, 8, 8, 8, 8, 8, 8, 8, 8, 8, 8, 8, 8, 8, 8, 8, 8, 8, 8, 8, 8, 8, 8, 8, 8, 8, 8, 8, 8, 8, 8, 8, 8, 8, 8, 8, 8, 8, 8, 8, 8, 8, 8, 8, 8, 8, 8, 8, 8, 8, 8, 8, 8, 8, 8, 8, 8, 8, 8, 8, 8, 8, 8, 0, 7, 0, 0, 0, 0, 0, 0, 0, 0, 0, 7, 0, 7, 1, 0, 7, 7, 7, 1, 1, 7, 0, 8, 0, 1, 1, 7, 1, 1, 7, 7, 7, 7, 7, 7, 7, 7, 7, 7, 7, 7, 7, 7, 7, 7, 7, 10, 10, 10, 10, 7, 7, 7, 7, 0, 8, 8, 8, 8, 8, 8, 8, 8, 8, 8, 8, 8, 0, 0, 0, 0]
def zstr : List (List Int32) := [[68, 85, 80, 32, 68, 82, 79, 80, 32, 83, 87, 65, 80, 32, 79, 86, 69, 82, 32, 82, 79, 84, 32, 45, 82, 79, 84, 32, 78, 73, 80, 32, 84, 85, 67, 75, 32, 63, 68, 85, 80, 32, 50, 68, 85, 80, 32, 50, 68, 82, 79, 80, 32, 50, 83, 87, 65, 80, 32, 50, 79, 86, 69, 82, 32, 80, 73, 67, 75, 32, 82, 79, 76, 76, 32, 68, 69, 80, 84, 72, 32], [62, 82, 32, 82, 62, 32, 82, 64, 32, 50, 62, 82, 32, 50, 82, 62, 32], [43, 32, 45, 32, 42, 32, 47, 32, 77, 79, 68, 32, 47, 77, 79, 68, 32, 42, 47, 32, 42, 47, 77, 79, 68, 32, 49, 43, 32, 49, 45, 32, 50, 42, 32, 50, 47, 32, 78, 69, 71, 65, 84, 69, 32, 65, 66, 83, 32, 77, 73, 78, 32, 77, 65, 88, 32, 85, 77, 42, 32, 85, 77, 47, 77, 79, 68, 32, 77, 42, 32, 83, 77, 47, 82, 69, 77, 32, 70, 77, 47, 77, 79, 68, 32, 83, 62, 68, 32, 68, 43, 32, 68, 78, 69, 71, 65, 84, 69, 32], [61, 32, 60, 62, 32, 60, 32, 62, 32, 85, 60, 32, 48, 61, 32, 48, 60, 62, 32, 48, 60, 32, 48, 62, 32, 65, 78, 68, 32, 79, 82, 32, 88, 79, 82, 32, 73, 78, 86, 69, 82, 84, 32, 76, 83, 72, 73, 70, 84, 32, 82, 83, 72, 73, 70, 84, 32, 87, 73, 84, 72, 73, 78, 32, 84, 82, 85, 69, 32, 70, 65, 76, 83, 69, 32], [33, 32, 64, 32, 67, 33, 32, 67, 64, 32, 43, 33, 32, 50, 33, 32, 50, 64, 32, 72, 69, 82, 69, 32, 65, 76, 76, 79, 84, 32, 44, 32, 67, 44, 32, 65, 76, 73, 71, 78, 32, 65, 76, 73, 71, 78, 69, 68, 32, 67, 69, 76, 76, 43, 32, 67, 69, 76, 76, 83, 32, 67, 72, 65, 82, 43, 32, 67, 72, 65, 82, 83, 32, 70, 73, 76, 76, 32, 77, 79, 86, 69, 32, 67, 79, 85, 78, 84, 32], [46, 32, 85, 46, 32, 69, 77, 73, 84, 32, 67, 82, 32, 83, 80, 65, 67, 69, 32, 83, 80, 65, 67, 69, 83, 32, 84, 89, 80, 69, 32, 60, 35, 32, 35, 32, 35, 83, 32, 35, 62, 32, 72, 79, 76, 68, 32, 83, 73, 71, 78, 32, 66, 65, 83, 69, 32, 68, 69, 67, 73, 77, 65, 76, 32, 72, 69, 88, 32, 62, 73, 78, 32], [58, 32, 59, 32, 58, 78, 79, 78, 65, 77, 69, 32, 67, 79, 78, 83, 84, 65, 78, 84, 32, 86, 65, 82, 73, 65, 66, 76, 69, 32, 86, 65, 76, 85, 69, 32, 67, 82, 69, 65, 84, 69, 32, 68, 69, 70, 69, 82, 32, 77, 65, 82, 75, 69, 82, 32, 73, 77, 77, 69, 68, 73, 65, 84, 69, 32, 39, 32, 91, 39, 93, 32, 67, 72, 65, 82, 32, 91, 67, 72, 65, 82, 93, 32, 91, 32, 93, 32, 76, 73, 84, 69, 82, 65, 76, 32, 80, 79, 83, 84, 80, 79, 78, 69, 32, 82, 69, 67, 85, 82, 83, 69, 32, 84, 79, 32, 73, 83, 32, 68, 79, 69, 83, 62, 32, 69, 88, 69, 67, 85, 84, 69, 32, 62, 66, 79, 68, 89, 32, 69, 86, 65, 76, 85, 65, 84, 69, 32, 83, 34, 32, 46, 34, 32, 65, 66, 79, 82, 84, 34, 32, 40, 32, 92, 32, 123, 58, 32, 91, 58, 32, 59, 93, 32], [73, 70, 32, 69, 76, 83, 69, 32, 84, 72, 69, 78, 32, 66, 69, 71, 73, 78, 32, 85, 78, 84, 73, 76, 32, 87, 72, 73, 76, 69, 32, 82, 69, 80, 69, 65, 84, 32, 65, 71, 65, 73, 78, 32, 65, 72, 69, 65, 68, 32, 68, 79, 32, 63, 68, 79, 32, 76, 79, 79, 80, 32, 43, 76, 79, 79, 80, 32, 76, 69, 65, 86, 69, 32, 73, 32, 74, 32, 85, 78, 76, 79, 79, 80, 32, 69, 88, 73, 84, 32, 67, 65, 83, 69, 32, 79, 70, 32, 69, 78, 68, 79, 70, 32, 69, 78, 68, 67, 65, 83, 69, 32], [67, 65, 84, 67, 72, 32, 84, 72, 82, 79, 87, 32, 65, 66, 79, 82, 84, 32, 87, 79, 82, 68, 76, 73, 83, 84, 32, 62, 79, 82, 68, 69, 82, 32, 80, 82, 69, 86, 73, 79, 85, 83, 32, 68, 69, 70, 73, 78, 73, 84, 73, 79, 78, 83, 32, 79, 78, 76, 89, 32, 84, 65, 83, 75, 32, 80, 65, 85, 83, 69, 32, 83, 84, 79, 80, 32, 83, 69, 78, 68, 32, 82, 69, 67, 69, 73, 86, 69, 32, 76, 79, 65, 68, 32, 84, 123, 32, 45, 62, 32, 125, 84, 32], [68, 85, 80, 32, 68, 82, 79, 80, 32, 83, 87, 65, 80, 32, 79, 86, 69, 82, 32, 82, 79, 84, 32, 45, 82, 79, 84, 32, 78, 73, 80, 32, 84, 85, 67, 75, 32, 63, 68, 85, 80, 32, 50, 68, 85, 80, 32, 50, 68, 82, 79, 80, 32, 50, 83, 87, 65, 80, 32, 50, 79, 86, 69, 82, 32, 80, 73, 67, 75, 32, 82, 79, 76, 76, 32, 68, 69, 80, 84, 72, 32, 62, 82, 32, 82, 62, 32, 82, 64, 32, 50, 62, 82, 32, 50, 82, 62, 32, 43, 32, 45, 32, 42, 32, 47, 32, 77, 79, 68, 32, 47, 77, 79, 68, 32, 42, 47, 32, 42, 47, 77, 79, 68, 32, 49, 43, 32, 49, 45, 32, 50, 42, 32, 50, 47, 32, 78, 69, 71, 65, 84, 69, 32, 65, 66, 83, 32, 77, 73, 78, 32, 77, 65, 88, 32, 85, 77, 42, 32, 85, 77, 47, 77, 79, 68, 32, 77, 42, 32, 83, 77, 47, 82, 69, 77, 32, 70, 77, 47, 77, 79, 68, 32, 83, 62, 68, 32, 68, 43, 32, 68, 78, 69, 71, 65, 84, 69, 32, 61, 32, 60, 62, 32, 60, 32, 62, 32, 85, 60, 32, 48, 61, 32, 48, 60, 62, 32, 48, 60, 32, 48, 62, 32, 65, 78, 68, 32, 79, 82, 32, 88, 79, 82, 32, 73, 78, 86, 69, 82, 84, 32, 76, 83, 72, 73, 70, 84, 32, 82, 83, 72, 73, 70, 84, 32, 87, 73, 84, 72, 73, 78, 32, 84, 82, 85, 69, 32, 70, 65, 76, 83, 69, 32, 33, 32, 64, 32, 67, 33, 32, 67, 64, 32, 43, 33, 32, 50, 33, 32, 50, 64, 32, 72, 69, 82, 69, 32, 65, 76, 76, 79, 84, 32, 44, 32, 67, 44, 32, 65, 76, 73, 71, 78, 32, 65, 76, 73, 71, 78, 69, 68, 32, 67, 69, 76, 76, 43, 32, 67, 69, 76, 76, 83, 32, 67, 72, 65, 82, 43, 32, 67, 72, 65, 82, 83, 32, 70, 73, 76, 76, 32, 77, 79, 86, 69, 32, 67, 79, 85, 78, 84, 32, 46, 32, 85, 46, 32, 69, 77, 73, 84, 32, 67, 82, 32, 83, 80, 65, 67, 69, 32, 83, 80, 65, 67, 69, 83, 32, 84, 89, 80, 69, 32, 60, 35, 32, 35, 32, 35, 83, 32, 35, 62, 32, 72, 79, 76, 68, 32, 83, 73, 71, 78, 32, 66, 65, 83, 69, 32, 68, 69, 67, 73, 77, 65, 76, 32, 72, 69, 88, 32, 62, 73, 78, 32, 58, 32, 59, 32, 58, 78, 79, 78, 65, 77, 69, 32, 67, 79, 78, 83, 84, 65, 78, 84, 32, 86, 65, 82, 73, 65, 66, 76, 69, 32, 86, 65, 76, 85, 69, 32, 67, 82, 69, 65, 84, 69, 32, 68, 69, 70, 69, 82, 32, 77, 65, 82, 75, 69, 82, 32, 73, 77, 77, 69, 68, 73, 65, 84, 69, 32, 39, 32, 91, 39, 93, 32, 67, 72, 65, 82, 32, 91, 67, 72, 65, 82, 93, 32, 91, 32, 93, 32, 76, 73, 84, 69, 82, 65, 76, 32, 80, 79, 83, 84, 80, 79, 78, 69, 32, 82, 69, 67, 85, 82, 83, 69, 32, 84, 79, 32, 73, 83, 32, 68, 79, 69, 83, 62, 32, 69, 88, 69, 67, 85, 84, 69, 32, 62, 66, 79, 68, 89, 32, 69, 86, 65, 76, 85, 65, 84, 69, 32, 83, 34, 32, 46, 34, 32, 65, 66, 79, 82, 84, 34, 32, 40, 32, 92, 32, 123, 58, 32, 91, 58, 32, 59, 93, 32, 73, 70, 32, 69, 76, 83, 69, 32, 84, 72, 69, 78, 32, 66, 69, 71, 73, 78, 32, 85, 78, 84, 73, 76, 32, 87, 72, 73, 76, 69, 32, 82, 69, 80, 69, 65, 84, 32, 65, 71, 65, 73, 78, 32, 65, 72, 69, 65, 68, 32, 68, 79, 32, 63, 68, 79, 32, 76, 79, 79, 80, 32, 43, 76, 79, 79, 80, 32, 76, 69, 65, 86, 69, 32, 73, 32, 74, 32, 85, 78, 76, 79, 79, 80, 32, 69, 88, 73, 84, 32, 67, 65, 83, 69, 32, 79, 70, 32, 69, 78, 68, 79, 70, 32, 69, 78, 68, 67, 65, 83, 69, 32, 67, 65, 84, 67, 72, 32, 84, 72, 82, 79, 87, 32, 65, 66, 79, 82, 84, 32, 87, 79, 82, 68, 76, 73, 83, 84, 32, 62, 79, 82, 68, 69, 82, 32, 80, 82, 69, 86, 73, 79, 85, 83, 32, 68, 69, 70, 73, 78, 73, 84, 73, 79, 78, 83, 32, 79, 78, 76, 89, 32, 84, 65, 83, 75, 32, 80, 65, 85, 83, 69, 32, 83, 84, 79, 80, 32, 83, 69, 78, 68, 32, 82, 69, 67, 69, 73, 86, 69, 32, 76, 79, 65, 68, 32, 84, 123, 32, 45, 62, 32, 125, 84, 32], [58, 125], [45, 45], [124]]
/-- static rows of bytes: 13 TAKES, 14 LEAVES, 15 TRAITS -/
def zstat (a : Nat) : Option (List Int32) := if a = 1000013 then some zTAKES else if a = 1000014 then some zLEAVES else if a = 1000015 then some zTRAITS else none
def zatype (t : ArrayType) : Option Nat := match t with
  | .int => some 0
  | .byte => some 1
  | .boolean => some 2
  | _ => none
/-- X: the script -/
def zs1 (X : zX) (own : Nat) (ini : Bool) (pc : Nat) (ls : zL) (st : List Value) (M : zM) (i : Instr) : zR := match i with
  | .getfield x => match zlk own x with
    | some (0, ci, k, _) => (match st with
      | .ref a :: r => (match zob M a with
        | some (.inr (cj, fs)) => if cj = ci then (match fs[k]? with
          | some v => some (pc + 3, ls, v :: r, M)
          | none => none) else none
        | _ => none)
      | _ => none)
    | _ => none
  | .putfield x => match zlk own x with
    | some (0, ci, k, _) => (match st with
      | v :: .ref a :: r => (match zob M a with
        | some (.inr (cj, fs)) => (match zcls[ci]? with
          | some q => if cj = ci ∧ k < fs.length ∧ k < q.2.2 ∧ zfit (zfty ci k) v = true ∧ ((q.2.1 k).2.2.2 = false ∨ (ini = true ∧ (q.2.1 k).1 = zown own)) then some (pc + 3, ls, r, zset M a (.inr (cj, fs.set k v))) else none
          | none => none)
        | _ => none)
      | _ => none)
    | _ => none
  | .iaload => match st with
    | .int j :: .ref a :: r => if a = 1000016 then (if j < 0 ∨ X.1 ≤ j.toNatClampNeg ∨ ¬ X.1 < 2147483648 then none else some (pc + 1, ls, .int (X.2.1 j.toNatClampNeg) :: r, M)) else match zob M a with
      | some (.inl (0, n, .inl f)) => if j < 0 ∨ n ≤ j.toNatClampNeg then none else some (pc + 1, ls, .int (f j.toNatClampNeg) :: r, M)
      | _ => none
    | _ => none
  | .baload => match st with
    | .int j :: .ref a :: r => match zstat a with
      | some l => if j < 0 ∨ l.length ≤ j.toNatClampNeg then none else some (pc + 1, ls, .int (l.getD j.toNatClampNeg 0) :: r, M)
      | none => match zob M a with
        | some (.inl (1, n, .inl f)) => if j < 0 ∨ n ≤ j.toNatClampNeg then none else some (pc + 1, ls, .int (f j.toNatClampNeg) :: r, M)
        | some (.inl (2, n, .inl f)) => if j < 0 ∨ n ≤ j.toNatClampNeg then none else some (pc + 1, ls, .int (f j.toNatClampNeg) :: r, M)
        | _ => none
    | _ => none
  | .aaload => match st with
    | .int j :: .ref a :: r => match zob M a with
      | some (.inl (t, n, .inr (.inr (.inr (.inr f))))) => if t < 3 ∨ j < 0 ∨ n ≤ j.toNatClampNeg then none else some (pc + 1, ls, zrf (f j.toNatClampNeg) :: r, M)
      | _ => none
    | _ => none
  | .iastore => match st with
    | .int x :: .int j :: .ref a :: r => match zob M a with
      | some (.inl (0, n, .inl f)) => if j < 0 ∨ n ≤ j.toNatClampNeg then none else some (pc + 1, ls, r, zset M a (.inl (0, n, .inl (upd f j.toNatClampNeg x))))
      | _ => none
    | _ => none
  | .bastore => match st with
    | .int x :: .int j :: .ref a :: r => match zob M a with
      | some (.inl (1, n, .inl f)) => if j < 0 ∨ n ≤ j.toNatClampNeg then none else some (pc + 1, ls, r, zset M a (.inl (1, n, .inl (upd f j.toNatClampNeg (vp_nar .byte x)))))
      | some (.inl (2, n, .inl f)) => if j < 0 ∨ n ≤ j.toNatClampNeg then none else some (pc + 1, ls, r, zset M a (.inl (2, n, .inl (upd f j.toNatClampNeg (vp_nar .boolean x)))))
      | _ => none
    | _ => none
  | .aastore => match st with
    | .ref v :: .int j :: .ref a :: r => match zob M a with
      | some (.inl (t, n, .inr (.inr (.inr (.inr f))))) => (match zob M v with
        | some (.inr (ci, _)) => (match zcls[ci]? with
          | some q => if t < 3 ∨ j < 0 ∨ n ≤ j.toNatClampNeg ∨ ¬ zty t = .object q.1 then none else some (pc + 1, ls, r, zset M a (.inl (t, n, .inr (.inr (.inr (.inr (va_up f j.toNatClampNeg (some v))))))))
          | none => none)
        | _ => none)
      | _ => none
    | _ => none
  | .arraylength => match st with
    | .ref a :: r => if a = 1000016 then (if X.1 < 2147483648 then some (pc + 1, ls, .int (Int32.ofNat X.1) :: r, M) else none) else match zob M a with
      | some (.inl (_, x)) => some (pc + 1, ls, .int (Int32.ofNat x.1) :: r, M)
      | _ => none
    | _ => none
  | .newarray t => match st with
    | .int n :: r => match zatype t with
      | some k => if n < 0 ∨ ¬ M.1 < 1000000 ∨ ¬ n.toNatClampNeg * componentBytes (zty k) ≤ 536870912 then none else some (pc + 2, ls, .ref M.1 :: r, zpush M (.inl (k, n.toNatClampNeg, .inl (fun _ => 0))))
      | none => none
    | _ => none
  | .anewarray x => match zlk own x with
    | some (3, ci, _, _) => (match st with
      | .int n :: r => if n < 0 ∨ ¬ M.1 < 1000000 ∨ ¬ n.toNatClampNeg * 4 ≤ 536870912 then none else if ci = 1 then some (pc + 3, ls, .ref M.1 :: r, zpush M (.inl (3, n.toNatClampNeg, .inr (.inr (.inr (.inr (fun _ => none))))))) else if ci = 8 then some (pc + 3, ls, .ref M.1 :: r, zpush M (.inl (4, n.toNatClampNeg, .inr (.inr (.inr (.inr (fun _ => none))))))) else none
      | _ => none)
    | _ => none
  | .new x => match zlk own x with
    | some (3, ci, _, _) => (match zcls[ci]? with
      | some q => if M.1 < 1000000 then some (pc + 3, ls, .ref M.1 :: st, zpush M (.inr (ci, zdef ci q.2.2))) else none
      | none => none)
    | _ => none
  | .ldc x => match zlk own x with
    | some (5, a, _, _) => some (pc + 2, ls, .int (Int32.ofNat a) :: st, M)
    | some (7, a, _, _) => some (pc + 2, ls, .ref (1000000 + a) :: st, M)
    | _ => none
  | .ldc_w x => match zlk own x with
    | some (5, a, _, _) => some (pc + 3, ls, .int (Int32.ofNat a) :: st, M)
    | _ => none
  | .ldc2_w x => match zlk own x with
    | some (6, a, _, _) => some (pc + 3, ls, .long (Int64.ofNat a) :: st, M)
    | _ => none
  | .getstatic x => match zlk own x with
    | some (8, a, _, _) => if a = 13 ∨ a = 14 ∨ a = 15 then some (pc + 3, ls, .ref (1000000 + a) :: st, M) else none
    | _ => none
  | .invokespecial x => match zlk own x with
    | some (9, _, _, _) => (match st with
      | .ref _ :: r => if (r.map fun v => v.category).sum ≤ 8 then some (pc + 3, ls, r, M) else none
      | _ => none)
    | _ => none
  | .invokestatic x => match zlk own x with
    | some (10, _, _, _) => (match st with
      | .int n :: .int dp :: .ref a :: .int sp :: .ref a0 :: r => (match zob M a0 with
        | some (.inl (t0, n0, .inl f)) => (match zob M a with
          | some (.inl (t1, n1, .inl g)) => if sp < 0 ∨ dp < 0 ∨ n < 0 ∨ ¬ sp.toNatClampNeg + n.toNatClampNeg ≤ n0 ∨ ¬ dp.toNatClampNeg + n.toNatClampNeg ≤ n1 ∨ ¬ t0 = t1 ∨ ¬ t0 < 2 ∨ ¬ (r.map fun v => v.category).sum ≤ 8 then none else some (pc + 3, ls, r, zset M a (.inl (t1, n1, .inl (va_cpy f g sp.toNatClampNeg dp.toNatClampNeg n.toNatClampNeg))))
          | _ => none)
        | _ => none)
      | _ => none)
    | _ => none
  | _ => none
def zsb (q : Nat) : List Int32 := zstr.getD q []
/-- String constants (1000000 and on, their rows of bytes from 1000020 on), and what String's own methods read -/
def zs3 (X : zX) (own : Nat) (pc : Nat) (ls : zL) (st : List Value) (M : zM) (i : Instr) : zR := match i with
  | .getfield x => match zlk own x with
    | some (11, a, _, _) => (match st with
      | .ref q :: r => if 1000000 ≤ q ∧ q < 1000013 then (if a = 0 then some (pc + 3, ls, .ref (q + 20) :: r, M) else if a = 1 then some (pc + 3, ls, .int 0 :: r, M) else none) else none
      | _ => none)
    | _ => none
  | .arraylength => match st with
    | .ref q :: r => if 1000020 ≤ q ∧ q < 1000033 then some (pc + 1, ls, .int (Int32.ofNat (zsb (q - 1000020)).length) :: r, M) else none
    | _ => none
  | .baload => match st with
    | .int j :: .ref q :: r => if 1000020 ≤ q ∧ q < 1000033 then (if j < 0 ∨ (zsb (q - 1000020)).length ≤ j.toNatClampNeg then none else some (pc + 1, ls, .int ((zsb (q - 1000020)).getD j.toNatClampNeg 0) :: r, M)) else none
    | _ => none
  | .getstatic x => match zlk own x with
    | some (12, _, _, _) => some (pc + 3, ls, .int 1 :: st, M)
    | some (13, _, _, _) => some (pc + 3, ls, (if X.2.2 = 0 then .null else .ref 1000040) :: st, M)
    | _ => none
  | _ => none
end
section
/-! THE ROWS OF THE EVALUATOR, 1: memory and the world -/
theorem z_lk {o k : Nat} {r : Nat × Nat × Nat × Nat} {w : Cond} (ho : o < 21) (h : zlk o k = some r) (h7 : r.1 ≠ 7) (hw : zlkw (zown o) k r = some w) (hn : znest w = false) : w ∈ zW := by
  obtain ⟨w', h1, h2⟩ := zlk_ok o ho k r h h7
  rw [hw] at h1
  cases h1
  rcases h2 with h2 | ⟨-, h2⟩
  · exact h2
  · rw [hn] at h2; cases h2
theorem z_lkN {o k : Nat} {r : Nat × Nat × Nat × Nat} {w : Cond} (ho : o < 21) (h : zlk o k = some r) (h7 : r.1 ≠ 7) (hw : zlkw (zown o) k r = some w) (hn : goodWord w = false) : w ∈ zN := by
  obtain ⟨w', h1, h2⟩ := zlk_ok o ho k r h h7
  rw [hw] at h1
  cases h1
  rcases h2 with h2 | ⟨h2, -⟩
  · have := (List.mem_filter.mp h2).2
    rw [hn] at this; cases this
  · exact h2
theorem z_lk0 {o x ci k p : Nat} (ho : o < 21) (h : zlk o x = some (0, ci, k, p)) : ∃ (C : String) (T : u_T) (N : Nat), zcls[ci]? = some (C, T, N) ∧ k < N ∧ Cond.fieldLink (zown o) x (T k).1 (T k).2.1 (T k).2.2.1 ∈ zW := by
  obtain ⟨w, h1, -⟩ := zlk_ok o ho x _ h (show (0 : Nat) ≠ 7 by decide)
  cases hq : zcls[ci]? with
  | none => simp [zlkw, hq] at h1
  | some q =>
    by_cases hk : k < q.2.2
    · refine ⟨q.1, q.2.1, q.2.2, rfl, hk, z_lk ho h (show (0 : Nat) ≠ 7 by decide) ?_ rfl⟩
      simp [zlkw, hq, hk]
    · simp [zlkw, hq, hk] at h1
def zad (base : Nat) (ex : Nat → Nat) (k : Nat) : Nat := if k < 1000000 then base + k else ex (k - 1000000)
def zA (base : Nat) : Nat → Prop := fun q => base ≤ q
def zcA (ad : Nat → Nat) (a : vp_A) : vp_A := match a with
  | (n, .inl f) => (n, .inl f)
  | (n, .inr (.inl f)) => (n, .inr (.inl f))
  | (n, .inr (.inr (.inl f))) => (n, .inr (.inr (.inl f)))
  | (n, .inr (.inr (.inr (.inl f)))) => (n, .inr (.inr (.inr (.inl f))))
  | (n, .inr (.inr (.inr (.inr f)))) => (n, .inr (.inr (.inr (.inr (fun j => (f j).map ad)))))
theorem zcA_1 (ad : Nat → Nat) (a : vp_A) : (zcA ad a).1 = a.1 := by
  obtain ⟨n, f | f | f | f | f⟩ := a <;> rfl
def zrl (ad : Nat → Nat) (tys : List (ClassId × FieldType)) (e : zE) (w : va_E) : Prop := match e with
  | .inl (t, a) => ∃ (cA : ClassId) (t0 : Nat), tys[t0]? = some (cA, zty t) ∧ w = .inl (cA, zcA ad a)
  | .inr (ci, fs) => w = .inr (ci, zcs ad fs)
theorem zrl.more {ad : Nat → Nat} {tys t2 : List (ClassId × FieldType)} {e : zE} {w : va_E} (h : zrl ad tys e w) : zrl ad (tys ++ t2) e w := by
  match e, h with
  | .inl (t, a), ⟨cA, t0, h1, h2⟩ => exact ⟨cA, t0, by rw [List.getElem?_append_left (List.getElem?_eq_some_iff.mp h1).1]; exact h1, h2⟩
  | .inr (ci, fs), h => exact h
def zWs (ad : Nat → Nat) (M : zM) (ws : va_W) (tys : List (ClassId × FieldType)) : Prop := ws.length = M.1 ∧ ∀ k, k < M.1 → ∃ w, ws[k]? = some (ad k, w) ∧ zrl ad tys (M.2.2 k) w
def zFit (M : zM) : Prop := ∀ (k n : Nat) (f : Nat → Int32), M.2.2 k = .inl (1, n, .inl f) → ∀ j, fits .byte (.int (f j)) = true
theorem zWs.ent {ad : Nat → Nat} {M : zM} {ws : va_W} {tys : List (ClassId × FieldType)} (h : zWs ad M ws tys) {a : Nat} {e : zE} (he : zob M a = some e) : ∃ w, ws[a]? = some (ad a, w) ∧ zrl ad tys e w ∧ a < M.1 := by
  unfold zob at he
  by_cases ha : a < M.1
  · rw [if_pos ha] at he
    cases he
    obtain ⟨w, h1, h2⟩ := h.2 a ha
    exact ⟨w, h1, h2, ha⟩
  · rw [if_neg ha] at he; cases he
theorem zWs.setD {ad : Nat → Nat} {M : zM} {ws : va_W} {tys : List (ClassId × FieldType)} (h : zWs ad M ws tys) {a : Nat} {e : zE} {w : va_E} (ha : a < M.1) (hw : zrl ad tys e w) : zWs ad (zset M a e) (ws.set a (ad a, w)) tys := by
  refine ⟨by rw [List.length_set]; exact h.1, fun k hk => ?_⟩
  have hk' : k < M.1 := hk
  by_cases q : k = a
  · subst q
    refine ⟨w, by rw [List.getElem?_set_self (by rw [h.1]; exact hk')], ?_⟩
    show zrl ad tys (va_up M.2.2 k e k) w
    unfold va_up
    rw [if_pos rfl]
    exact hw
  · obtain ⟨v, h1, h2⟩ := h.2 k hk'
    refine ⟨v, by rw [List.getElem?_set_ne (fun z => q z.symm)]; exact h1, ?_⟩
    show zrl ad tys (va_up M.2.2 a e k) v
    unfold va_up
    rw [if_neg q]
    exact h2
theorem zWs.push {ad : Nat → Nat} {M : zM} {ws : va_W} {tys t2 : List (ClassId × FieldType)} (h : zWs ad M ws tys) {e : zE} {w : va_E} (hw : zrl ad (tys ++ t2) e w) : zWs ad (zpush M e) (ws ++ [(ad M.1, w)]) (tys ++ t2) := by
  refine ⟨by rw [List.length_append, h.1]; rfl, fun k hk => ?_⟩
  have hk' : k < M.1 + 1 := hk
  by_cases q : k = M.1
  · subst q
    refine ⟨w, by rw [List.getElem?_append_right (by rw [h.1]; exact Nat.le_refl _), h.1, Nat.sub_self]; rfl, ?_⟩
    show zrl ad _ (va_up M.2.2 M.1 e M.1) w
    unfold va_up
    rw [if_pos rfl]
    exact hw
  · obtain ⟨v, h1, h2⟩ := h.2 k (by omega)
    refine ⟨v, by rw [List.getElem?_append_left (by rw [h.1]; omega)]; exact h1, ?_⟩
    show zrl ad _ (va_up M.2.2 M.1 e k) v
    unfold va_up
    rw [if_neg q]
    exact h2.more
theorem zWs.D {base : Nat} {ex : Nat → Nat} {M : zM} {ws : va_W} {tys : List (ClassId × FieldType)} (h : zWs (zad base ex) M ws tys) (hM : M.1 ≤ 1000000) : va_D (zA base) ws := by
  have key : ∀ (i : Nat) (p : Nat × va_E), ws[i]? = some p → p.1 = base + i := by
    intro i p hp
    have hi : i < M.1 := by rw [← h.1]; exact (List.getElem?_eq_some_iff.mp hp).1
    obtain ⟨w, h1, -⟩ := h.2 i hi
    rw [hp] at h1
    cases h1
    show zad base ex i = base + i
    unfold zad
    rw [if_pos (by omega)]
  refine ⟨fun i j p q hp hq he => ?_, fun k q hq => ?_⟩
  · have h1 := key i p hp
    have h2 := key j q hq
    omega
  · have h1 := key k q hq
    show base ≤ q.1
    omega
theorem zfit_cv {ad : Nat → Nat} {ty : FieldType} {v : Value} (h : zfit ty v = true) : narrow ty (zcv ad v) = zcv ad v ∧ fits ty (zcv ad v) = true := by
  unfold zfit at h
  simp only [Bool.and_eq_true, decide_eq_true_eq] at h
  cases v with
  | ref a =>
    refine ⟨?_, ?_⟩
    · cases ty <;> rfl
    · have := h.2
      cases ty <;> first | rfl | (simp [fits] at this)
  | _ => exact h
theorem zcs_get {ad : Nat → Nat} {fs : List Value} {k : Nat} {v : Value} (h : fs[k]? = some v) : (zcs ad fs)[k]? = some (zcv ad v) := by
  unfold zcs
  rw [List.getElem?_map, h]
  rfl
theorem zcs_set {ad : Nat → Nat} {fs : List Value} {k : Nat} {v : Value} : (zcs ad fs).set k (zcv ad v) = zcs ad (fs.set k v) := by
  unfold zcs
  rw [List.map_set]
theorem zcs_len {ad : Nat → Nat} {fs : List Value} : (zcs ad fs).length = fs.length := by simp [zcs]
theorem zcv_rf {ad : Nat → Nat} (r : Option Nat) : zcv ad (zrf r) = va_rf (r.map ad) := by cases r <;> rfl
theorem zcs_def {ad : Nat → Nat} (ci n : Nat) : zcs ad (zdef ci n) = zdef ci n := by
  unfold zcs zdef
  rw [List.map_map]
  refine congrArg (fun f => List.map f (List.range n)) (funext fun k => ?_)
  show zcv ad (defaultValue (zfty ci k)) = defaultValue (zfty ci k)
  cases zfty ci k <;> rfl
theorem zdef_get {ci n j : Nat} (h : j < n) : defaultValue (zfty ci j) = vp_V (zdef ci n) j := by
  unfold vp_V zdef
  rw [List.getD_eq_getElem?_getD, List.getElem?_map, List.getElem?_range h]
  rfl
theorem zdef_len (ci n : Nat) : (zdef ci n).length = n := by simp [zdef]
theorem zFit.set {M : zM} (h : zFit M) {a : Nat} {e : zE} (he : ∀ (n : Nat) (f : Nat → Int32), e = .inl (1, n, .inl f) → ∀ j, fits .byte (.int (f j)) = true) : zFit (zset M a e) := by
  intro k n f hk
  by_cases q : k = a
  · subst q
    have hk : va_up M.2.2 k e k = .inl (1, n, .inl f) := hk
    unfold va_up at hk
    rw [if_pos rfl] at hk
    exact he n f hk
  · have hk : va_up M.2.2 a e k = .inl (1, n, .inl f) := hk
    unfold va_up at hk
    rw [if_neg q] at hk
    exact h k n f hk
theorem zFit.push {M : zM} (h : zFit M) {e : zE} (he : ∀ (n : Nat) (f : Nat → Int32), e = .inl (1, n, .inl f) → ∀ j, fits .byte (.int (f j)) = true) : zFit (zpush M e) := by
  intro k n f hk
  by_cases q : k = M.1
  · subst q
    have hk : va_up M.2.2 M.1 e M.1 = .inl (1, n, .inl f) := hk
    unfold va_up at hk
    rw [if_pos rfl] at hk
    exact he n f hk
  · have hk : va_up M.2.2 M.1 e k = .inl (1, n, .inl f) := hk
    unfold va_up at hk
    rw [if_neg q] at hk
    exact h k n f hk
theorem znar_byte (x : Int32) : fits .byte (.int (vp_nar .byte x)) = true := by
  rw [vp_nar_byte]
  simp only [fits, Bool.and_eq_true, decide_eq_true_eq]
  have h1 : x.toInt8.toInt32.toInt = x.toInt8.toInt := Int8.toInt_toInt32 _
  have h2 := Int8.le_toInt x.toInt8
  have h3 := Int8.toInt_lt x.toInt8
  constructor
  · rw [Int32.le_iff_toInt_le, h1]
    have : (-128 : Int32).toInt = -128 := by decide
    omega
  · rw [Int32.le_iff_toInt_le, h1]
    have : (127 : Int32).toInt = 127 := by decide
    omega
/-- what lay there before: the script, the static rows of bytes, the strings, and the tables' words of the nest -/
def zExt (base : Nat) (ex : Nat → Nat) (X : zX) (U : State) (H : Heap) : Prop :=
  va_X (ex 16) X.1 X.2.1 U H ∧ ex 16 < base ∧
  (va_T .byte (ex 13) 172 (fun j => .int (zTAKES.getD j 0)) (zA base) U H ∧ va_Z "ForthHouse" "TAKES" "[B" (.ref (ex 13)) (zA base) U H) ∧
  (va_T .byte (ex 14) 172 (fun j => .int (zLEAVES.getD j 0)) (zA base) U H ∧ va_Z "ForthHouse" "LEAVES" "[B" (.ref (ex 14)) (zA base) U H) ∧
  (va_T .byte (ex 15) 172 (fun j => .int (zTRAITS.getD j 0)) (zA base) U H ∧ va_Z "ForthHouse" "TRAITS" "[B" (.ref (ex 15)) (zA base) U H) ∧
  (∀ w ∈ zN, va_Nw w U) ∧ va_AO "ForthHouse$Forth" U ∧ va_AO "ForthHouse$Task" U ∧
  (∀ o k r, o < 21 → zlk o k = some r → r.1 = 7 → ∃ tx, vk_R (zown o) k tx (ex r.2.1) U) ∧
  vk_S 13 (zstr.map List.length) zstr ex (fun i => ex (20 + i)) (zA base) U H ∧ va_Z "java/lang/String" "COMPACT_STRINGS" "Z" (.int 1) (zA base) U H ∧
  va_Z "jdk/internal/util/Preconditions" "SIOOBE_FORMATTER" "Ljava/util/function/BiFunction;" (if X.2.2 = 0 then .null else .ref (ex 40)) (zA base) U H
/-- the world at a place within a method that began at s -/
def zMid (base : Nat) (ex : Nat → Nat) (dC : Nat → ClassId) (dI : Nat → Nat → Nat) (s : State) (M : zM) (H : Heap) (locs : List Loc) : Prop :=
  M.1 ≤ 1000000 ∧ base ≤ s.heap.size ∧ va_S (zA base) s.heap H locs ∧ zFit M ∧ ∃ ws tys, zWs (zad base ex) M ws tys ∧ va_P (dC, dI) zcls ws H ∧ va_K (dC, dI) zcls tys s
section ZS1
variable {p : Program} {l : Launch} {e : Env} {R : Room} {s : State} {m : MethodId} {args : Array Value} {below : List Frame} {meth : Method} {c : Code} {H : Heap} {locs : List Loc} {cells slots : Nat} {Q : State → Prop} {cc : ByteArray} {base : Nat} {ex : Nat → Nat} {dC : Nat → ClassId} {dI : Nat → Nat → Nat} {X : zX} {own : Nat} {ini : Bool} {pc nL len pc' c0 s0 : Nat} {i : Instr} {ls ls' : zL} {st st' : List Value} {M M' : zM} {L : Array Slot}
theorem W.size (k : H.size ≤ s.heap.size + cells → W p l e R s m args below meth c H locs cells slots Q (F0 m pc L st)) : W p l e R s m args below meth c H locs cells slots Q (F0 m pc L st) := fun T hT Y => k (by rw [← hT]; exact Y.heapSize) T hT Y
/-- what stands throughout a method -/
def zCtx (p : Program) (s : State) (m : MethodId) (args : Array Value) (meth : Method) (c : Code) (R : Room) (cc : ByteArray) (base : Nat) (ex : Nat → Nat) (X : zX) (own : Nat) (ini : Bool) (nL c0 : Nat) : Prop :=
  p.tables.exec = Jvm.exec ∧ c.code = cc ∧ s.vm.findClass (zown own) = some m.cls ∧ own < 21 ∧ (∀ w ∈ zW, w.before args s = true) ∧ zExt base ex X s s.heap ∧ (ini = true → meth.name = "<init>") ∧ c.maxLocals = nL ∧ 1 ≤ R.frames ∧ 200 ≤ R.locals ∧ s.heap.size = base + c0
/-- goes on, the world being M' -/
def zGo (p : Program) (l : Launch) (e : Env) (R : Room) (s : State) (m : MethodId) (args : Array Value) (below : List Frame) (meth : Method) (c : Code) (Q : State → Prop) (base : Nat) (ex : Nat → Nat) (dC : Nat → ClassId) (dI : Nat → Nat → Nat) (nL c0 s0 : Nat) (pc : Nat) (ls : zL) (st : List Value) (M : zM) : Prop :=
  ∀ (L : Array Slot) (H : Heap) (locs : List Loc) (cells slots : Nat), cells + c0 = M.1 → slots + s0 = M.2.1 → lv_has L nL (zcl (zad base ex) ls) → zMid base ex dC dI s M H locs → W p l e R s m args below meth c H locs cells slots Q (F0 m pc L (zcs (zad base ex) st))
theorem zMid.write {a : Nat} {e : zE} {w : va_E} {ws : va_W} {tys : List (ClassId × FieldType)} {H1 : Heap} {locs1 : List Loc} (h1 : M.1 ≤ 1000000) (h2 : base ≤ s.heap.size) (hF : zFit M) (hR : zWs (zad base ex) M ws tys) (hK : va_K (dC, dI) zcls tys s) (ha : a < M.1) (hw : zrl (zad base ex) tys e w) (he : ∀ (n : Nat) (f : Nat → Int32), e = .inl (1, n, .inl f) → ∀ j, fits .byte (.int (f j)) = true)
    (hP : va_P (dC, dI) zcls (ws.set a (zad base ex a, w)) H1) (hS : va_S (zA base) s.heap H1 locs1) : zMid base ex dC dI s (zset M a e) H1 locs1 :=
  ⟨h1, h2, hS, hF.set he, _, _, hR.setD ha hw, hP, hK⟩
theorem z_getfield {x : Nat} (C : zCtx p s m args meth c R cc base ex X own ini nL c0) (hd : decode cc pc = .ok (.getfield x, 3)) (h : zs1 X own ini pc ls st M (.getfield x) = some (pc', ls', st', M')) (hl : lv_has L nL (zcl (zad base ex) ls)) (hM : zMid base ex dC dI s M H locs) (hcc : cells + c0 = M.1) (hss : slots + s0 = M.2.1)
    (kk : zGo p l e R s m args below meth c Q base ex dC dI nL c0 s0 pc' ls' st' M') : W p l e R s m args below meth c H locs cells slots Q (F0 m pc L (zcs (zad base ex) st)) := by
  obtain ⟨hx, hb, hown, ho, hts, hE, hini, hml, hRf, hRl, hs0⟩ := id C
  simp only [zs1] at h
  split at h
  · rename_i ci k q hlk
    split at h
    · rename_i a r
      split at h
      · rename_i cj fs he
        split at h
        · rename_i hc
          subst hc
          split at h
          · rename_i v hv
            cases h
            obtain ⟨h1, h2, hS, hF, ws, tys, hR, hP, hK⟩ := id hM
            obtain ⟨w, hw, hrl, hlt⟩ := hR.ent he
            have hw' : w = .inr (cj, zcs (zad base ex) fs) := hrl
            subst hw'
            obtain ⟨Cn, T, N, hcl, hkN, hlw⟩ := z_lk0 ho hlk
            exact va_get hx hb hts (zcls_ok _ _ hcl).1 hown hK hP a hw hcl k hkN (hts _ hlw) (fun _ h => h) (zcs_get hv) hd (kk L H locs cells slots hcc hss hl hM)
          · cases h
        · cases h
      · cases h
    · cases h
  · cases h
theorem z_putfield {x : Nat} (C : zCtx p s m args meth c R cc base ex X own ini nL c0) (hd : decode cc pc = .ok (.putfield x, 3)) (h : zs1 X own ini pc ls st M (.putfield x) = some (pc', ls', st', M')) (hl : lv_has L nL (zcl (zad base ex) ls)) (hM : zMid base ex dC dI s M H locs) (hcc : cells + c0 = M.1) (hss : slots + s0 = M.2.1)
    (kk : zGo p l e R s m args below meth c Q base ex dC dI nL c0 s0 pc' ls' st' M') : W p l e R s m args below meth c H locs cells slots Q (F0 m pc L (zcs (zad base ex) st)) := by
  obtain ⟨hx, hb, hown, ho, hts, hE, hini, hml, hRf, hRl, hs0⟩ := id C
  simp only [zs1] at h
  split at h
  · rename_i ci k q hlk
    split at h
    · rename_i v a r
      split at h
      · rename_i cj fs he
        split at h
        · rename_i qq hq
          split at h
          · rename_i hc
            obtain ⟨hc, hk, hkN, hfit, hfin⟩ := hc
            subst hc
            cases h
            obtain ⟨h1, h2, hS, hF, ws, tys, hR, hP, hK⟩ := id hM
            obtain ⟨w, hw, hrl, hlt⟩ := hR.ent he
            have hw' : w = .inr (cj, zcs (zad base ex) fs) := hrl
            subst hw'
            obtain ⟨Cn, T, N, hcl, -, hlw⟩ := z_lk0 ho hlk
            rw [hcl] at hq
            cases hq
            obtain ⟨hf1, hf2⟩ := zfit_cv (ad := zad base ex) hfit
            obtain ⟨z1, z2, z3⟩ := zcls_ok _ _ hcl
            have fin : ∀ (H1 : Heap) (locs1 : List Loc), va_P (dC, dI) zcls (ws.set a (zad base ex a, .inr (cj, (zcs (zad base ex) fs).set k (zcv (zad base ex) v)))) H1 → va_D (zA base) (ws.set a (zad base ex a, .inr (cj, (zcs (zad base ex) fs).set k (zcv (zad base ex) v)))) → va_S (zA base) s.heap H1 locs1 → W p l e R s m args below meth c H1 locs1 cells slots Q (F0 m (pc + 3) L (zcs (zad base ex) st')) := by
              intro H1 locs1 hP1 hD1 hS1
              rw [zcs_set] at hP1
              exact kk L H1 locs1 cells slots hcc hss hl (zMid.write h1 h2 hF hR hK hlt rfl (fun n f hz => by cases hz) hP1 hS1)
            by_cases hb2 : (T k).2.2.2 = false
            · exact va_put hx hb hts z1 _ z2 z3 hown hK hP (hR.D h1) hS a hw hcl k hkN (hts _ hlw) (fun _ h => h) hb2 (z2 k hkN) hf1 hf2 (by rw [zcs_len]; exact hk) hd fin
            · rcases hfin with hfin | ⟨hfin, hdecl⟩
              · exact absurd hfin hb2
              · exact va_putF hx hb hts z1 _ z2 z3 hown hK hP (hR.D h1) hS a hw hcl k hkN (hts _ hlw) (fun _ h => h) (by simpa using hb2) (hini hfin) hdecl (z2 k hkN) hf1 hf2 (by rw [zcs_len]; exact hk) hd fin
          · cases h
        · cases h
      · cases h
    · cases h
  · cases h
theorem zad_out (base : Nat) (ex : Nat → Nat) (k : Nat) : zad base ex (1000000 + k) = ex k := by
  unfold zad
  rw [if_neg (by omega), Nat.add_sub_cancel_left]
theorem z_iaload (C : zCtx p s m args meth c R cc base ex X own ini nL c0) (hd : decode cc pc = .ok (.iaload, 1)) (h : zs1 X own ini pc ls st M .iaload = some (pc', ls', st', M')) (hl : lv_has L nL (zcl (zad base ex) ls)) (hM : zMid base ex dC dI s M H locs) (hcc : cells + c0 = M.1) (hss : slots + s0 = M.2.1)
    (kk : zGo p l e R s m args below meth c Q base ex dC dI nL c0 s0 pc' ls' st' M') : W p l e R s m args below meth c H locs cells slots Q (F0 m pc L (zcs (zad base ex) st)) := by
  obtain ⟨hx, hb, hown, ho, hts, hE, hini, hml, hRf, hRl, hs0⟩ := id C
  obtain ⟨h1, h2, hS, hF, ws, tys, hR, hP, hK⟩ := id hM
  simp only [zs1] at h
  split at h
  · rename_i j a r
    split at h
    · rename_i ha
      split at h
      · cases h
      · rename_i hin
        have hin : vp_in j X.1 := fun q => hin (by rcases q with q | q
                                                   · exact Or.inl q
                                                   · exact Or.inr (Or.inl q))
        cases h
        subst ha
        have hXs := hE.1
        have hbl : ex 16 < s.heap.size := Nat.lt_of_lt_of_le hE.2.1 h2
        have := va_sld (Q := Q) (ls := L) (rest := zcs (zad base ex) r) hx hb hXs hbl (Nat.not_le.mpr hE.2.1) hS (i := j) hin hd (kk L H locs cells slots hcc hss hl hM)
        rw [← zad_out base ex 16] at this
        exact this
    · split at h
      · rename_i n f he
        split at h
        · cases h
        · rename_i hin
          cases h
          obtain ⟨w, hw, ⟨cA, t0, ht, hrl⟩, hlt⟩ := hR.ent he
          subst hrl
          exact va_iald hx hb hK hP a t0 hw ht hin hd (kk L H locs cells slots hcc hss hl hM)
      · cases h
  · cases h
theorem zstat_ok {base : Nat} {ex : Nat → Nat} {X : zX} {U : State} {Hp : Heap} (hE : zExt base ex X U Hp) {a : Nat} {q : List Int32} (h : zstat a = some q) : q.length = 172 ∧ va_T .byte (zad base ex a) 172 (fun j => .int (q.getD j 0)) (zA base) U Hp := by
  obtain ⟨-, -, ⟨e1, -⟩, ⟨e2, -⟩, ⟨e3, -⟩, -⟩ := hE
  unfold zstat at h
  split at h
  · rename_i q1
    cases h
    subst q1
    exact ⟨by decide +kernel, (zad_out base ex 13).symm ▸ e1⟩
  · split at h
    · rename_i q1
      cases h
      subst q1
      exact ⟨by decide +kernel, (zad_out base ex 14).symm ▸ e2⟩
    · split at h
      · rename_i q1
        cases h
        subst q1
        exact ⟨by decide +kernel, (zad_out base ex 15).symm ▸ e3⟩
      · cases h
theorem z_baload (C : zCtx p s m args meth c R cc base ex X own ini nL c0) (hd : decode cc pc = .ok (.baload, 1)) (h : zs1 X own ini pc ls st M .baload = some (pc', ls', st', M')) (hl : lv_has L nL (zcl (zad base ex) ls)) (hM : zMid base ex dC dI s M H locs) (hcc : cells + c0 = M.1) (hss : slots + s0 = M.2.1)
    (kk : zGo p l e R s m args below meth c Q base ex dC dI nL c0 s0 pc' ls' st' M') : W p l e R s m args below meth c H locs cells slots Q (F0 m pc L (zcs (zad base ex) st)) := by
  obtain ⟨hx, hb, hown, ho, hts, hE, hini, hml, hRf, hRl, hs0⟩ := id C
  obtain ⟨h1, h2, hS, hF, ws, tys, hR, hP, hK⟩ := id hM
  simp only [zs1] at h
  split at h
  · rename_i j a r
    split at h
    · rename_i q hq
      split at h
      · cases h
      · rename_i hin
        cases h
        obtain ⟨z1, z2⟩ := zstat_ok hE hq
        rw [z1] at hin
        exact va_tb hx hb z2 hS hin rfl hd (kk L H locs cells slots hcc hss hl hM)
    · split at h
      · rename_i n f he
        split at h
        · cases h
        · rename_i hin
          cases h
          obtain ⟨w, hw, ⟨cA, t0, ht, hrl⟩, hlt⟩ := hR.ent he
          subst hrl
          exact va_bald hx hb hK hP a t0 hw ht hin hd (kk L H locs cells slots hcc hss hl hM)
      · rename_i n f he
        split at h
        · cases h
        · rename_i hin
          cases h
          obtain ⟨w, hw, ⟨cA, t0, ht, hrl⟩, hlt⟩ := hR.ent he
          subst hrl
          exact va_zald hx hb hK hP a t0 hw ht hin hd (kk L H locs cells slots hcc hss hl hM)
      · cases h
  · cases h
theorem zty_obj {t : Nat} (h : ¬ t < 3) : ∃ C : String, zty t = .object C := by
  match t, h with
  | 0, h => exact absurd (by decide) h
  | 1, h => exact absurd (by decide) h
  | 2, h => exact absurd (by decide) h
  | 3, _ => exact ⟨_, rfl⟩
  | k + 4, _ => exact ⟨_, rfl⟩
theorem z_aaload (C : zCtx p s m args meth c R cc base ex X own ini nL c0) (hd : decode cc pc = .ok (.aaload, 1)) (h : zs1 X own ini pc ls st M .aaload = some (pc', ls', st', M')) (hl : lv_has L nL (zcl (zad base ex) ls)) (hM : zMid base ex dC dI s M H locs) (hcc : cells + c0 = M.1) (hss : slots + s0 = M.2.1)
    (kk : zGo p l e R s m args below meth c Q base ex dC dI nL c0 s0 pc' ls' st' M') : W p l e R s m args below meth c H locs cells slots Q (F0 m pc L (zcs (zad base ex) st)) := by
  obtain ⟨hx, hb, hown, ho, hts, hE, hini, hml, hRf, hRl, hs0⟩ := id C
  obtain ⟨h1, h2, hS, hF, ws, tys, hR, hP, hK⟩ := id hM
  simp only [zs1] at h
  split at h
  · rename_i j a r
    split at h
    · rename_i t n f he
      split at h
      · cases h
      · rename_i hc
        cases h
        obtain ⟨w, hw, ⟨cA, t0, ht, hrl⟩, hlt⟩ := hR.ent he
        subst hrl
        obtain ⟨Cn, hty⟩ := zty_obj (fun q => hc (Or.inl q))
        rw [hty] at ht
        have hin : vp_in j n := fun q => hc (Or.inr q)
        have hgo := kk L H locs cells slots hcc hss hl hM
        rw [zcs_cons, zcv_rf] at hgo
        exact va_aldq hx hb hK hP a t0 hw ht hin hd hgo
    · cases h
  · cases h
theorem z_iastore (C : zCtx p s m args meth c R cc base ex X own ini nL c0) (hd : decode cc pc = .ok (.iastore, 1)) (h : zs1 X own ini pc ls st M .iastore = some (pc', ls', st', M')) (hl : lv_has L nL (zcl (zad base ex) ls)) (hM : zMid base ex dC dI s M H locs) (hcc : cells + c0 = M.1) (hss : slots + s0 = M.2.1)
    (kk : zGo p l e R s m args below meth c Q base ex dC dI nL c0 s0 pc' ls' st' M') : W p l e R s m args below meth c H locs cells slots Q (F0 m pc L (zcs (zad base ex) st)) := by
  obtain ⟨hx, hb, hown, ho, hts, hE, hini, hml, hRf, hRl, hs0⟩ := id C
  obtain ⟨h1, h2, hS, hF, ws, tys, hR, hP, hK⟩ := id hM
  simp only [zs1] at h
  split at h
  · rename_i x j a r
    split at h
    · rename_i n f he
      split at h
      · cases h
      · rename_i hin
        cases h
        obtain ⟨w, hw, ⟨cA, t0, ht, hrl⟩, hlt⟩ := hR.ent he
        subst hrl
        exact va_iast hx hb hK hP (hR.D h1) hS a t0 hw ht hin hd (fun H1 locs1 hP1 hD1 hS1 => kk L H1 locs1 cells slots hcc hss hl (zMid.write h1 h2 hF hR hK hlt ⟨cA, t0, ht, rfl⟩ (fun n f hz => by cases hz) hP1 hS1))
    · cases h
  · cases h
theorem z_bastore (C : zCtx p s m args meth c R cc base ex X own ini nL c0) (hd : decode cc pc = .ok (.bastore, 1)) (h : zs1 X own ini pc ls st M .bastore = some (pc', ls', st', M')) (hl : lv_has L nL (zcl (zad base ex) ls)) (hM : zMid base ex dC dI s M H locs) (hcc : cells + c0 = M.1) (hss : slots + s0 = M.2.1)
    (kk : zGo p l e R s m args below meth c Q base ex dC dI nL c0 s0 pc' ls' st' M') : W p l e R s m args below meth c H locs cells slots Q (F0 m pc L (zcs (zad base ex) st)) := by
  obtain ⟨hx, hb, hown, ho, hts, hE, hini, hml, hRf, hRl, hs0⟩ := id C
  obtain ⟨h1, h2, hS, hF, ws, tys, hR, hP, hK⟩ := id hM
  simp only [zs1] at h
  split at h
  · rename_i x j a r
    split at h
    · rename_i n f he
      split at h
      · cases h
      · rename_i hin
        cases h
        obtain ⟨w, hw, ⟨cA, t0, ht, hrl⟩, hlt⟩ := hR.ent he
        subst hrl
        have hfit : ∀ k, fits .byte (.int (f k)) = true := by
          unfold zob at he
          rw [if_pos hlt] at he
          exact hF a n f (Option.some.inj he)
        refine va_bast hx hb hK hP (hR.D h1) hS a t0 hw ht hin hd (fun H1 locs1 hP1 hD1 hS1 => kk L H1 locs1 cells slots hcc hss hl (zMid.write h1 h2 hF hR hK hlt ⟨cA, t0, ht, rfl⟩ (fun n2 f2 hz k => ?_) hP1 hS1))
        cases hz
        unfold upd
        split
        · exact znar_byte x
        · exact hfit k
    · rename_i n f he
      split at h
      · cases h
      · rename_i hin
        cases h
        obtain ⟨w, hw, ⟨cA, t0, ht, hrl⟩, hlt⟩ := hR.ent he
        subst hrl
        exact va_zast hx hb hK hP (hR.D h1) hS a t0 hw ht hin hd (fun H1 locs1 hP1 hD1 hS1 => kk L H1 locs1 cells slots hcc hss hl (zMid.write h1 h2 hF hR hK hlt ⟨cA, t0, ht, rfl⟩ (fun n f hz => by cases hz) hP1 hS1))
    · cases h
  · cases h
theorem zup_map {ad : Nat → Nat} (f : Nat → Option Nat) (j v : Nat) : (fun k => (va_up f j (some v) k).map ad) = va_up (fun k => (f k).map ad) j (some (ad v)) := by
  funext k
  unfold va_up
  split <;> rfl
theorem z_aastore (C : zCtx p s m args meth c R cc base ex X own ini nL c0) (hd : decode cc pc = .ok (.aastore, 1)) (h : zs1 X own ini pc ls st M .aastore = some (pc', ls', st', M')) (hl : lv_has L nL (zcl (zad base ex) ls)) (hM : zMid base ex dC dI s M H locs) (hcc : cells + c0 = M.1) (hss : slots + s0 = M.2.1)
    (kk : zGo p l e R s m args below meth c Q base ex dC dI nL c0 s0 pc' ls' st' M') : W p l e R s m args below meth c H locs cells slots Q (F0 m pc L (zcs (zad base ex) st)) := by
  obtain ⟨hx, hb, hown, ho, hts, hE, hini, hml, hRf, hRl, hs0⟩ := id C
  obtain ⟨h1, h2, hS, hF, ws, tys, hR, hP, hK⟩ := id hM
  simp only [zs1] at h
  split at h
  · rename_i v j a r
    split at h
    · rename_i t n f he
      split at h
      · rename_i ci fs hv
        split at h
        · rename_i q hq
          split at h
          · cases h
          · rename_i hc
            cases h
            obtain ⟨w, hw, ⟨cA, t0, ht, hrl⟩, hlt⟩ := hR.ent he
            subst hrl
            obtain ⟨w2, hw2, hrl2, hlt2⟩ := hR.ent hv
            have hrl2 : w2 = .inr (ci, zcs (zad base ex) fs) := hrl2
            subst hrl2
            have hty : zty t = .object q.1 := by
              by_cases z : zty t = .object q.1
              · exact z
              · exact absurd (Or.inr (Or.inr (Or.inr z))) hc
            have hin : vp_in j n := fun z => hc (by rcases z with z | z
                                                    · exact Or.inr (Or.inl z)
                                                    · exact Or.inr (Or.inr (Or.inl z)))
            have ht2 := ht
            rw [hty] at ht
            refine va_astq hx hb hK hP (hR.D h1) hS a t0 v ci hw ht hw2 hq hin hd (fun H1 locs1 hP1 hD1 hS1 => ?_)
            rw [← zup_map] at hP1
            exact kk L H1 locs1 cells slots hcc hss hl (zMid.write h1 h2 hF hR hK hlt ⟨cA, t0, ht2, rfl⟩ (fun n f hz => by cases hz) hP1 hS1)
        · cases h
      · cases h
    · cases h
  · cases h
theorem z_arraylength (C : zCtx p s m args meth c R cc base ex X own ini nL c0) (hd : decode cc pc = .ok (.arraylength, 1)) (h : zs1 X own ini pc ls st M .arraylength = some (pc', ls', st', M')) (hl : lv_has L nL (zcl (zad base ex) ls)) (hM : zMid base ex dC dI s M H locs) (hcc : cells + c0 = M.1) (hss : slots + s0 = M.2.1)
    (kk : zGo p l e R s m args below meth c Q base ex dC dI nL c0 s0 pc' ls' st' M') : W p l e R s m args below meth c H locs cells slots Q (F0 m pc L (zcs (zad base ex) st)) := by
  obtain ⟨hx, hb, hown, ho, hts, hE, hini, hml, hRf, hRl, hs0⟩ := id C
  obtain ⟨h1, h2, hS, hF, ws, tys, hR, hP, hK⟩ := id hM
  simp only [zs1] at h
  split at h
  · rename_i a r
    split at h
    · rename_i ha
      split at h
      · cases h
        subst ha
        have hXs := hE.1
        have hbl : ex 16 < s.heap.size := Nat.lt_of_lt_of_le hE.2.1 h2
        have := va_slen (Q := Q) (ls := L) (rest := zcs (zad base ex) r) hx hb hXs hbl (Nat.not_le.mpr hE.2.1) hS hd (kk L H locs cells slots hcc hss hl hM)
        rw [← zad_out base ex 16] at this
        exact this
      · cases h
    · split at h
      · rename_i t x he
        cases h
        obtain ⟨w, hw, ⟨cA, t0, ht, hrl⟩, hlt⟩ := hR.ent he
        subst hrl
        exact va_alen hx hb hK hP a t0 hw ht (by rw [zcA_1]) hd (kk L H locs cells slots hcc hss hl hM)
      · cases h
  · cases h
theorem z_fresh {q : Nat} {w : va_E} {ws : va_W} {tys : List (ClassId × FieldType)} {H1 : Heap} (hP1 : va_P (dC, dI) zcls (ws ++ [(q, w)]) H1) (hD1 : va_D (zA base) (ws ++ [(q, w)])) (hR : zWs (zad base ex) M ws tys) (hM1 : M.1 < 1000000) (hsz : H1.size ≤ base + (M.1 + 1)) : q = zad base ex M.1 := by
  have hat : (ws ++ [(q, w)])[M.1]? = some (q, w) := by
    rw [List.getElem?_append_right (by rw [hR.1]; exact Nat.le_refl _), hR.1, Nat.sub_self]
    rfl
  have h1 : q < H1.size := (hP1 M.1 (q, w) hat).lt
  have h2 : base ≤ q := hD1.2 M.1 (q, w) hat
  unfold zad
  rw [if_pos hM1]
  by_cases h3 : q = base + M.1
  · exact h3
  · exfalso
    have hk : q - base < M.1 := by omega
    obtain ⟨v, hv, -⟩ := hR.2 (q - base) hk
    have hz : zad base ex (q - base) = q := by
      unfold zad
      rw [if_pos (by omega)]
      omega
    rw [hz] at hv
    have hv2 : (ws ++ [(q, w)])[q - base]? = some (q, v) := by
      rw [List.getElem?_append_left (by rw [hR.1]; exact hk)]
      exact hv
    have := hD1.1 (q - base) M.1 (q, v) (q, w) hv2 hat rfl
    omega
theorem zMid.new {e : zE} {w : va_E} {ws : va_W} {tys t2 : List (ClassId × FieldType)} {H1 : Heap} {locs1 : List Loc} (h2 : base ≤ s.heap.size) (hF : zFit M) (hR : zWs (zad base ex) M ws tys) (hK : va_K (dC, dI) zcls (tys ++ t2) s) (hM1 : M.1 < 1000000) (hw : zrl (zad base ex) (tys ++ t2) e w) (he : ∀ (n : Nat) (f : Nat → Int32), e = .inl (1, n, .inl f) → ∀ j, fits .byte (.int (f j)) = true)
    (hP : va_P (dC, dI) zcls (ws ++ [(zad base ex M.1, w)]) H1) (hS : va_S (zA base) s.heap H1 locs1) : zMid base ex dC dI s (zpush M e) H1 locs1 :=
  ⟨hM1, h2, hS, hF.push he, _, _, hR.push hw, hP, hK⟩
theorem zatype_ok {t : ArrayType} {k : Nat} (h : zatype t = some k) : newarray.typeOf t = zty k ∧ (Cond.arrayClass (newarray.typeOf t)) ∈ zW ∧ ∀ (cA : ClassId) (n : Nat), vp_cell cA (n, .inl (fun _ => 0)) = arrV cA n (fun _ => defaultValue (zty k)) := by
  cases t <;> simp only [zatype, Option.some.injEq, reduceCtorEq] at h <;> subst h
  · exact ⟨rfl, zw_arr2, fun _ _ => rfl⟩
  · exact ⟨rfl, zw_arr1, fun _ _ => rfl⟩
  · exact ⟨rfl, zw_arr0, fun _ _ => rfl⟩
theorem z_newarray {t : ArrayType} (C : zCtx p s m args meth c R cc base ex X own ini nL c0) (hd : decode cc pc = .ok (.newarray t, 2)) (h : zs1 X own ini pc ls st M (.newarray t) = some (pc', ls', st', M')) (hl : lv_has L nL (zcl (zad base ex) ls)) (hM : zMid base ex dC dI s M H locs) (hcc : cells + c0 = M.1) (hss : slots + s0 = M.2.1) (hRc : M'.1 ≤ R.cells + c0) (hRs : M'.2.1 ≤ R.slots + s0)
    (kk : zGo p l e R s m args below meth c Q base ex dC dI nL c0 s0 pc' ls' st' M') : W p l e R s m args below meth c H locs cells slots Q (F0 m pc L (zcs (zad base ex) st)) := by
  obtain ⟨hx, hb, hown, ho, hts, hE, hini, hml, hRf, hRl, hs0⟩ := id C
  obtain ⟨h1, h2, hS, hF, ws, tys, hR, hP, hK⟩ := id hM
  simp only [zs1] at h
  split at h
  · rename_i n r
    split at h
    · rename_i k hk
      split at h
      · cases h
      · rename_i hc
        cases h
        obtain ⟨z1, z2, z3⟩ := zatype_ok hk
        have hM1 : M.1 < 1000000 := by
          by_cases q : M.1 < 1000000
          · exact q
          · exact absurd (Or.inr (Or.inl q)) hc
        have hby : n.toNatClampNeg * componentBytes (zty k) ≤ 536870912 := by
          by_cases q : n.toNatClampNeg * componentBytes (zty k) ≤ 536870912
          · exact q
          · exact absurd (Or.inr (Or.inr q)) hc
        have e1 : (zpush M (.inl (k, n.toNatClampNeg, .inl (fun _ => 0)))).1 = M.1 + 1 := rfl
        have e2 : (zpush M (.inl (k, n.toNatClampNeg, .inl (fun _ => 0)))).2.1 = M.2.1 + n.toNatClampNeg := rfl
        rw [e1] at hRc
        rw [e2] at hRs
        refine va_newa hx hb (hts _ z2) z1 hK hP (hR.D h1) hS (fun q hq => Nat.le_trans h2 hq) (fun cA => z3 cA _) (fun q => hc (Or.inl q)) rfl hby (by omega) (by omega) hd (fun q cA H1 hK1 hP1 hD1 hS1 => ?_)
        refine W.size (fun hsz => ?_)
        have hq := z_fresh hP1 hD1 hR hM1 (by omega)
        subst hq
        refine kk L H1 locs (cells + 1) (slots + n.toNatClampNeg) (by rw [e1]; omega) (by rw [e2]; omega) hl (zMid.new h2 hF hR hK1 hM1 ⟨cA, tys.length, by simp, rfl⟩ (fun n2 f2 hz j => ?_) hP1 hS1)
        cases hz
        rfl
    · cases h
  · cases h
theorem z_lk3 {o x ci b p : Nat} (ho : o < 21) (h : zlk o x = some (3, ci, b, p)) : ∃ q, zcls[ci]? = some q ∧ Cond.classLink (zown o) x q.1 ∈ zW := by
  obtain ⟨w, h1, -⟩ := zlk_ok o ho x _ h (show (3 : Nat) ≠ 7 by decide)
  cases hq : zcls[ci]? with
  | none => simp [zlkw, hq] at h1
  | some q => exact ⟨q, rfl, z_lk ho h (show (3 : Nat) ≠ 7 by decide) (by simp [zlkw, hq]) rfl⟩
theorem z_anewarray {x : Nat} (C : zCtx p s m args meth c R cc base ex X own ini nL c0) (hd : decode cc pc = .ok (.anewarray x, 3)) (h : zs1 X own ini pc ls st M (.anewarray x) = some (pc', ls', st', M')) (hl : lv_has L nL (zcl (zad base ex) ls)) (hM : zMid base ex dC dI s M H locs) (hcc : cells + c0 = M.1) (hss : slots + s0 = M.2.1) (hRc : M'.1 ≤ R.cells + c0) (hRs : M'.2.1 ≤ R.slots + s0)
    (kk : zGo p l e R s m args below meth c Q base ex dC dI nL c0 s0 pc' ls' st' M') : W p l e R s m args below meth c H locs cells slots Q (F0 m pc L (zcs (zad base ex) st)) := by
  obtain ⟨hx, hb, hown, ho, hts, hE, hini, hml, hRf, hRl, hs0⟩ := id C
  obtain ⟨h1, h2, hS, hF, ws, tys, hR, hP, hK⟩ := id hM
  simp only [zs1] at h
  split at h
  · rename_i ci b2 p2 hlk
    split at h
    · rename_i n r
      split at h
      · cases h
      · rename_i hc
        have hM1 : M.1 < 1000000 := by
          by_cases q : M.1 < 1000000
          · exact q
          · exact absurd (Or.inr (Or.inl q)) hc
        have hby : n.toNatClampNeg * 4 ≤ 536870912 := by
          by_cases q : n.toNatClampNeg * 4 ≤ 536870912
          · exact q
          · exact absurd (Or.inr (Or.inr q)) hc
        split at h
        · rename_i hci
          cases h
          subst hci
          have e1 : (zpush M (.inl (3, n.toNatClampNeg, .inr (.inr (.inr (.inr (fun _ => none))))))).1 = M.1 + 1 := rfl
          have e2 : (zpush M (.inl (3, n.toNatClampNeg, .inr (.inr (.inr (.inr (fun _ => none))))))).2.1 = M.2.1 + n.toNatClampNeg := rfl
          rw [e1] at hRc
          rw [e2] at hRs
          obtain ⟨q, hq, hw⟩ := z_lk3 ho hlk
          cases hq
          refine va_newq hx hb hown (C := "ForthHouse$Forth") (hts _ hw) hE.2.2.2.2.2.2.1 hK hP (hR.D h1) hS (fun q hq => Nat.le_trans h2 hq) (fun q => hc (Or.inl q)) rfl hby (by omega) (by omega) hd (fun q cA H1 hK1 hP1 hD1 hS1 => ?_)
          refine W.size (fun hsz => ?_)
          have hq := z_fresh hP1 hD1 hR hM1 (by omega)
          subst hq
          exact kk L H1 locs (cells + 1) (slots + n.toNatClampNeg) (by rw [e1]; omega) (by rw [e2]; omega) hl (zMid.new h2 hF hR hK1 hM1 ⟨cA, tys.length, by simp [zty], rfl⟩ (fun n2 f2 hz j => by cases hz) hP1 hS1)
        · split at h
          · rename_i hci
            cases h
            subst hci
            have e1 : (zpush M (.inl (4, n.toNatClampNeg, .inr (.inr (.inr (.inr (fun _ => none))))))).1 = M.1 + 1 := rfl
            have e2 : (zpush M (.inl (4, n.toNatClampNeg, .inr (.inr (.inr (.inr (fun _ => none))))))).2.1 = M.2.1 + n.toNatClampNeg := rfl
            rw [e1] at hRc
            rw [e2] at hRs
            obtain ⟨q, hq, hw⟩ := z_lk3 ho hlk
            cases hq
            refine va_newq hx hb hown (C := "ForthHouse$Task") (hts _ hw) hE.2.2.2.2.2.2.2.1 hK hP (hR.D h1) hS (fun q hq => Nat.le_trans h2 hq) (fun q => hc (Or.inl q)) rfl hby (by omega) (by omega) hd (fun q cA H1 hK1 hP1 hD1 hS1 => ?_)
            refine W.size (fun hsz => ?_)
            have hq := z_fresh hP1 hD1 hR hM1 (by omega)
            subst hq
            exact kk L H1 locs (cells + 1) (slots + n.toNatClampNeg) (by rw [e1]; omega) (by rw [e2]; omega) hl (zMid.new h2 hF hR hK1 hM1 ⟨cA, tys.length, by simp [zty], rfl⟩ (fun n2 f2 hz j => by cases hz) hP1 hS1)
          · cases h
    · cases h
  · cases h
theorem z_new {x : Nat} (C : zCtx p s m args meth c R cc base ex X own ini nL c0) (hd : decode cc pc = .ok (.new x, 3)) (h : zs1 X own ini pc ls st M (.new x) = some (pc', ls', st', M')) (hl : lv_has L nL (zcl (zad base ex) ls)) (hM : zMid base ex dC dI s M H locs) (hcc : cells + c0 = M.1) (hss : slots + s0 = M.2.1) (hRc : M'.1 ≤ R.cells + c0) (hRs : M'.2.1 ≤ R.slots + s0)
    (kk : zGo p l e R s m args below meth c Q base ex dC dI nL c0 s0 pc' ls' st' M') : W p l e R s m args below meth c H locs cells slots Q (F0 m pc L (zcs (zad base ex) st)) := by
  obtain ⟨hx, hb, hown, ho, hts, hE, hini, hml, hRf, hRl, hs0⟩ := id C
  obtain ⟨h1, h2, hS, hF, ws, tys, hR, hP, hK⟩ := id hM
  simp only [zs1] at h
  split at h
  · rename_i ci b2 p2 hlk
    split at h
    · rename_i q hq
      split at h
      · rename_i hM1
        cases h
        obtain ⟨q2, hq2, hw⟩ := z_lk3 ho hlk
        rw [hq] at hq2
        cases hq2
        obtain ⟨z1, z2, z3⟩ := zcls_ok _ _ hq
        obtain ⟨z4, z5⟩ := zw_cls _ _ hq
        have e1 : (zpush M (.inr (ci, zdef ci q.2.2))).1 = M.1 + 1 := rfl
        have e2 : (zpush M (.inr (ci, zdef ci q.2.2))).2.1 = M.2.1 + q.2.2 := by
          show M.2.1 + (zdef ci q.2.2).length = _
          rw [zdef_len]
        rw [e1] at hRc
        rw [e2] at hRs
        refine va_new (ci := ci) (fs := zdef ci q.2.2) (N := q.2.2) hx hb hts z1 _ z2 hown (hts _ hw) (hts _ z4) (hts _ z5) hK hP (hR.D h1) hS (fun q hq => Nat.le_trans h2 hq) hq (fun j hj => zdef_get hj) (by omega) (by omega) hd (fun q0 H1 hP1 hD1 hS1 => ?_)
        refine W.size (fun hsz => ?_)
        have hq0 := z_fresh hP1 hD1 hR hM1 (by omega)
        subst hq0
        have hK1 : va_K (dC, dI) zcls (tys ++ []) s := by rw [List.append_nil]; exact hK
        exact kk L H1 locs (cells + 1) (slots + q.2.2) (by rw [e1]; omega) (by rw [e2]; omega) hl (zMid.new h2 hF hR hK1 hM1 (show _ = _ by rw [zcs_def]) (fun n2 f2 hz j => by cases hz) hP1 hS1)
      · cases h
    · cases h
  · cases h
theorem z_ldc {x : Nat} (C : zCtx p s m args meth c R cc base ex X own ini nL c0) (hd : decode cc pc = .ok (.ldc x, 2)) (h : zs1 X own ini pc ls st M (.ldc x) = some (pc', ls', st', M')) (hl : lv_has L nL (zcl (zad base ex) ls)) (hM : zMid base ex dC dI s M H locs) (hcc : cells + c0 = M.1) (hss : slots + s0 = M.2.1)
    (kk : zGo p l e R s m args below meth c Q base ex dC dI nL c0 s0 pc' ls' st' M') : W p l e R s m args below meth c H locs cells slots Q (F0 m pc L (zcs (zad base ex) st)) := by
  obtain ⟨hx, hb, hown, ho, hts, hE, hini, hml, hRf, hRl, hs0⟩ := id C
  obtain ⟨h1, h2, hS, hF, ws, tys, hR, hP, hK⟩ := id hM
  simp only [zs1] at h
  split at h
  · rename_i a b2 p2 hlk
    cases h
    exact lv_ldc hx hb hown (hts _ (z_lk ho hlk (show (5 : Nat) ≠ 7 by decide) rfl rfl)) hd (kk L H locs cells slots hcc hss hl hM)
  · rename_i a b2 p2 hlk
    cases h
    obtain ⟨tx, htx⟩ := hE.2.2.2.2.2.2.2.2.1 own x _ ho hlk rfl
    have hgo := kk L H locs cells slots hcc hss hl hM
    rw [zcs_cons] at hgo
    have hz : zcv (zad base ex) (.ref (1000000 + a)) = .ref (ex a) := congrArg Value.ref (zad_out base ex a)
    rw [hz] at hgo
    exact va_ldcS hx hb hown htx hd hgo
  · cases h
theorem z_ldc_w {x : Nat} (C : zCtx p s m args meth c R cc base ex X own ini nL c0) (hd : decode cc pc = .ok (.ldc_w x, 3)) (h : zs1 X own ini pc ls st M (.ldc_w x) = some (pc', ls', st', M')) (hl : lv_has L nL (zcl (zad base ex) ls)) (hM : zMid base ex dC dI s M H locs) (hcc : cells + c0 = M.1) (hss : slots + s0 = M.2.1)
    (kk : zGo p l e R s m args below meth c Q base ex dC dI nL c0 s0 pc' ls' st' M') : W p l e R s m args below meth c H locs cells slots Q (F0 m pc L (zcs (zad base ex) st)) := by
  obtain ⟨hx, hb, hown, ho, hts, hE, hini, hml, hRf, hRl, hs0⟩ := id C
  obtain ⟨h1, h2, hS, hF, ws, tys, hR, hP, hK⟩ := id hM
  simp only [zs1] at h
  split at h
  · rename_i a b2 p2 hlk
    cases h
    exact lv_ldcw hx hb hown (hts _ (z_lk ho hlk (show (5 : Nat) ≠ 7 by decide) rfl rfl)) hd (kk L H locs cells slots hcc hss hl hM)
  · cases h
theorem z_ldc2_w {x : Nat} (C : zCtx p s m args meth c R cc base ex X own ini nL c0) (hd : decode cc pc = .ok (.ldc2_w x, 3)) (h : zs1 X own ini pc ls st M (.ldc2_w x) = some (pc', ls', st', M')) (hl : lv_has L nL (zcl (zad base ex) ls)) (hM : zMid base ex dC dI s M H locs) (hcc : cells + c0 = M.1) (hss : slots + s0 = M.2.1)
    (kk : zGo p l e R s m args below meth c Q base ex dC dI nL c0 s0 pc' ls' st' M') : W p l e R s m args below meth c H locs cells slots Q (F0 m pc L (zcs (zad base ex) st)) := by
  obtain ⟨hx, hb, hown, ho, hts, hE, hini, hml, hRf, hRl, hs0⟩ := id C
  obtain ⟨h1, h2, hS, hF, ws, tys, hR, hP, hK⟩ := id hM
  simp only [zs1] at h
  split at h
  · rename_i a b2 p2 hlk
    cases h
    exact lv_ldc2 hx hb hown (hts _ (z_lk ho hlk (show (6 : Nat) ≠ 7 by decide) rfl rfl)) hd (kk L H locs cells slots hcc hss hl hM)
  · cases h
theorem z_getstatic {x : Nat} (C : zCtx p s m args meth c R cc base ex X own ini nL c0) (hd : decode cc pc = .ok (.getstatic x, 3)) (h : zs1 X own ini pc ls st M (.getstatic x) = some (pc', ls', st', M')) (hl : lv_has L nL (zcl (zad base ex) ls)) (hM : zMid base ex dC dI s M H locs) (hcc : cells + c0 = M.1) (hss : slots + s0 = M.2.1)
    (kk : zGo p l e R s m args below meth c Q base ex dC dI nL c0 s0 pc' ls' st' M') : W p l e R s m args below meth c H locs cells slots Q (F0 m pc L (zcs (zad base ex) st)) := by
  obtain ⟨hx, hb, hown, ho, hts, hE, hini, hml, hRf, hRl, hs0⟩ := id C
  obtain ⟨h1, h2, hS, hF, ws, tys, hR, hP, hK⟩ := id hM
  simp only [zs1] at h
  split at h
  · rename_i a b2 p2 hlk
    split at h
    · rename_i ha
      cases h
      have hgo := kk L H locs cells slots hcc hss hl hM
      rw [zcs_cons] at hgo
      have hz : zcv (zad base ex) (.ref (1000000 + a)) = .ref (ex a) := congrArg Value.ref (zad_out base ex a)
      rw [hz] at hgo
      have hw := z_lkN ho hlk (show (8 : Nat) ≠ 7 by decide) rfl rfl
      have hw2 := va_Nw.use (A := args) rfl (hE.2.2.2.2.2.1 _ hw)
      rcases ha with rfl | rfl | rfl
      · exact va_getsN hx hb hE.2.2.1.2 hS hown hw2 (fun _ h => h) hd hgo
      · exact va_getsN hx hb hE.2.2.2.1.2 hS hown hw2 (fun _ h => h) hd hgo
      · exact va_getsN hx hb hE.2.2.2.2.1.2 hS hown hw2 (fun _ h => h) hd hgo
    · cases h
  · cases h
theorem zcs_cat {ad : Nat → Nat} (st : List Value) : ((zcs ad st).map fun v => v.category).sum = (st.map fun v => v.category).sum := by
  unfold zcs
  rw [List.map_map]
  refine congrArg List.sum (congrArg (fun f => List.map f st) (funext fun v => ?_))
  exact zcv_cat ad v
theorem z_objinit {x : Nat} (C : zCtx p s m args meth c R cc base ex X own ini nL c0) (hd : decode cc pc = .ok (.invokespecial x, 3)) (h : zs1 X own ini pc ls st M (.invokespecial x) = some (pc', ls', st', M')) (hl : lv_has L nL (zcl (zad base ex) ls)) (hM : zMid base ex dC dI s M H locs) (hcc : cells + c0 = M.1) (hss : slots + s0 = M.2.1)
    (kk : zGo p l e R s m args below meth c Q base ex dC dI nL c0 s0 pc' ls' st' M') : W p l e R s m args below meth c H locs cells slots Q (F0 m pc L (zcs (zad base ex) st)) := by
  obtain ⟨hx, hb, hown, ho, hts, hE, hini, hml, hRf, hRl, hs0⟩ := id C
  obtain ⟨h1, h2, hS, hF, ws, tys, hR, hP, hK⟩ := id hM
  simp only [zs1] at h
  split at h
  · rename_i a b2 p2 hlk
    split at h
    · rename_i q r
      split at h
      · rename_i hr8
        cases h
        refine W.objInit hx hb hown (hts _ (z_lk ho hlk (show (9 : Nat) ≠ 7 by decide) rfl rfl)) (hts _ zw_obj1) (hts _ zw_obj2) rfl (hl.1.trans hml.symm) rfl hd hRf ?_ (kk L H locs cells slots hcc hss hl hM)
        show 2 * 0 + _ + 12 ≤ _
        have := zcs_cat (ad := zad base ex) st'
        unfold zcs at this
        omega
      · cases h
    · cases h
  · cases h
theorem z_arraycopy {x : Nat} (C : zCtx p s m args meth c R cc base ex X own ini nL c0) (hd : decode cc pc = .ok (.invokestatic x, 3)) (h : zs1 X own ini pc ls st M (.invokestatic x) = some (pc', ls', st', M')) (hl : lv_has L nL (zcl (zad base ex) ls)) (hM : zMid base ex dC dI s M H locs) (hcc : cells + c0 = M.1) (hss : slots + s0 = M.2.1)
    (kk : zGo p l e R s m args below meth c Q base ex dC dI nL c0 s0 pc' ls' st' M') : W p l e R s m args below meth c H locs cells slots Q (F0 m pc L (zcs (zad base ex) st)) := by
  obtain ⟨hx, hb, hown, ho, hts, hE, hini, hml, hRf, hRl, hs0⟩ := id C
  obtain ⟨h1, h2, hS, hF, ws, tys, hR, hP, hK⟩ := id hM
  simp only [zs1] at h
  split at h
  · rename_i a2 b2 p2 hlk
    split at h
    · rename_i n dp a sp a0 r
      split at h
      · rename_i t0 n0 f he0
        split at h
        · rename_i t1 n1 g he1
          split at h
          · cases h
          · rename_i hc
            cases h
            simp only [not_or, Classical.not_not] at hc
            obtain ⟨c1, c2, c3, c4, c5, c6, c7, c8⟩ := hc
            subst c6
            obtain ⟨w0, hw0, ⟨cA0, i0, ht0, hrl0⟩, hlt0⟩ := hR.ent he0
            subst hrl0
            obtain ⟨w1, hw1, ⟨cA1, i1, ht1, hrl1⟩, hlt1⟩ := hR.ent he1
            subst hrl1
            have fitf : t0 = 1 → ∀ k, fits .byte (.int (f k)) = true := by
              intro z
              subst z
              unfold zob at he0
              rw [if_pos hlt0] at he0
              exact hF a0 n0 f (Option.some.inj he0)
            have fitg : t0 = 1 → ∀ k, fits .byte (.int (g k)) = true := by
              intro z
              subst z
              unfold zob at he1
              rw [if_pos hlt1] at he1
              exact hF a n1 g (Option.some.inj he1)
            have hty : (t0 = 0 ∧ zty t0 = .int) ∨ (t0 = 1 ∧ zty t0 = .byte) := by
              rcases (show t0 = 0 ∨ t0 = 1 by omega) with z | z
              · subst z; exact Or.inl ⟨rfl, rfl⟩
              · subst z; exact Or.inr ⟨rfl, rfl⟩
            have hprim : refKind (zty t0) = false := by
              rcases hty with ⟨-, z⟩ | ⟨-, z⟩ <;> rw [z] <;> rfl
            refine va_copyi hx hb (hml.trans hl.1.symm) hown (hts _ (z_lk ho hlk (show (10 : Nat) ≠ 7 by decide) rfl rfl)) (hts _ zw_cpy1) (hts _ zw_cpy2) (hts _ zw_cpy3) hK hP (hR.D h1) hS a0 a i0 i1 hw0 hw1 ht0 ht1 hprim c1 c2 c3 c4 c5 (fun k hk => ?_) hRf ?_ hd (fun H1 locs1 hP1 hD1 hS1 => kk L H1 locs1 cells slots hcc hss hl (zMid.write h1 h2 hF hR hK hlt1 ⟨cA1, i1, ht1, rfl⟩ (fun n2 f2 hz k => ?_) hP1 hS1))
            · rcases hty with ⟨-, z⟩ | ⟨z1, z⟩
              · rw [z]; rfl
              · rw [z]; exact fitf z1 _
            · have := zcs_cat (ad := zad base ex) st'
              have e7 : nativeFrameWords "java/lang/System" "arraycopy" 5 = 7 := by decide +kernel
              rw [e7]
              unfold zcs at this
              omega
            · cases hz
              unfold va_cpy
              split
              · exact fitf rfl _
              · exact fitg rfl _
        · cases h
      · cases h
    · cases h
  · cases h
theorem zstr_at {base : Nat} {ex : Nat → Nat} {U : State} {Hp : Heap} (hST : vk_S 13 (zstr.map List.length) zstr ex (fun i => ex (20 + i)) (zA base) U Hp) {q : Nat} (hq : 1000020 ≤ q ∧ q < 1000033) : va_T .byte (zad base ex q) (zsb (q - 1000020)).length (fun j => .int ((zsb (q - 1000020)).getD j 0)) (zA base) U Hp := by
  have h := (hST.1 (q - 1000020) (by omega)).2.2.2
  have e1 : zad base ex q = ex (20 + (q - 1000020)) := by
    unfold zad
    rw [if_neg (by omega)]
    exact congrArg ex (by omega)
  have e2 : (zstr.map List.length).getD (q - 1000020) 0 = (zsb (q - 1000020)).length := by
    unfold zsb
    simp only [List.getD_eq_getElem?_getD, List.getElem?_map]
    cases zstr[q - 1000020]? <;> rfl
  rw [e2] at h
  rw [e1]
  exact h
theorem z_sgetfield {x : Nat} (C : zCtx p s m args meth c R cc base ex X own ini nL c0) (hd : decode cc pc = .ok (.getfield x, 3)) (h : zs3 X own pc ls st M (.getfield x) = some (pc', ls', st', M')) (hl : lv_has L nL (zcl (zad base ex) ls)) (hM : zMid base ex dC dI s M H locs) (hcc : cells + c0 = M.1) (hss : slots + s0 = M.2.1)
    (kk : zGo p l e R s m args below meth c Q base ex dC dI nL c0 s0 pc' ls' st' M') : W p l e R s m args below meth c H locs cells slots Q (F0 m pc L (zcs (zad base ex) st)) := by
  obtain ⟨hx, hb, hown, ho, hts, hE, hini, hml, hRf, hRl, hs0⟩ := id C
  obtain ⟨h1, h2, hS, hF, ws, tys, hR, hP, hK⟩ := id hM
  obtain ⟨-, -, -, -, -, -, -, -, -, hST, hCS, hSF⟩ := hE
  simp only [zs3] at h
  split at h
  · rename_i a b2 p2 hlk
    split at h
    · rename_i q r
      by_cases hq : 1000000 ≤ q ∧ q < 1000013
      · rw [if_pos hq] at h
        have hq : @LE.le Nat _ 1000000 q ∧ @LT.lt Nat _ q 1000013 := hq
        have e1 : zad base ex q = ex (q - 1000000) := by
          unfold zad
          rw [if_neg (by omega)]
        have hs := hST.1 (q - 1000000) (by omega)
        have hz : zcs (zad base ex) (.ref q :: r) = .ref (ex (q - 1000000)) :: zcs (zad base ex) r := by rw [zcs_cons]; exact congrArg (fun z => Value.ref z :: zcs (zad base ex) r) e1
        split at h
        · rename_i ha
          subst ha
          cases h
          have hgo := kk L H locs cells slots hcc hss hl hM
          have e2 : zad base ex (q + 20) = ex (20 + (q - 1000000)) := by
            unfold zad
            rw [if_neg (by omega)]
            exact congrArg ex (by omega)
          have hz2 : zcs (zad base ex) (.ref (q + 20) :: r) = .ref (ex (20 + (q - 1000000))) :: zcs (zad base ex) r := by rw [zcs_cons]; exact congrArg (fun z => Value.ref z :: zcs (zad base ex) r) e2
          rw [hz2] at hgo
          rw [hz]
          exact vk_getf hx hb hs.2.2.1 hS hown (hts _ (z_lk ho hlk (show (11 : Nat) ≠ 7 by decide) rfl rfl)) (fun _ h => h) hd hgo
        · split at h
          · rename_i ha
            subst ha
            cases h
            rw [hz]
            exact vk_getf hx hb hs.2.1 hS hown (hts _ (z_lk ho hlk (show (11 : Nat) ≠ 7 by decide) rfl rfl)) (fun _ h => h) hd (kk L H locs cells slots hcc hss hl hM)
          · cases h
      · rw [if_neg hq] at h
        cases h
    · cases h
  · cases h
theorem z_sarraylength (C : zCtx p s m args meth c R cc base ex X own ini nL c0) (hd : decode cc pc = .ok (.arraylength, 1)) (h : zs3 X own pc ls st M (.arraylength) = some (pc', ls', st', M')) (hl : lv_has L nL (zcl (zad base ex) ls)) (hM : zMid base ex dC dI s M H locs) (hcc : cells + c0 = M.1) (hss : slots + s0 = M.2.1)
    (kk : zGo p l e R s m args below meth c Q base ex dC dI nL c0 s0 pc' ls' st' M') : W p l e R s m args below meth c H locs cells slots Q (F0 m pc L (zcs (zad base ex) st)) := by
  obtain ⟨hx, hb, hown, ho, hts, hE, hini, hml, hRf, hRl, hs0⟩ := id C
  obtain ⟨h1, h2, hS, hF, ws, tys, hR, hP, hK⟩ := id hM
  obtain ⟨-, -, -, -, -, -, -, -, -, hST, hCS, hSF⟩ := hE
  simp only [zs3] at h
  split at h
  · rename_i q r
    split at h
    · rename_i hq
      cases h
      exact va_tlen hx hb (zstr_at hST hq) hS rfl hd (kk L H locs cells slots hcc hss hl hM)
    · cases h
  · cases h
theorem z_sbaload (C : zCtx p s m args meth c R cc base ex X own ini nL c0) (hd : decode cc pc = .ok (.baload, 1)) (h : zs3 X own pc ls st M (.baload) = some (pc', ls', st', M')) (hl : lv_has L nL (zcl (zad base ex) ls)) (hM : zMid base ex dC dI s M H locs) (hcc : cells + c0 = M.1) (hss : slots + s0 = M.2.1)
    (kk : zGo p l e R s m args below meth c Q base ex dC dI nL c0 s0 pc' ls' st' M') : W p l e R s m args below meth c H locs cells slots Q (F0 m pc L (zcs (zad base ex) st)) := by
  obtain ⟨hx, hb, hown, ho, hts, hE, hini, hml, hRf, hRl, hs0⟩ := id C
  obtain ⟨h1, h2, hS, hF, ws, tys, hR, hP, hK⟩ := id hM
  obtain ⟨-, -, -, -, -, -, -, -, -, hST, hCS, hSF⟩ := hE
  simp only [zs3] at h
  split at h
  · rename_i j q r
    split at h
    · rename_i hq
      split at h
      · cases h
      · rename_i hin
        cases h
        exact va_tb hx hb (zstr_at hST hq) hS hin rfl hd (kk L H locs cells slots hcc hss hl hM)
    · cases h
  · cases h
theorem z_sgetstatic {x : Nat} (C : zCtx p s m args meth c R cc base ex X own ini nL c0) (hd : decode cc pc = .ok (.getstatic x, 3)) (h : zs3 X own pc ls st M (.getstatic x) = some (pc', ls', st', M')) (hl : lv_has L nL (zcl (zad base ex) ls)) (hM : zMid base ex dC dI s M H locs) (hcc : cells + c0 = M.1) (hss : slots + s0 = M.2.1)
    (kk : zGo p l e R s m args below meth c Q base ex dC dI nL c0 s0 pc' ls' st' M') : W p l e R s m args below meth c H locs cells slots Q (F0 m pc L (zcs (zad base ex) st)) := by
  obtain ⟨hx, hb, hown, ho, hts, hE, hini, hml, hRf, hRl, hs0⟩ := id C
  obtain ⟨h1, h2, hS, hF, ws, tys, hR, hP, hK⟩ := id hM
  obtain ⟨-, -, -, -, -, -, -, -, -, hST, hCS, hSF⟩ := hE
  simp only [zs3] at h
  split at h
  · rename_i a b2 p2 hlk
    cases h
    exact va_gets hx hb hCS hS hown (hts _ (z_lk ho hlk (show (12 : Nat) ≠ 7 by decide) rfl rfl)) (fun _ h => h) hd (kk L H locs cells slots hcc hss hl hM)
  · rename_i a b2 p2 hlk
    cases h
    have hgo := kk L H locs cells slots hcc hss hl hM
    rw [zcs_cons] at hgo
    have hz : zcv (zad base ex) (if X.2.2 = 0 then .null else .ref 1000040) = (if X.2.2 = 0 then .null else .ref (ex 40)) := by
      split
      · rfl
      · exact congrArg Value.ref (zad_out base ex 40)
    rw [hz] at hgo
    exact va_gets hx hb hSF hS hown (hts _ (z_lk ho hlk (show (13 : Nat) ≠ 7 by decide) rfl rfl)) (fun _ h => h) hd hgo
  · cases h
end ZS1
end
section
/-! THE EVALUATOR, 2: calls, returns, whole methods -/
/-- name, bytes, locals, answer, parameters, class, kind (0 static, 1 of an object, 2 constructor), instructions -/
abbrev zMe : Type := MethodName × ByteArray × Nat × Option FieldType × Nat × Nat × Nat × (Nat → Option (Instr × Nat))
def zret (ret : Option FieldType) (i : Instr) (st : List Value) : Option (Option Value) := match i with
  | .return_ => match ret, st with
    | none, [] => some none
    | _, _ => none
  | .ireturn => match ret, st with
    | some ty, [.int v] => if narrow ty (.int v) = .int v then some (some (.int v)) else none
    | _, _ => none
  | .lreturn => match ret, st with
    | some .long, [.long v] => some (some (.long v))
    | _, _ => none
  | .areturn => match ret, st with
    | some (.object _), [.ref a] => some (some (.ref a))
    | some (.object _), [.null] => some (some .null)
    | _, _ => none
  | _ => none
def zs2 (meth : Nat → Option zMe) (call : Nat → List Value → zM → Option (Option Value × zM)) (own : Nat) (pc : Nat) (ls : zL) (st : List Value) (M : zM) (i : Instr) : zR := match i with
  | .invokevirtual x => match zlk own x with
    | some (t, a, n, _) => (match meth a with
      | some r => (match st.drop n with
        | .ref b :: rest => if 1000000 ≤ b ∧ b < 1000013 then (if (t = 1 ∨ t = 2) ∧ zmn a = r.1 ∧ r.2.2.2.2.1 = n ∧ r.2.2.2.2.2.2.1 = 1 ∧ "java/lang/String" = r.1.cls ∧ (st.take n).length = n ∧ (rest.map fun v => v.category).sum ≤ 8 then (match call a (.ref b :: (st.take n).reverse) M with
                | some (v, M') => some (pc + 3, ls, v.toList ++ rest, M')
                | none => none) else none) else (match zob M b with
          | some (.inr (ci, _)) => (match zcls[ci]? with
            | some q => if (t = 1 ∨ t = 2) ∧ zmn a = r.1 ∧ r.2.2.2.2.1 = n ∧ r.2.2.2.2.2.2.1 = 1 ∧ q.1 = r.1.cls ∧ (st.take n).length = n ∧ (rest.map fun v => v.category).sum ≤ 8 then (match call a (.ref b :: (st.take n).reverse) M with
                | some (v, M') => some (pc + 3, ls, v.toList ++ rest, M')
                | none => none) else none
            | none => none)
          | _ => none)
        | _ => none)
      | none => none)
    | none => none
  | .invokespecial x => match zlk own x with
    | some (t, a, n, _) => (match meth a with
      | some r => (match st.drop n with
        | .ref b :: rest => if (t = 1 ∨ t = 2) ∧ zmn a = r.1 ∧ r.2.2.2.2.1 = n ∧ r.2.2.2.2.2.2.1 = 2 ∧ (st.take n).length = n ∧ (rest.map fun v => v.category).sum ≤ 8 then (match call a (.ref b :: (st.take n).reverse) M with
            | some (v, M') => some (pc + 3, ls, v.toList ++ rest, M')
            | none => none) else none
        | _ => none)
      | none => none)
    | none => none
  | .invokestatic x => match zlk own x with
    | some (t, a, n, _) => (match meth a with
      | some r => if (t = 1 ∨ t = 2) ∧ zmn a = r.1 ∧ r.2.2.2.2.1 = n ∧ r.2.2.2.2.2.2.1 = 0 ∧ (st.take n).length = n ∧ ((st.drop n).map fun v => v.category).sum ≤ 8 then (match call a (st.take n).reverse M with
          | some (v, M') => some (pc + 3, ls, v.toList ++ st.drop n, M')
          | none => none) else none
      | none => none)
    | none => none
  | _ => none
def zstep (X : zX) (meth : Nat → Option zMe) (call : Nat → List Value → zM → Option (Option Value × zM)) (r : zMe) (pc : Nat) (ls : zL) (st : List Value) (M : zM) (i : Instr) (len : Nat) : zR := match zs0 pc ls st r.2.2.1 i len with
  | some (pc', ls', st') => some (pc', ls', st', M)
  | none => match zs1 X r.2.2.2.2.2.1 (r.2.2.2.2.2.2.1 == 2) pc ls st M i with
    | some q => some q
    | none => match zs3 X r.2.2.2.2.2.1 pc ls st M i with
      | some q => some q
      | none => zs2 meth call r.2.2.2.2.2.1 pc ls st M i
def zrun (X : zX) (meth : Nat → Option zMe) (call : Nat → List Value → zM → Option (Option Value × zM)) (r : zMe) : Nat → Nat → zL → List Value → zM → Option (Option Value × zM)
  | 0, _, _, _, _ => none
  | n + 1, pc, ls, st, M => match r.2.2.2.2.2.2.2 pc with
    | none => none
    | some (i, len) => if zlok i len = true then (match zret r.2.2.2.1 i st with
      | some v => some (v, M)
      | none => match zstep X meth call r pc ls st M i len with
        | some (pc', ls', st', M') => zrun X meth call r n pc' ls' st' M'
        | none => none) else none
abbrev zCall : Type := Nat → List Value → zM → Option (Option Value × zM)
/-- ov: what is known of some methods, in the place of their code -/
def zev (th : Nat) (X : zX) (meth : Nat → Option zMe) (ov : zCall) : Nat → Nat → zCall
  | 0, _, _, _, _ => none
  | d + 1, n, a, args, M => match ov a args M with
    | some q => if th ≤ d + 1 then some q else none
    | none => match meth a with
      | none => none
      | some r => if (lg_sl args).length ≤ r.2.2.1 then zrun X meth (zev th X meth ov d n) r n 0 (lv_args 0 args) [] M else none
end
section
/-! THE ROWS OF THE EVALUATOR, 2: calls, returns, whole methods -/
def zOK (r : zMe) : Prop := Cond.code r.1 r.2.1 r.2.2.1 r.2.2.2.1 ∈ zW ∧ Cond.initialized r.1.cls ∈ zW ∧ (r.1.cls ≠ "java/lang/invoke/MethodHandle" ∧ r.1.cls ≠ "java/lang/invoke/VarHandle" ∧ (parseMethodDescriptor r.1.desc).map (fun d => d.parameters.length) = some r.2.2.2.2.1) ∧ plainName r.1.cls = true ∧ r.2.2.1 ≤ 40 ∧ (r.2.2.2.2.2.1 < 21 ∧ zown r.2.2.2.2.2.1 = r.1.cls) ∧
  (r.2.2.2.2.2.2.1 = 0 → Cond.static r.1 ∈ zW) ∧ (r.2.2.2.2.2.2.1 = 1 → Cond.instanceMethod r.1 ∈ zW ∧ Cond.selects r.1.cls r.1 r.1 ∈ zW) ∧ (r.2.2.2.2.2.2.1 = 2 → Cond.instanceMethod r.1 ∈ zW ∧ r.1.name = "<init>" ∧ r.2.2.2.1 = none) ∧
  (∀ pc x, r.2.2.2.2.2.2.2 pc = some x → decode r.2.1 pc = .ok x)
def zws (r : zMe) : List Cond := Cond.code r.1 r.2.1 r.2.2.1 r.2.2.2.1 :: zW
def zrm (d mc ms : Nat) : Room := { frames := d, cells := mc, slots := ms, locals := 200 * d }
def zWld (base : Nat) (ex : Nat → Nat) (dC : Nat → ClassId) (dI : Nat → Nat → Nat) (X : zX) (M : zM) (U : State) : Prop :=
  U.heap.size = base + M.1 ∧ zMid base ex dC dI U M U.heap [] ∧ zExt base ex X U U.heap
def zQc (base : Nat) (ex : Nat → Nat) (dC : Nat → ClassId) (dI : Nat → Nat → Nat) (X : zX) (v : Option Value) (M' : zM) : Array Value → State → Outcome → State → Prop := fun _ st o t =>
  o = .returned (v.map (zcv (zad base ex))) ∧ zWld base ex dC dI X M' t ∧ va_F (zA base) st t
def zMet (l : Launch) (base : Nat) (ex : Nat → Nat) (dC : Nat → ClassId) (dI : Nat → Nat → Nat) (X : zX) (d : Nat) (r : zMe) (args : List Value) (M : zM) (v : Option Value) (M' : zM) : Prop :=
  Met l r.1 (zws r) (zrm d (M'.1 - M.1) (M'.2.1 - M.2.1)) (va_Pc (zcs (zad base ex) args) (zWld base ex dC dI X M)) (zQc base ex dC dI X v M') (M'.1 - M.1) (M'.2.1 - M.2.1) (zA base)
theorem zExt.to {base : Nat} {ex : Nat → Nat} {X : zX} {u U : State} {H0 H1 : Heap} (h : zExt base ex X u H0) (hW : u.WarmedH U.vm) (hq : ∀ q : Nat, q < base → H1[q]? = H0[q]?) : zExt base ex X U H1 := by
  obtain ⟨h1, h2, ⟨a1, a2⟩, ⟨b1, b2⟩, ⟨c1, c2⟩, h3, h4, h5, h6, h7, h8, h9⟩ := h
  have hA := hW.alike
  have hk : ∀ a : Nat, a < H0.size → ¬ zA base a → H1[a]? = H0[a]? := fun a _ h => hq a (Nat.not_le.mp h)
  refine ⟨(h1.moved hA).kept (hq _ h2), h2, ⟨(a1.moved hA).kept hk, (a2.moved hA).kept hk⟩, ⟨(b1.moved hA).kept hk, (b2.moved hA).kept hk⟩, ⟨(c1.moved hA).kept hk, (c2.moved hA).kept hk⟩, fun w hw => ?_, h4.moved hA, h5.moved hA, fun o k r ho hr h7 => ?_, (h7.moved hA).kept hk, (h8.moved hA).kept hk, (h9.moved hA).kept hk⟩
  · have hz := (List.mem_filter.mp hw).2
    have hw2 := h3 w hw
    cases w <;> first | (exact va_Nw.warmM hW hw2) | (exact va_Nw.warmF hW hw2) | (simp at hz)
  · obtain ⟨tx, ht⟩ := h6 o k r ho hr h7
    exact ⟨tx, ht.warm hW⟩
theorem zWld.to {base : Nat} {ex : Nat → Nat} {dC : Nat → ClassId} {dI : Nat → Nat → Nat} {X : zX} {M : zM} {u U : State} (h : zWld base ex dC dI X M u) (hW : u.WarmedH U.vm) (hH : U.heap = u.heap) : zWld base ex dC dI X M U := by
  obtain ⟨h1, ⟨g1, g2, g3, g4, ws, tys, g5, g6, g7⟩, h3⟩ := h
  refine ⟨by rw [hH]; exact h1, ⟨g1, by rw [hH]; exact g2, va_S.rf, g4, ws, tys, g5, by rw [hH]; exact g6, va_K.moved hW.alike g7⟩, h3.to hW (fun q _ => by rw [hH])⟩
theorem zWld.blind {base : Nat} {ex : Nat → Nat} {dC : Nat → ClassId} {dI : Nat → Nat → Nat} {X : zX} {M : zM} {av : List Value} : FrameBlind (va_Pc av (zWld base ex dC dI X M)) := fun a U g mk q => ⟨q.1, zWld.to (U := U.calling g mk a) q.2 (State.WarmedH.refl U) rfl⟩
section ZS2
variable {p : Program} {l : Launch} {e : Env} {R : Room} {s : State} {m : MethodId} {args : Array Value} {below : List Frame} {meth : Method} {c : Code} {H : Heap} {locs : List Loc} {cells slots : Nat} {Q : State → Prop} {cc : ByteArray} {base : Nat} {ex : Nat → Nat} {dC : Nat → ClassId} {dI : Nat → Nat → Nat} {X : zX} {own : Nat} {ini : Bool} {pc nL len pc' c0 s0 : Nat} {i : Instr} {ls ls' : zL} {st st' : List Value} {M M' : zM} {L : Array Slot}
/-- what stands in the midst of a method, as another one sees it that is called there -/
theorem zMid.wld (C : zCtx p s m args meth c R cc base ex X own ini nL c0) (hM : zMid base ex dC dI s M H locs) (hsz : H.size ≤ base + M.1) {U : State} (hU : U.heap = H) (hW : s.WarmedH U.vm) : zWld base ex dC dI X M U := by
  obtain ⟨hx, hb, hown, ho, hts, hE, hini, hml, hRf, hRl, hs0⟩ := id C
  obtain ⟨h1, h2, hS, hF, ws, tys, hR, hP, hK⟩ := id hM
  have hge : base + M.1 ≤ H.size := by
    by_cases hz : M.1 = 0
    · rw [hz]
      exact Nat.le_trans h2 hS.1
    · obtain ⟨w, hw, -⟩ := hR.2 (M.1 - 1) (by omega)
      have h3 : zad base ex (M.1 - 1) < H.size := (hP (M.1 - 1) _ hw).lt
      unfold zad at h3
      rw [if_pos (by omega)] at h3
      omega
  refine ⟨by rw [hU]; omega, ⟨h1, by rw [hU]; exact Nat.le_trans h2 hS.1, va_S.rf, hF, ws, tys, hR, by rw [hU]; exact hP, va_K.moved hW.alike hK⟩, hE.to hW (fun q hq => ?_)⟩
  rw [hU]
  exact hS.2.1 q (Nat.lt_of_lt_of_le hq h2) (Nat.not_le.mpr hq)
theorem z_back {mc ms : Nat} {st0 rest : List Value} {a : Array Value} {v : Option Value} (C : zCtx p s m args meth c R cc base ex X own ini nL c0) (hr : va_Run p l e R s m args below meth c H locs cells slots mc ms (F0 m pc L st0) (zcs (zad base ex) rest) (zQc base ex dC dI X v M' a) (zA base)) (hM : zMid base ex dC dI s M H locs) (hl : lv_has L nL (zcl (zad base ex) ls)) (hcc : cells + mc + c0 = M'.1) (hss : slots + ms + s0 = M'.2.1)
    (kk : zGo p l e R s m args below meth c Q base ex dC dI nL c0 s0 (pc + 3) ls (v.toList ++ rest) M') : W p l e R s m args below meth c H locs cells slots Q (F0 m pc L st0) := by
  obtain ⟨hx, hb, hown, ho, hts, hE, hini, hml, hRf, hRl, hs0⟩ := id C
  obtain ⟨h1, h2, hS, hF, ws, tys, hR, hP, hK⟩ := id hM
  intro T hT Y
  obtain ⟨v', st₀, t, T', Lc, g0, Y', hL, e1, e2, ⟨hv, hWd, hz, hk⟩, stp⟩ := hr T hT Y
  cases hv
  rw [g0] at hz hk
  obtain ⟨f1, ⟨f2, -, -, f3, ws', tys', f4, f5, f6⟩, -⟩ := hWd
  have hmid : zMid base ex dC dI s M' T'.heap (locs ++ Lc) := by
    refine ⟨f2, h2, ⟨Nat.le_trans hS.1 (by rw [e1]; exact hz), fun q q1 q2 => ?_, fun q hq => ?_⟩, f3, ws', tys', f4, by rw [e1]; exact f5, va_K.moved ?_ f6⟩
    · rw [e1, hk q (Nat.lt_of_lt_of_le q1 hS.1) q2]
      exact hS.2.1 q q1 q2
    · rcases List.mem_append.mp hq with h | h
      · exact hS.2.2 q h
      · exact hL q h
    · rw [← e2]
      exact Y'.warmed.alike.symm
  obtain ⟨t2, a1, b1⟩ := kk L T'.heap (locs ++ Lc) (cells + mc) (slots + ms) (by omega) (by omega) hl hmid T' rfl Y'
  refine ⟨t2, stp t2 ?_, b1⟩
  have hst : (v.map (zcv (zad base ex))).toList ++ zcs (zad base ex) rest = zcs (zad base ex) (v.toList ++ rest) := by cases v <;> rfl
  rw [hst]
  exact a1
end ZS2
end
section
/-! THE ROWS OF THE EVALUATOR, 3: calls -/
theorem zws_good {r : zMe} (h : zOK r) : GoodIn zW (zws r) := by
  intro w hw
  rcases List.mem_cons.mp hw with rfl | hw
  · exact zW_good _ h.1
  · exact zW_good _ hw
section ZS3
variable {p : Program} {l : Launch} {e : Env} {R : Room} {s : State} {m : MethodId} {args : Array Value} {below : List Frame} {meth : Method} {c : Code} {H : Heap} {locs : List Loc} {cells slots : Nat} {Q : State → Prop} {cc : ByteArray} {base : Nat} {ex : Nat → Nat} {dC : Nat → ClassId} {dI : Nat → Nat → Nat} {X : zX} {own : Nat} {ini : Bool} {pc nL len pc' c0 s0 d : Nat} {i : Instr} {ls ls' : zL} {st st' : List Value} {M M' : zM} {L : Array Slot}
variable {mt : Nat → Option zMe} {call : Nat → List Value → zM → Option (Option Value × zM)}
theorem zcs_rev {ad : Nat → Nat} (st : List Value) : zcs ad st.reverse = (zcs ad st).reverse := by simp [zcs, List.map_reverse]
theorem zcs_split {ad : Nat → Nat} {st rest : List Value} {n b : Nat} (h : st.drop n = .ref b :: rest) : zcs ad st = (zcs ad (st.take n).reverse).reverse ++ .ref (ad b) :: zcs ad rest := by
  rw [zcs_rev, List.reverse_reverse]
  have : st = st.take n ++ .ref b :: rest := by rw [← h]; exact (List.take_append_drop n st).symm
  conv => lhs; rw [this]
  unfold zcs
  rw [List.map_append]
  rfl
theorem zcs_split0 {ad : Nat → Nat} (st : List Value) (n : Nat) : zcs ad st = (zcs ad (st.take n).reverse).reverse ++ zcs ad (st.drop n) := by
  rw [zcs_rev, List.reverse_reverse]
  conv => lhs; rw [← List.take_append_drop n st]
  unfold zcs
  rw [List.map_append]
theorem z_lk1 {o x a n p : Nat} (ho : o < 21) (h : zlk o x = some (1, a, n, p)) : Cond.methodLink (zown o) x (zmn a) ∈ zW := z_lk ho h (show (1 : Nat) ≠ 7 by decide) rfl rfl
theorem z_lk2 {o x a n p : Nat} (ho : o < 21) (h : zlk o x = some (2, a, n, p)) : Cond.methodLinkNest (zown o) x (zmn a) "ForthHouse" ∈ zN := z_lkN ho h (show (2 : Nat) ≠ 7 by decide) rfl rfl
theorem z_s2 (C : zCtx p s m args meth c R cc base ex X own ini nL c0) (hOK : ∀ a r, mt a = some r → zOK r) (hcall : ∀ a av M v M', call a av M = some (v, M') → ∀ r, mt a = some r → zMet l base ex dC dI X d r av M v M') (hmono : ∀ a av M v M', call a av M = some (v, M') → M.1 ≤ M'.1 ∧ M.2.1 ≤ M'.2.1)
    (hRf : d + 1 ≤ R.frames) (hRl : 200 * (d + 1) ≤ R.locals) (hd : decode cc pc = .ok (i, len)) (hk : zlok i len = true) (h : zs2 mt call own pc ls st M i = some (pc', ls', st', M')) (hl : lv_has L nL (zcl (zad base ex) ls)) (hM : zMid base ex dC dI s M H locs) (hcc : cells + c0 = M.1) (hss : slots + s0 = M.2.1) (hRc : M'.1 ≤ R.cells + c0) (hRs : M'.2.1 ≤ R.slots + s0)
    (kk : zGo p l e R s m args below meth c Q base ex dC dI nL c0 s0 pc' ls' st' M') : W p l e R s m args below meth c H locs cells slots Q (F0 m pc L (zcs (zad base ex) st)) := by
  obtain ⟨hx, hb, hown, ho, hts, hE, hini, hml, -, -, hs0⟩ := id C
  refine W.size (fun hsz => ?_)
  have hsz : H.size ≤ base + M.1 := by omega
  have hblind : ∀ (av : List Value), FrameBlind (va_Pc av (zWld base ex dC dI X M)) := fun av => zWld.blind
  have hwld : ∀ (av : List Value) (U : State), U.heap = H → s.WarmedH U.vm → va_Pc av (zWld base ex dC dI X M) av.toArray U := fun av U hU hW => ⟨rfl, hM.wld C hsz hU hW⟩
  cases i
  case invokevirtual x =>
    have hk : len = 3 := by simpa [zlok] using hk
    subst hk
    simp only [zs2] at h
    split at h
    · rename_i t a n p0 hlk
      split at h
      · rename_i r hr
        split at h
        · rename_i b rest hst
          split at h
          · rename_i hbs
            split at h
            · rename_i hcnd
              split at h
              · rename_i v M1 hcv
                cases h
                obtain ⟨ct, cn, cp, ck, cq, cl, cw⟩ := hcnd
                obtain ⟨z1, z2, z3, z4, z5, z6, -, z7, -, z8⟩ := hOK a r hr
                obtain ⟨z71, z72⟩ := z7 ck
                have hMt := hcall _ _ _ _ _ hcv r hr
                obtain ⟨m1, m2⟩ := hmono _ _ _ _ _ hcv
                obtain ⟨h1, h2, hS, hF, ws, tys, hR, hP, hK⟩ := id hM
                have hbs : @LE.le Nat _ 1000000 b ∧ @LT.lt Nat _ b 1000013 := hbs
                have hrecv := vk_recv (i := b - 1000000) hE.2.2.2.2.2.2.2.2.2.1 (by omega) hS
                have e1 : ex (b - 1000000) = zad base ex b := by
                  unfold zad
                  rw [if_neg (by omega)]
                rw [cq, e1] at hrecv
                have hn : (zcs (zad base ex) (st.take n).reverse).length = n := by rw [zcs_len, List.length_reverse]; exact cl
                have hroom : (zrm d (M'.1 - M.1) (M'.2.1 - M.2.1)).frames + 1 ≤ R.frames ∧ 8 + (r.2.2.1 + 11) + (zrm d (M'.1 - M.1) (M'.2.1 - M.2.1)).locals ≤ R.locals := ⟨hRf, by show 8 + (r.2.2.1 + 11) + 200 * d ≤ R.locals; omega⟩
                have hdd : r.1.cls ≠ "java/lang/invoke/MethodHandle" ∧ r.1.cls ≠ "java/lang/invoke/VarHandle" ∧ (parseMethodDescriptor r.1.desc).map (fun d => d.parameters.length) = some n := by rw [← cp]; exact z3
                have hw8 : 2 * (F0 m pc L (zcs (zad base ex) st)).monitorRoom + ((zcs (zad base ex) rest).map fun v => v.category).sum ≤ 8 := by
                  show 2 * 0 + _ ≤ 8
                  rw [zcs_cat]
                  omega
                refine z_back C ?_ hM hl (mc := M'.1 - M.1) (ms := M'.2.1 - M.2.1) (by omega) (by omega) kk (a := (Value.ref (zad base ex b) :: zcs (zad base ex) (st.take n).reverse).toArray)
                rcases ct with rfl | rfl
                · have hlw := z_lk1 ho hlk
                  rw [cn] at hlw
                  exact va_runV (g := F0 m pc L (zcs (zad base ex) st)) ⟨hx, hb, hml, hown, hts⟩ hMt ⟨callB_of n hts (zws_good (hOK a r hr)) rfl rfl rfl (hts _ z2) (hts _ hlw) hdd hroom, hts _ z71, hts _ z72⟩ ⟨hblind _, hrecv, hwld _⟩ rfl hn hl.1 (zcs_split hst) hw8 hd ⟨by omega, by omega⟩
                · have hlw := hE.2.2.2.2.2.1 _ (z_lk2 ho hlk)
                  rw [cn] at hlw
                  exact va_runVN (g := F0 m pc L (zcs (zad base ex) st)) ⟨hx, hb, hml, hown, hts⟩ hMt ⟨va_cnB n hts (zws_good (hOK a r hr)) rfl rfl rfl hlw (hts _ z2) hdd hroom, hts _ z71, hts _ z72⟩ ⟨hblind _, hrecv, hwld _⟩ rfl hn hl.1 (zcs_split hst) hw8 hd ⟨by omega, by omega⟩
              · cases h
            · cases h
          · split at h
            · rename_i ci fs hob
              split at h
              · rename_i q hq
                split at h
                · rename_i hcnd
                  split at h
                  · rename_i v M1 hcv
                    cases h
                    obtain ⟨ct, cn, cp, ck, cq, cl, cw⟩ := hcnd
                    obtain ⟨z1, z2, z3, z4, z5, z6, -, z7, -, z8⟩ := hOK a r hr
                    obtain ⟨z71, z72⟩ := z7 ck
                    have hMt := hcall _ _ _ _ _ hcv r hr
                    obtain ⟨m1, m2⟩ := hmono _ _ _ _ _ hcv
                    obtain ⟨h1, h2, hS, hF, ws, tys, hR, hP, hK⟩ := id hM
                    obtain ⟨w, hw, hrl, hlt⟩ := hR.ent hob
                    have hw' : w = .inr (ci, zcs (zad base ex) fs) := hrl
                    subst hw'
                    have hrecv := va_recv hK hP hq hw
                    rw [cq] at hrecv
                    have hn : (zcs (zad base ex) (st.take n).reverse).length = n := by rw [zcs_len, List.length_reverse]; exact cl
                    have hroom : (zrm d (M'.1 - M.1) (M'.2.1 - M.2.1)).frames + 1 ≤ R.frames ∧ 8 + (r.2.2.1 + 11) + (zrm d (M'.1 - M.1) (M'.2.1 - M.2.1)).locals ≤ R.locals := ⟨hRf, by show 8 + (r.2.2.1 + 11) + 200 * d ≤ R.locals; omega⟩
                    have hdd : r.1.cls ≠ "java/lang/invoke/MethodHandle" ∧ r.1.cls ≠ "java/lang/invoke/VarHandle" ∧ (parseMethodDescriptor r.1.desc).map (fun d => d.parameters.length) = some n := by rw [← cp]; exact z3
                    have hw8 : 2 * (F0 m pc L (zcs (zad base ex) st)).monitorRoom + ((zcs (zad base ex) rest).map fun v => v.category).sum ≤ 8 := by
                      show 2 * 0 + _ ≤ 8
                      rw [zcs_cat]
                      omega
                    refine z_back C ?_ hM hl (mc := M'.1 - M.1) (ms := M'.2.1 - M.2.1) (by omega) (by omega) kk (a := (Value.ref (zad base ex b) :: zcs (zad base ex) (st.take n).reverse).toArray)
                    rcases ct with rfl | rfl
                    · have hlw := z_lk1 ho hlk
                      rw [cn] at hlw
                      exact va_runV (g := F0 m pc L (zcs (zad base ex) st)) ⟨hx, hb, hml, hown, hts⟩ hMt ⟨callB_of n hts (zws_good (hOK a r hr)) rfl rfl rfl (hts _ z2) (hts _ hlw) hdd hroom, hts _ z71, hts _ z72⟩ ⟨hblind _, hrecv, hwld _⟩ rfl hn hl.1 (zcs_split hst) hw8 hd ⟨by omega, by omega⟩
                    · have hlw := hE.2.2.2.2.2.1 _ (z_lk2 ho hlk)
                      rw [cn] at hlw
                      exact va_runVN (g := F0 m pc L (zcs (zad base ex) st)) ⟨hx, hb, hml, hown, hts⟩ hMt ⟨va_cnB n hts (zws_good (hOK a r hr)) rfl rfl rfl hlw (hts _ z2) hdd hroom, hts _ z71, hts _ z72⟩ ⟨hblind _, hrecv, hwld _⟩ rfl hn hl.1 (zcs_split hst) hw8 hd ⟨by omega, by omega⟩
                  · cases h
                · cases h
              · cases h
            · cases h
        · cases h
      · cases h
    · cases h
  case invokespecial x =>
    have hk : len = 3 := by simpa [zlok] using hk
    subst hk
    simp only [zs2] at h
    split at h
    · rename_i t a n p0 hlk
      split at h
      · rename_i r hr
        split at h
        · rename_i b rest hst
          split at h
          · rename_i hcnd
            split at h
            · rename_i v M1 hcv
              cases h
              obtain ⟨ct, cn, cp, ck, cl, cw⟩ := hcnd
              obtain ⟨z1, z2, z3, z4, z5, z6, -, -, z7, z8⟩ := hOK a r hr
              obtain ⟨z71, z72, z73⟩ := z7 ck
              have hMt := hcall _ _ _ _ _ hcv r hr
              obtain ⟨m1, m2⟩ := hmono _ _ _ _ _ hcv
              have hn : (zcs (zad base ex) (st.take n).reverse).length = n := by rw [zcs_len, List.length_reverse]; exact cl
              have hroom : (zrm d (M'.1 - M.1) (M'.2.1 - M.2.1)).frames + 1 ≤ R.frames ∧ 8 + (r.2.2.1 + 11) + (zrm d (M'.1 - M.1) (M'.2.1 - M.2.1)).locals ≤ R.locals := ⟨hRf, by show 8 + (r.2.2.1 + 11) + 200 * d ≤ R.locals; omega⟩
              have hdd : r.1.cls ≠ "java/lang/invoke/MethodHandle" ∧ r.1.cls ≠ "java/lang/invoke/VarHandle" ∧ (parseMethodDescriptor r.1.desc).map (fun d => d.parameters.length) = some n := by rw [← cp]; exact z3
              have hw8 : 2 * (F0 m pc L (zcs (zad base ex) st)).monitorRoom + ((zcs (zad base ex) rest).map fun v => v.category).sum ≤ 8 := by
                show 2 * 0 + _ ≤ 8
                rw [zcs_cat]
                omega
              have hwsn : zws r = Cond.code r.1 r.2.1 r.2.2.1 none :: zW := by unfold zws; rw [z73]
              refine z_back C ?_ hM hl (mc := M'.1 - M.1) (ms := M'.2.1 - M.2.1) (by omega) (by omega) kk (a := (Value.ref (zad base ex b) :: zcs (zad base ex) (st.take n).reverse).toArray)
              rcases ct with rfl | rfl
              · have hlw := z_lk1 ho hlk
                rw [cn] at hlw
                exact va_runI (g := F0 m pc L (zcs (zad base ex) st)) ⟨hx, hb, hml, hown, hts⟩ hMt ⟨callB_of n hts (zws_good (hOK a r hr)) hwsn rfl rfl (hts _ z2) (hts _ hlw) hdd hroom, z72, hts _ z71⟩ ⟨hblind _, hwld _⟩ rfl hn hl.1 (zcs_split hst) hw8 hd ⟨by omega, by omega⟩
              · have hlw := hE.2.2.2.2.2.1 _ (z_lk2 ho hlk)
                rw [cn] at hlw
                exact va_runIN (g := F0 m pc L (zcs (zad base ex) st)) ⟨hx, hb, hml, hown, hts⟩ hMt ⟨va_cnB n hts (zws_good (hOK a r hr)) hwsn rfl rfl hlw (hts _ z2) hdd hroom, z72, hts _ z71⟩ ⟨hblind _, hwld _⟩ rfl hn hl.1 (zcs_split hst) hw8 hd ⟨by omega, by omega⟩
            · cases h
          · cases h
        · cases h
      · cases h
    · cases h
  case invokestatic x =>
    have hk : len = 3 := by simpa [zlok] using hk
    subst hk
    simp only [zs2] at h
    split at h
    · rename_i t a n p0 hlk
      split at h
      · rename_i r hr
        split at h
        · rename_i hcnd
          split at h
          · rename_i v M1 hcv
            cases h
            obtain ⟨ct, cn, cp, ck, cl, cw⟩ := hcnd
            obtain ⟨z1, z2, z3, z4, z5, z6, z7, -, -, z8⟩ := hOK a r hr
            have z71 := z7 ck
            have hMt := hcall _ _ _ _ _ hcv r hr
            obtain ⟨m1, m2⟩ := hmono _ _ _ _ _ hcv
            have hn : (zcs (zad base ex) (st.take n).reverse).length = n := by rw [zcs_len, List.length_reverse]; exact cl
            have hroom : (zrm d (M'.1 - M.1) (M'.2.1 - M.2.1)).frames + 1 ≤ R.frames ∧ 8 + (r.2.2.1 + 11) + (zrm d (M'.1 - M.1) (M'.2.1 - M.2.1)).locals ≤ R.locals := ⟨hRf, by show 8 + (r.2.2.1 + 11) + 200 * d ≤ R.locals; omega⟩
            have hdd : r.1.cls ≠ "java/lang/invoke/MethodHandle" ∧ r.1.cls ≠ "java/lang/invoke/VarHandle" ∧ (parseMethodDescriptor r.1.desc).map (fun d => d.parameters.length) = some n := by rw [← cp]; exact z3
            have hw8 : 2 * (F0 m pc L (zcs (zad base ex) st)).monitorRoom + ((zcs (zad base ex) (st.drop n)).map fun v => v.category).sum ≤ 8 := by
              show 2 * 0 + _ ≤ 8
              rw [zcs_cat]
              omega
            refine z_back C ?_ hM hl (mc := M'.1 - M.1) (ms := M'.2.1 - M.2.1) (by omega) (by omega) kk (a := (zcs (zad base ex) (st.take n).reverse).toArray)
            rcases ct with rfl | rfl
            · have hlw := z_lk1 ho hlk
              rw [cn] at hlw
              exact va_runS (g := F0 m pc L (zcs (zad base ex) st)) ⟨hx, hb, hml, hown, hts⟩ hMt ⟨callB_of n hts (zws_good (hOK a r hr)) rfl rfl rfl (hts _ z2) (hts _ hlw) hdd hroom, hts _ z71⟩ ⟨hblind _, hwld _⟩ rfl hn hl.1 (zcs_split0 st n) hw8 hd ⟨by omega, by omega⟩
            · have hlw := hE.2.2.2.2.2.1 _ (z_lk2 ho hlk)
              rw [cn] at hlw
              exact va_runSN (g := F0 m pc L (zcs (zad base ex) st)) ⟨hx, hb, hml, hown, hts⟩ hMt ⟨va_cnB n hts (zws_good (hOK a r hr)) rfl rfl rfl hlw (hts _ z2) hdd hroom, hts _ z71, trivial⟩ ⟨hblind _, hwld _⟩ rfl hn hl.1 (zcs_split0 st n) hw8 hd ⟨by omega, by omega⟩
          · cases h
        · cases h
      · cases h
    · cases h
  all_goals (exfalso; revert h; simp [zs2])
end ZS3
end
section
/-! THE ROWS OF THE EVALUATOR, 4: steps, runs, whole methods -/
theorem zset_mono {M : zM} {a : Nat} {e : zE} : M.1 ≤ (zset M a e).1 ∧ M.2.1 ≤ (zset M a e).2.1 := ⟨Nat.le_refl _, Nat.le_refl _⟩
theorem zpush_mono {M : zM} {e : zE} : M.1 ≤ (zpush M e).1 ∧ M.2.1 ≤ (zpush M e).2.1 := ⟨Nat.le_succ _, Nat.le_add_right _ _⟩
set_option maxHeartbeats 4000000 in
theorem zs1_mono {X : zX} {own : Nat} {ini : Bool} {pc : Nat} {ls : zL} {st : List Value} {M : zM} {i : Instr} {pc' : Nat} {ls' : zL} {st' : List Value} {M' : zM} (h : zs1 X own ini pc ls st M i = some (pc', ls', st', M')) : M.1 ≤ M'.1 ∧ M.2.1 ≤ M'.2.1 := by
  cases i <;> simp only [zs1, reduceCtorEq] at h
  all_goals (repeat' split at h)
  all_goals first
    | (cases h; done)
    | (cases h; exact ⟨Nat.le_refl _, Nat.le_refl _⟩)
    | (cases h; exact zset_mono)
    | (cases h; exact zpush_mono)
theorem zs3_mono {X : zX} {own : Nat} {pc : Nat} {ls : zL} {st : List Value} {M : zM} {i : Instr} {pc' : Nat} {ls' : zL} {st' : List Value} {M' : zM} (h : zs3 X own pc ls st M i = some (pc', ls', st', M')) : M.1 ≤ M'.1 ∧ M.2.1 ≤ M'.2.1 := by
  cases i <;> simp only [zs3, reduceCtorEq] at h
  all_goals (repeat' split at h)
  all_goals first
    | (cases h; done)
    | (cases h; exact ⟨Nat.le_refl _, Nat.le_refl _⟩)
set_option maxHeartbeats 4000000 in
theorem zs2_mono {mt : Nat → Option zMe} {call : Nat → List Value → zM → Option (Option Value × zM)} (hmono : ∀ a av M v M', call a av M = some (v, M') → M.1 ≤ M'.1 ∧ M.2.1 ≤ M'.2.1) {own : Nat} {pc : Nat} {ls : zL} {st : List Value} {M : zM} {i : Instr} {pc' : Nat} {ls' : zL} {st' : List Value} {M' : zM} (h : zs2 mt call own pc ls st M i = some (pc', ls', st', M')) : M.1 ≤ M'.1 ∧ M.2.1 ≤ M'.2.1 := by
  cases i <;> simp only [zs2, reduceCtorEq] at h
  all_goals (repeat' split at h)
  all_goals first
    | (cases h; done)
    | (rename_i hc; cases h; exact hmono _ _ _ _ _ hc)
theorem zstep_mono {X : zX} {mt : Nat → Option zMe} {call : Nat → List Value → zM → Option (Option Value × zM)} (hmono : ∀ a av M v M', call a av M = some (v, M') → M.1 ≤ M'.1 ∧ M.2.1 ≤ M'.2.1) {r : zMe} {pc len : Nat} {ls : zL} {st : List Value} {M : zM} {i : Instr} {pc' : Nat} {ls' : zL} {st' : List Value} {M' : zM} (h : zstep X mt call r pc ls st M i len = some (pc', ls', st', M')) : M.1 ≤ M'.1 ∧ M.2.1 ≤ M'.2.1 := by
  unfold zstep at h
  split at h
  · cases h
    exact ⟨Nat.le_refl _, Nat.le_refl _⟩
  · split at h
    · rename_i q hq
      cases h
      exact zs1_mono hq
    · split at h
      · rename_i q hq
        cases h
        exact zs3_mono hq
      · exact zs2_mono hmono h
theorem zrun_mono {X : zX} {mt : Nat → Option zMe} {call : Nat → List Value → zM → Option (Option Value × zM)} (hmono : ∀ a av M v M', call a av M = some (v, M') → M.1 ≤ M'.1 ∧ M.2.1 ≤ M'.2.1) {r : zMe} : ∀ (n pc : Nat) (ls : zL) (st : List Value) (M : zM) (v : Option Value) (M' : zM), zrun X mt call r n pc ls st M = some (v, M') → M.1 ≤ M'.1 ∧ M.2.1 ≤ M'.2.1 := by
  intro n
  induction n with
  | zero => intro pc ls st M v M' h; cases h
  | succ n ih =>
    intro pc ls st M v M' h
    unfold zrun at h
    split at h
    · cases h
    · split at h
      · split at h
        · cases h
          exact ⟨Nat.le_refl _, Nat.le_refl _⟩
        · split at h
          · rename_i hs
            have h1 := zstep_mono hmono hs
            have h2 := ih _ _ _ _ _ _ h
            omega
          · cases h
      · cases h
/-- what is said of some methods is right, at depths from 8 on -/
def zOv (th : Nat) (l : Launch) (base : Nat) (ex : Nat → Nat) (dC : Nat → ClassId) (dI : Nat → Nat → Nat) (X : zX) (mt : Nat → Option zMe) (ov : zCall) : Prop :=
  ∀ a av M v M', ov a av M = some (v, M') → (M.1 ≤ M'.1 ∧ M.2.1 ≤ M'.2.1) ∧ ∀ d, th ≤ d → ∀ r, mt a = some r → zMet l base ex dC dI X d r av M v M'
theorem zev_mono {th : Nat} {l : Launch} {base : Nat} {ex : Nat → Nat} {dC : Nat → ClassId} {dI : Nat → Nat → Nat} {X : zX} {mt : Nat → Option zMe} {ov : zCall} (hov : zOv th l base ex dC dI X mt ov) : ∀ (d n a : Nat) (av : List Value) (M : zM) (v : Option Value) (M' : zM), zev th X mt ov d n a av M = some (v, M') → M.1 ≤ M'.1 ∧ M.2.1 ≤ M'.2.1 := by
  intro d
  induction d with
  | zero => intro n a av M v M' h; cases h
  | succ d ih =>
    intro n a av M v M' h
    unfold zev at h
    split at h
    · rename_i q hq
      split at h
      · cases h
        exact (hov _ _ _ _ _ hq).1
      · cases h
    · split at h
      · cases h
      · split at h
        · exact zrun_mono (ih n) _ _ _ _ _ _ _ h
        · cases h
section ZS4
variable {p : Program} {l : Launch} {e : Env} {R : Room} {s : State} {m : MethodId} {args : Array Value} {below : List Frame} {meth : Method} {c : Code} {H : Heap} {locs : List Loc} {cells slots : Nat} {Q : State → Prop} {base : Nat} {ex : Nat → Nat} {dC : Nat → ClassId} {dI : Nat → Nat → Nat} {X : zX} {pc len pc' c0 s0 d : Nat} {i : Instr} {ls ls' : zL} {st st' : List Value} {M M' : zM} {L : Array Slot}
variable {mt : Nat → Option zMe} {call : Nat → List Value → zM → Option (Option Value × zM)} {r : zMe}
set_option maxHeartbeats 4000000 in
theorem z_s1 (C : zCtx p s m args meth c R r.2.1 base ex X r.2.2.2.2.2.1 (r.2.2.2.2.2.2.1 == 2) r.2.2.1 c0) (hd : decode r.2.1 pc = .ok (i, len)) (hk : zlok i len = true) (h : zs1 X r.2.2.2.2.2.1 (r.2.2.2.2.2.2.1 == 2) pc ls st M i = some (pc', ls', st', M')) (hl : lv_has L r.2.2.1 (zcl (zad base ex) ls)) (hM : zMid base ex dC dI s M H locs) (hcc : cells + c0 = M.1) (hss : slots + s0 = M.2.1) (hRc : M'.1 ≤ R.cells + c0) (hRs : M'.2.1 ≤ R.slots + s0)
    (kk : zGo p l e R s m args below meth c Q base ex dC dI r.2.2.1 c0 s0 pc' ls' st' M') : W p l e R s m args below meth c H locs cells slots Q (F0 m pc L (zcs (zad base ex) st)) := by
  cases i
  case getfield x => have hk : len = 3 := by simpa [zlok] using hk
                     subst hk; exact z_getfield C hd h hl hM hcc hss kk
  case putfield x => have hk : len = 3 := by simpa [zlok] using hk
                     subst hk; exact z_putfield C hd h hl hM hcc hss kk
  case getstatic x => have hk : len = 3 := by simpa [zlok] using hk
                      subst hk; exact z_getstatic C hd h hl hM hcc hss kk
  case iaload => have hk : len = 1 := by simpa [zlok] using hk
                 subst hk; exact z_iaload C hd h hl hM hcc hss kk
  case baload => have hk : len = 1 := by simpa [zlok] using hk
                 subst hk; exact z_baload C hd h hl hM hcc hss kk
  case aaload => have hk : len = 1 := by simpa [zlok] using hk
                 subst hk; exact z_aaload C hd h hl hM hcc hss kk
  case iastore => have hk : len = 1 := by simpa [zlok] using hk
                  subst hk; exact z_iastore C hd h hl hM hcc hss kk
  case bastore => have hk : len = 1 := by simpa [zlok] using hk
                  subst hk; exact z_bastore C hd h hl hM hcc hss kk
  case aastore => have hk : len = 1 := by simpa [zlok] using hk
                  subst hk; exact z_aastore C hd h hl hM hcc hss kk
  case arraylength => have hk : len = 1 := by simpa [zlok] using hk
                      subst hk; exact z_arraylength C hd h hl hM hcc hss kk
  case newarray t => have hk : len = 2 := by simpa [zlok] using hk
                     subst hk; exact z_newarray C hd h hl hM hcc hss hRc hRs kk
  case anewarray x => have hk : len = 3 := by simpa [zlok] using hk
                      subst hk; exact z_anewarray C hd h hl hM hcc hss hRc hRs kk
  case new x => have hk : len = 3 := by simpa [zlok] using hk
                subst hk; exact z_new C hd h hl hM hcc hss hRc hRs kk
  case ldc x => have hk : len = 2 := by simpa [zlok] using hk
                subst hk; exact z_ldc C hd h hl hM hcc hss kk
  case ldc_w x => have hk : len = 3 := by simpa [zlok] using hk
                  subst hk; exact z_ldc_w C hd h hl hM hcc hss kk
  case ldc2_w x => have hk : len = 3 := by simpa [zlok] using hk
                   subst hk; exact z_ldc2_w C hd h hl hM hcc hss kk
  case invokespecial x => have hk : len = 3 := by simpa [zlok] using hk
                          subst hk; exact z_objinit C hd h hl hM hcc hss kk
  case invokestatic x => have hk : len = 3 := by simpa [zlok] using hk
                         subst hk; exact z_arraycopy C hd h hl hM hcc hss kk
  all_goals (exfalso; revert h; simp [zs1])
theorem z_s3 (C : zCtx p s m args meth c R r.2.1 base ex X r.2.2.2.2.2.1 (r.2.2.2.2.2.2.1 == 2) r.2.2.1 c0) (hd : decode r.2.1 pc = .ok (i, len)) (hk : zlok i len = true) (h : zs3 X r.2.2.2.2.2.1 pc ls st M i = some (pc', ls', st', M')) (hl : lv_has L r.2.2.1 (zcl (zad base ex) ls)) (hM : zMid base ex dC dI s M H locs) (hcc : cells + c0 = M.1) (hss : slots + s0 = M.2.1)
    (kk : zGo p l e R s m args below meth c Q base ex dC dI r.2.2.1 c0 s0 pc' ls' st' M') : W p l e R s m args below meth c H locs cells slots Q (F0 m pc L (zcs (zad base ex) st)) := by
  cases i
  case getfield x => have hk : len = 3 := by simpa [zlok] using hk
                     subst hk; exact z_sgetfield C hd h hl hM hcc hss kk
  case getstatic x => have hk : len = 3 := by simpa [zlok] using hk
                      subst hk; exact z_sgetstatic C hd h hl hM hcc hss kk
  case baload => have hk : len = 1 := by simpa [zlok] using hk
                 subst hk; exact z_sbaload C hd h hl hM hcc hss kk
  case arraylength => have hk : len = 1 := by simpa [zlok] using hk
                      subst hk; exact z_sarraylength C hd h hl hM hcc hss kk
  all_goals (exfalso; revert h; simp [zs3])
theorem z_step (C : zCtx p s m args meth c R r.2.1 base ex X r.2.2.2.2.2.1 (r.2.2.2.2.2.2.1 == 2) r.2.2.1 c0) (hOK : ∀ a r, mt a = some r → zOK r) (hcall : ∀ a av M v M', call a av M = some (v, M') → ∀ r, mt a = some r → zMet l base ex dC dI X d r av M v M') (hmono : ∀ a av M v M', call a av M = some (v, M') → M.1 ≤ M'.1 ∧ M.2.1 ≤ M'.2.1)
    (hRf : d + 1 ≤ R.frames) (hRl : 200 * (d + 1) ≤ R.locals) (hd : decode r.2.1 pc = .ok (i, len)) (hk : zlok i len = true) (h : zstep X mt call r pc ls st M i len = some (pc', ls', st', M')) (hRc : M'.1 ≤ R.cells + c0) (hRs : M'.2.1 ≤ R.slots + s0)
    (kk : zGo p l e R s m args below meth c Q base ex dC dI r.2.2.1 c0 s0 pc' ls' st' M') : zGo p l e R s m args below meth c Q base ex dC dI r.2.2.1 c0 s0 pc ls st M := by
  intro L H locs cells slots hcc hss hl hM
  unfold zstep at h
  split at h
  · rename_i a b c' hq
    cases h
    exact z_s0 C.1 C.2.1 hd hk hq hl (fun L' h' => kk L' H locs cells slots hcc hss h' hM)
  · split at h
    · rename_i q hq
      cases h
      exact z_s1 C hd hk hq hl hM hcc hss hRc hRs kk
    · split at h
      · rename_i q hq
        cases h
        exact z_s3 C hd hk hq hl hM hcc hss kk
      · exact z_s2 C hOK hcall hmono hRf hRl hd hk h hl hM hcc hss hRc hRs kk
/-- where a method ends -/
def zFin (p : Program) (l : Launch) (e : Env) (R : Room) (s : State) (m : MethodId) (args : Array Value) (below : List Frame) (meth : Method) (c : Code) (Q : State → Prop) (base : Nat) (ex : Nat → Nat) (dC : Nat → ClassId) (dI : Nat → Nat → Nat) (r : zMe) (c0 s0 : Nat) (v : Option Value) (M : zM) : Prop :=
  ∀ (pc len : Nat) (i : Instr) (st : List Value) (L : Array Slot) (H : Heap) (locs : List Loc) (cells slots : Nat), decode r.2.1 pc = .ok (i, len) → zlok i len = true → zret r.2.2.2.1 i st = some v → cells + c0 = M.1 → slots + s0 = M.2.1 → zMid base ex dC dI s M H locs → W p l e R s m args below meth c H locs cells slots Q (F0 m pc L (zcs (zad base ex) st))
theorem z_run {v : Option Value} (C : zCtx p s m args meth c R r.2.1 base ex X r.2.2.2.2.2.1 (r.2.2.2.2.2.2.1 == 2) r.2.2.1 c0) (hOK : ∀ a r, mt a = some r → zOK r) (hcall : ∀ a av M v M', call a av M = some (v, M') → ∀ r, mt a = some r → zMet l base ex dC dI X d r av M v M') (hmono : ∀ a av M v M', call a av M = some (v, M') → M.1 ≤ M'.1 ∧ M.2.1 ≤ M'.2.1)
    (hRf : d + 1 ≤ R.frames) (hRl : 200 * (d + 1) ≤ R.locals) (hdec : ∀ pc x, r.2.2.2.2.2.2.2 pc = some x → decode r.2.1 pc = .ok x) (hRc : M'.1 ≤ R.cells + c0) (hRs : M'.2.1 ≤ R.slots + s0) (hfin : zFin p l e R s m args below meth c Q base ex dC dI r c0 s0 v M') :
    ∀ (n pc : Nat) (ls : zL) (st : List Value) (M : zM), zrun X mt call r n pc ls st M = some (v, M') → zGo p l e R s m args below meth c Q base ex dC dI r.2.2.1 c0 s0 pc ls st M := by
  intro n
  induction n with
  | zero => intro pc ls st M h; cases h
  | succ n ih =>
    intro pc ls st M h
    unfold zrun at h
    split at h
    · cases h
    · rename_i i len htb
      split at h
      · rename_i hk
        split at h
        · rename_i v1 hv1
          cases h
          intro L H locs cells slots hcc hss hl hM
          exact hfin pc len i st L H locs cells slots (hdec _ _ htb) hk hv1 hcc hss hM
        · split at h
          · rename_i pc1 ls1 st1 M1 hs
            have h2 := zrun_mono hmono _ _ _ _ _ _ _ h
            exact z_step C hOK hcall hmono hRf hRl (hdec _ _ htb) hk hs (by omega) (by omega) (ih _ _ _ _ h)
          · cases h
      · cases h
end ZS4
theorem zcl_args {ad : Nat → Nat} : ∀ (vs : List Value) (i : Nat), zcl ad (lv_args i vs) = lv_args i (zcs ad vs) := by
  intro vs
  induction vs with
  | nil => intro i; rfl
  | cons v vs ih =>
    intro i
    show (i, zcv ad v) :: zcl ad (lv_args _ vs) = (i, zcv ad v) :: lv_args _ (zcs ad vs)
    rw [ih, zcv_cat]
theorem zsl_len {ad : Nat → Nat} : ∀ (vs : List Value), (lg_sl (zcs ad vs)).length = (lg_sl vs).length := by
  intro vs
  induction vs with
  | nil => rfl
  | cons v vs ih =>
    show (lg_sl (zcv ad v :: zcs ad vs)).length = _
    unfold lg_sl at ih ⊢
    rw [List.flatMap_cons, List.flatMap_cons, List.length_append, List.length_append, ih, zcv_cat]
    by_cases h : v.category = 2
    · rw [if_pos h, if_pos h]; rfl
    · rw [if_neg h, if_neg h]; rfl
set_option maxHeartbeats 1000000 in
/-- a run of a method's code gives its contract -/
theorem zMet_of {l : Launch} {base : Nat} {ex : Nat → Nat} {dC : Nat → ClassId} {dI : Nat → Nat → Nat} {X : zX} {mt : Nat → Option zMe} (hOK : ∀ a r, mt a = some r → zOK r) {call : zCall} {d n a : Nat} {r : zMe} (hr : mt a = some r) (hcall : ∀ a av M v M', call a av M = some (v, M') → ∀ r, mt a = some r → zMet l base ex dC dI X d r av M v M') (hmono : ∀ a av M v M', call a av M = some (v, M') → M.1 ≤ M'.1 ∧ M.2.1 ≤ M'.2.1) {av : List Value} {M : zM} {v : Option Value} {M' : zM} (hlen : (lg_sl av).length ≤ r.2.2.1) (h : zrun X mt call r n 0 (lv_args 0 av) [] M = some (v, M')) : zMet l base ex dC dI X (d + 1) r av M v M' := by
  have hm := zrun_mono hmono _ _ _ _ _ _ _ h
  obtain ⟨z1, z2, z3, z4, z5, z6, z7, z8, z9, z10⟩ := hOK a r hr
  refine Met.ofW (cc := r.2.1) (maxL := r.2.2.1) (ret := r.2.2.2.1) z4 rfl ?_
  intro p e s m args below meth c s₁ B hml hPc
  obtain ⟨rfl, hsz, hMid, hExt⟩ := hPc
  have hx := B.exec
  have hb := B.bytes
  have hrt := B.returns
  have hts := atoms_spec (ws := zws r) B.pre
  have hown : s.vm.findClass r.1.cls = some m.cls := findClass_of_methodNamed B.named
  have hlocks := B.notSynchronized
  have hin : meth.name = r.1.name := (name_of_methodNamed B.named B.method).1
  have C : zCtx p s m (zcs (zad base ex) av).toArray meth c (headSpec (zws r) (zrm (d + 1) (M'.1 - M.1) (M'.2.1 - M.2.1))).room r.2.1 base ex X r.2.2.2.2.2.1 (r.2.2.2.2.2.2.1 == 2) r.2.2.1 M.1 :=
    ⟨hx, hb, by rw [z6.2]; exact hown, z6.1, fun w hw => hts w (List.mem_cons_of_mem _ hw), hExt, fun q => by rw [hin]; exact (z9 (by simpa using q)).2.1, hml, by show 1 ≤ d + 1; omega, by show 200 ≤ 200 * (d + 1); omega, hsz⟩
  have hl := lv_entry (zcs (zad base ex) av) (n := r.2.2.1) (by rw [zsl_len]; exact hlen)
  rw [lg_entry_eq, ← zcl_args] at *
  refine z_run (s0 := M.2.1) (c0 := M.1) C hOK hcall hmono (by show d + 1 ≤ d + 1; omega) (by show 200 * (d + 1) ≤ 200 * (d + 1); omega) z10 (by show M'.1 ≤ (M'.1 - M.1) + M.1; omega) (by show M'.2.1 ≤ (M'.2.1 - M.2.1) + M.2.1; omega) ?_ n 0 (lv_args 0 av) [] M h _ s.heap [] 0 0 (by omega) (by omega) hl hMid
  intro pc len i st L H locs cells slots hdg hk hret hcc hss hM
  have e1 : cells = M'.1 - M.1 := by omega
  have e2 : slots = M'.2.1 - M.2.1 := by omega
  subst e1
  subst e2
  refine W.size (fun hsz2 => ?_)
  have hsz3 : H.size ≤ base + M'.1 := by omega
  have hq : ∀ t : State, t.heap = H → s.WarmedH t.vm → zQc base ex dC dI X v M' (zcs (zad base ex) av).toArray s (.returned (v.map (zcv (zad base ex)))) t := fun t ht hW => ⟨rfl, hM.wld C hsz3 ht hW, hM.2.2.1.F ht⟩
  have hf : ∀ q ∈ locs, zA base q.base := hM.2.2.1.2.2
  cases i <;> simp only [zret, reduceCtorEq] at hret
  case return_ =>
    have hk : len = 1 := by simpa [zlok] using hk
    subst hk
    split at hret
    · rename_i h0
      cases hret
      rw [h0] at hrt
      exact W.vret hx hb hrt hq hf hdg
    · cases hret
  case ireturn =>
    have hk : len = 1 := by simpa [zlok] using hk
    subst hk
    split at hret
    · rename_i ty x h0
      split at hret
      · rename_i hn
        cases hret
        rw [h0] at hrt
        exact W.zret hx hb hrt hn hq hf hdg
      · cases hret
    · cases hret
  case lreturn =>
    have hk : len = 1 := by simpa [zlok] using hk
    subst hk
    split at hret
    · rename_i x h0
      cases hret
      rw [h0] at hrt
      exact W.lret hx hb hrt hq hf hdg
    · cases hret
  case areturn =>
    have hk : len = 1 := by simpa [zlok] using hk
    subst hk
    split at hret
    · rename_i x y h0
      cases hret
      rw [h0] at hrt
      exact W.aret hx hb hrt (Or.inl ⟨_, rfl⟩) (Or.inr ⟨_, rfl⟩) hq hf hdg
    · rename_i x h0
      cases hret
      rw [h0] at hrt
      exact W.aret hx hb hrt (Or.inl ⟨_, rfl⟩) (Or.inl rfl) hq hf hdg
    · cases hret
/-- THE EVALUATOR IS RIGHT: what it answers, the machine's method does -/
theorem zev_ok {th : Nat} {l : Launch} {base : Nat} {ex : Nat → Nat} {dC : Nat → ClassId} {dI : Nat → Nat → Nat} {X : zX} {mt : Nat → Option zMe} {ov : zCall} (hOK : ∀ a r, mt a = some r → zOK r) (hov : zOv th l base ex dC dI X mt ov) : ∀ (d n a : Nat) (av : List Value) (M : zM) (v : Option Value) (M' : zM), zev th X mt ov d n a av M = some (v, M') → ∀ r, mt a = some r → zMet l base ex dC dI X d r av M v M' := by
  intro d
  induction d with
  | zero => intro n a av M v M' h; cases h
  | succ d ih =>
    intro n a av M v M' h r hr
    unfold zev at h
    split at h
    · rename_i q hq
      split at h
      · rename_i hd
        cases h
        exact (hov _ _ _ _ _ hq).2 (d + 1) (by omega) r hr
      · cases h
    · rw [hr] at h
      dsimp only at h
      split at h
      · rename_i hlen
        exact zMet_of hOK hr (fun a av M v M' h => ih n a av M v M' h) (fun a av M v M' h => zev_mono hov _ _ _ _ _ _ _ h) hlen h
      · cases h
end
section
/-! DECODING, FAST: what 'decode' reads, from the list of the bytes -/
def zbs (code : ByteArray) (p : Nat) : List Nat := (code.data.toList.drop p).map UInt8.toNat
theorem zbs_u1 {code : ByteArray} {p b : Nat} {r : List Nat} (h : zbs code p = b :: r) : (Reader.u1 : Decoder Nat) code p = .ok (b, p + 1) ∧ zbs code (p + 1) = r := by
  unfold zbs at h
  have hp : p < code.data.toList.length := by
    by_cases q : p < code.data.toList.length
    · exact q
    · rw [List.drop_eq_nil_of_le (by omega)] at h
      cases h
  rw [List.drop_eq_getElem_cons hp, List.map_cons] at h
  have hb := (List.cons.inj h).1
  refine ⟨?_, (List.cons.inj h).2⟩
  have hp2 : p < code.size := by simpa using hp
  have hg : code[p].toNat = b := by
    rw [← hb]
    rfl
  show (dite (p < code.size) (fun h => ((do set (p + 1); pure code[p].toNat) : Decoder Nat)) (fun _ => throw (HasTruncated.truncated p))) code p = _
  rw [dif_pos hp2, hg]
  rfl
theorem zbs_s1 {code : ByteArray} {p a : Nat} {r : List Nat} (h : zbs code p = a :: r) : (Reader.s1 : Decoder Int) code p = .ok (Reader.signed 8 a, p + 1) := by
  obtain ⟨g, -⟩ := zbs_u1 h
  show (Except.map _ ((Reader.u1 : Decoder Nat) code p)) = _
  rw [g]
  rfl
theorem zbs_u2 {code : ByteArray} {p a b : Nat} {r : List Nat} (h : zbs code p = a :: b :: r) : (Reader.u2 : Decoder Nat) code p = .ok (a * 256 + b, p + 1 + 1) := by
  obtain ⟨g, h1⟩ := zbs_u1 h
  obtain ⟨g1, -⟩ := zbs_u1 h1
  show (Except.bind ((Reader.u1 : Decoder Nat) code p) _) = _
  rw [g]
  show (Except.bind ((Reader.u1 : Decoder Nat) code (p + 1)) _) = _
  rw [g1]
  rfl
theorem zbs_s2 {code : ByteArray} {p a b : Nat} {r : List Nat} (h : zbs code p = a :: b :: r) : (Reader.s2 : Decoder Int) code p = .ok (Reader.signed 16 (a * 256 + b), p + 1 + 1) := by
  have g := zbs_u2 h
  show (Except.map _ ((Reader.u2 : Decoder Nat) code p)) = _
  rw [g]
  rfl
theorem zd_1 {code : ByteArray} {pc : Nat} {r : List Nat} (h : zbs code pc = 1 :: r) : decode code pc = .ok (.aconst_null, 1) := by
  obtain ⟨g0, h0⟩ := zbs_u1 h
  show (Except.bind ((Decoder.instr pc).runAt code pc) fun x => Except.ok (x.1, x.2 - pc)) = _
  have e : (Decoder.instr pc).runAt code pc = .ok (.aconst_null, pc + 1) := by
    show (Except.bind ((Reader.u1 : Decoder Nat) code (pc)) _) = _
    rw [g0]
    rfl
  rw [e]
  show Except.ok (_, pc + 1 - pc) = _
  rw [show pc + 1 - pc = 1 by omega]
theorem zd_2 {code : ByteArray} {pc : Nat} {r : List Nat} (h : zbs code pc = 2 :: r) : decode code pc = .ok (.iconst (-1), 1) := by
  obtain ⟨g0, h0⟩ := zbs_u1 h
  show (Except.bind ((Decoder.instr pc).runAt code pc) fun x => Except.ok (x.1, x.2 - pc)) = _
  have e : (Decoder.instr pc).runAt code pc = .ok (.iconst (-1), pc + 1) := by
    show (Except.bind ((Reader.u1 : Decoder Nat) code (pc)) _) = _
    rw [g0]
    rfl
  rw [e]
  show Except.ok (_, pc + 1 - pc) = _
  rw [show pc + 1 - pc = 1 by omega]
theorem zd_3 {code : ByteArray} {pc : Nat} {r : List Nat} (h : zbs code pc = 3 :: r) : decode code pc = .ok (.iconst (0), 1) := by
  obtain ⟨g0, h0⟩ := zbs_u1 h
  show (Except.bind ((Decoder.instr pc).runAt code pc) fun x => Except.ok (x.1, x.2 - pc)) = _
  have e : (Decoder.instr pc).runAt code pc = .ok (.iconst (0), pc + 1) := by
    show (Except.bind ((Reader.u1 : Decoder Nat) code (pc)) _) = _
    rw [g0]
    rfl
  rw [e]
  show Except.ok (_, pc + 1 - pc) = _
  rw [show pc + 1 - pc = 1 by omega]
theorem zd_4 {code : ByteArray} {pc : Nat} {r : List Nat} (h : zbs code pc = 4 :: r) : decode code pc = .ok (.iconst (1), 1) := by
  obtain ⟨g0, h0⟩ := zbs_u1 h
  show (Except.bind ((Decoder.instr pc).runAt code pc) fun x => Except.ok (x.1, x.2 - pc)) = _
  have e : (Decoder.instr pc).runAt code pc = .ok (.iconst (1), pc + 1) := by
    show (Except.bind ((Reader.u1 : Decoder Nat) code (pc)) _) = _
    rw [g0]
    rfl
  rw [e]
  show Except.ok (_, pc + 1 - pc) = _
  rw [show pc + 1 - pc = 1 by omega]
theorem zd_5 {code : ByteArray} {pc : Nat} {r : List Nat} (h : zbs code pc = 5 :: r) : decode code pc = .ok (.iconst (2), 1) := by
  obtain ⟨g0, h0⟩ := zbs_u1 h
  show (Except.bind ((Decoder.instr pc).runAt code pc) fun x => Except.ok (x.1, x.2 - pc)) = _
  have e : (Decoder.instr pc).runAt code pc = .ok (.iconst (2), pc + 1) := by
    show (Except.bind ((Reader.u1 : Decoder Nat) code (pc)) _) = _
    rw [g0]
    rfl
  rw [e]
  show Except.ok (_, pc + 1 - pc) = _
  rw [show pc + 1 - pc = 1 by omega]
theorem zd_6 {code : ByteArray} {pc : Nat} {r : List Nat} (h : zbs code pc = 6 :: r) : decode code pc = .ok (.iconst (3), 1) := by
  obtain ⟨g0, h0⟩ := zbs_u1 h
  show (Except.bind ((Decoder.instr pc).runAt code pc) fun x => Except.ok (x.1, x.2 - pc)) = _
  have e : (Decoder.instr pc).runAt code pc = .ok (.iconst (3), pc + 1) := by
    show (Except.bind ((Reader.u1 : Decoder Nat) code (pc)) _) = _
    rw [g0]
    rfl
  rw [e]
  show Except.ok (_, pc + 1 - pc) = _
  rw [show pc + 1 - pc = 1 by omega]
theorem zd_7 {code : ByteArray} {pc : Nat} {r : List Nat} (h : zbs code pc = 7 :: r) : decode code pc = .ok (.iconst (4), 1) := by
  obtain ⟨g0, h0⟩ := zbs_u1 h
  show (Except.bind ((Decoder.instr pc).runAt code pc) fun x => Except.ok (x.1, x.2 - pc)) = _
  have e : (Decoder.instr pc).runAt code pc = .ok (.iconst (4), pc + 1) := by
    show (Except.bind ((Reader.u1 : Decoder Nat) code (pc)) _) = _
    rw [g0]
    rfl
  rw [e]
  show Except.ok (_, pc + 1 - pc) = _
  rw [show pc + 1 - pc = 1 by omega]
theorem zd_8 {code : ByteArray} {pc : Nat} {r : List Nat} (h : zbs code pc = 8 :: r) : decode code pc = .ok (.iconst (5), 1) := by
  obtain ⟨g0, h0⟩ := zbs_u1 h
  show (Except.bind ((Decoder.instr pc).runAt code pc) fun x => Except.ok (x.1, x.2 - pc)) = _
  have e : (Decoder.instr pc).runAt code pc = .ok (.iconst (5), pc + 1) := by
    show (Except.bind ((Reader.u1 : Decoder Nat) code (pc)) _) = _
    rw [g0]
    rfl
  rw [e]
  show Except.ok (_, pc + 1 - pc) = _
  rw [show pc + 1 - pc = 1 by omega]
theorem zd_9 {code : ByteArray} {pc : Nat} {r : List Nat} (h : zbs code pc = 9 :: r) : decode code pc = .ok (.lconst 0, 1) := by
  obtain ⟨g0, h0⟩ := zbs_u1 h
  show (Except.bind ((Decoder.instr pc).runAt code pc) fun x => Except.ok (x.1, x.2 - pc)) = _
  have e : (Decoder.instr pc).runAt code pc = .ok (.lconst 0, pc + 1) := by
    show (Except.bind ((Reader.u1 : Decoder Nat) code (pc)) _) = _
    rw [g0]
    rfl
  rw [e]
  show Except.ok (_, pc + 1 - pc) = _
  rw [show pc + 1 - pc = 1 by omega]
theorem zd_10 {code : ByteArray} {pc : Nat} {r : List Nat} (h : zbs code pc = 10 :: r) : decode code pc = .ok (.lconst 1, 1) := by
  obtain ⟨g0, h0⟩ := zbs_u1 h
  show (Except.bind ((Decoder.instr pc).runAt code pc) fun x => Except.ok (x.1, x.2 - pc)) = _
  have e : (Decoder.instr pc).runAt code pc = .ok (.lconst 1, pc + 1) := by
    show (Except.bind ((Reader.u1 : Decoder Nat) code (pc)) _) = _
    rw [g0]
    rfl
  rw [e]
  show Except.ok (_, pc + 1 - pc) = _
  rw [show pc + 1 - pc = 1 by omega]
theorem zd_16 {code : ByteArray} {pc a : Nat} {r : List Nat} (h : zbs code pc = 16 :: a :: r) : decode code pc = .ok (.bipush (Reader.signed 8 a), 2) := by
  obtain ⟨g0, h0⟩ := zbs_u1 h
  have g1 := zbs_s1 h0
  show (Except.bind ((Decoder.instr pc).runAt code pc) fun x => Except.ok (x.1, x.2 - pc)) = _
  have e : (Decoder.instr pc).runAt code pc = .ok (.bipush (Reader.signed 8 a), pc + 1 + 1) := by
    show (Except.bind ((Reader.u1 : Decoder Nat) code (pc)) _) = _
    rw [g0]
    show (Except.bind ((Reader.s1 : Decoder Int) code (pc + 1)) _) = _
    rw [g1]
    rfl
  rw [e]
  show Except.ok (_, pc + 1 + 1 - pc) = _
  rw [show pc + 1 + 1 - pc = 2 by omega]
theorem zd_17 {code : ByteArray} {pc a b : Nat} {r : List Nat} (h : zbs code pc = 17 :: a :: b :: r) : decode code pc = .ok (.sipush (Reader.signed 16 (a * 256 + b)), 3) := by
  obtain ⟨g0, h0⟩ := zbs_u1 h
  have g1 := zbs_s2 h0
  show (Except.bind ((Decoder.instr pc).runAt code pc) fun x => Except.ok (x.1, x.2 - pc)) = _
  have e : (Decoder.instr pc).runAt code pc = .ok (.sipush (Reader.signed 16 (a * 256 + b)), pc + 1 + 1 + 1) := by
    show (Except.bind ((Reader.u1 : Decoder Nat) code (pc)) _) = _
    rw [g0]
    show (Except.bind ((Reader.s2 : Decoder Int) code (pc + 1)) _) = _
    rw [g1]
    rfl
  rw [e]
  show Except.ok (_, pc + 1 + 1 + 1 - pc) = _
  rw [show pc + 1 + 1 + 1 - pc = 3 by omega]
theorem zd_18 {code : ByteArray} {pc a : Nat} {r : List Nat} (h : zbs code pc = 18 :: a :: r) : decode code pc = .ok (.ldc a, 2) := by
  obtain ⟨g0, h0⟩ := zbs_u1 h
  obtain ⟨g1, h1⟩ := zbs_u1 h0
  show (Except.bind ((Decoder.instr pc).runAt code pc) fun x => Except.ok (x.1, x.2 - pc)) = _
  have e : (Decoder.instr pc).runAt code pc = .ok (.ldc a, pc + 1 + 1) := by
    show (Except.bind ((Reader.u1 : Decoder Nat) code (pc)) _) = _
    rw [g0]
    show (Except.bind ((Reader.u1 : Decoder Nat) code (pc + 1)) _) = _
    rw [g1]
    rfl
  rw [e]
  show Except.ok (_, pc + 1 + 1 - pc) = _
  rw [show pc + 1 + 1 - pc = 2 by omega]
theorem zd_19 {code : ByteArray} {pc a b : Nat} {r : List Nat} (h : zbs code pc = 19 :: a :: b :: r) : decode code pc = .ok (.ldc_w (a * 256 + b), 3) := by
  obtain ⟨g0, h0⟩ := zbs_u1 h
  have g1 := zbs_u2 h0
  show (Except.bind ((Decoder.instr pc).runAt code pc) fun x => Except.ok (x.1, x.2 - pc)) = _
  have e : (Decoder.instr pc).runAt code pc = .ok (.ldc_w (a * 256 + b), pc + 1 + 1 + 1) := by
    show (Except.bind ((Reader.u1 : Decoder Nat) code (pc)) _) = _
    rw [g0]
    show (Except.bind ((Reader.u2 : Decoder Nat) code (pc + 1)) _) = _
    rw [g1]
    rfl
  rw [e]
  show Except.ok (_, pc + 1 + 1 + 1 - pc) = _
  rw [show pc + 1 + 1 + 1 - pc = 3 by omega]
theorem zd_20 {code : ByteArray} {pc a b : Nat} {r : List Nat} (h : zbs code pc = 20 :: a :: b :: r) : decode code pc = .ok (.ldc2_w (a * 256 + b), 3) := by
  obtain ⟨g0, h0⟩ := zbs_u1 h
  have g1 := zbs_u2 h0
  show (Except.bind ((Decoder.instr pc).runAt code pc) fun x => Except.ok (x.1, x.2 - pc)) = _
  have e : (Decoder.instr pc).runAt code pc = .ok (.ldc2_w (a * 256 + b), pc + 1 + 1 + 1) := by
    show (Except.bind ((Reader.u1 : Decoder Nat) code (pc)) _) = _
    rw [g0]
    show (Except.bind ((Reader.u2 : Decoder Nat) code (pc + 1)) _) = _
    rw [g1]
    rfl
  rw [e]
  show Except.ok (_, pc + 1 + 1 + 1 - pc) = _
  rw [show pc + 1 + 1 + 1 - pc = 3 by omega]
theorem zd_21 {code : ByteArray} {pc a : Nat} {r : List Nat} (h : zbs code pc = 21 :: a :: r) : decode code pc = .ok (.iload a, 2) := by
  obtain ⟨g0, h0⟩ := zbs_u1 h
  obtain ⟨g1, h1⟩ := zbs_u1 h0
  show (Except.bind ((Decoder.instr pc).runAt code pc) fun x => Except.ok (x.1, x.2 - pc)) = _
  have e : (Decoder.instr pc).runAt code pc = .ok (.iload a, pc + 1 + 1) := by
    show (Except.bind ((Reader.u1 : Decoder Nat) code (pc)) _) = _
    rw [g0]
    show (Except.bind ((Reader.u1 : Decoder Nat) code (pc + 1)) _) = _
    rw [g1]
    rfl
  rw [e]
  show Except.ok (_, pc + 1 + 1 - pc) = _
  rw [show pc + 1 + 1 - pc = 2 by omega]
theorem zd_22 {code : ByteArray} {pc a : Nat} {r : List Nat} (h : zbs code pc = 22 :: a :: r) : decode code pc = .ok (.lload a, 2) := by
  obtain ⟨g0, h0⟩ := zbs_u1 h
  obtain ⟨g1, h1⟩ := zbs_u1 h0
  show (Except.bind ((Decoder.instr pc).runAt code pc) fun x => Except.ok (x.1, x.2 - pc)) = _
  have e : (Decoder.instr pc).runAt code pc = .ok (.lload a, pc + 1 + 1) := by
    show (Except.bind ((Reader.u1 : Decoder Nat) code (pc)) _) = _
    rw [g0]
    show (Except.bind ((Reader.u1 : Decoder Nat) code (pc + 1)) _) = _
    rw [g1]
    rfl
  rw [e]
  show Except.ok (_, pc + 1 + 1 - pc) = _
  rw [show pc + 1 + 1 - pc = 2 by omega]
theorem zd_25 {code : ByteArray} {pc a : Nat} {r : List Nat} (h : zbs code pc = 25 :: a :: r) : decode code pc = .ok (.aload a, 2) := by
  obtain ⟨g0, h0⟩ := zbs_u1 h
  obtain ⟨g1, h1⟩ := zbs_u1 h0
  show (Except.bind ((Decoder.instr pc).runAt code pc) fun x => Except.ok (x.1, x.2 - pc)) = _
  have e : (Decoder.instr pc).runAt code pc = .ok (.aload a, pc + 1 + 1) := by
    show (Except.bind ((Reader.u1 : Decoder Nat) code (pc)) _) = _
    rw [g0]
    show (Except.bind ((Reader.u1 : Decoder Nat) code (pc + 1)) _) = _
    rw [g1]
    rfl
  rw [e]
  show Except.ok (_, pc + 1 + 1 - pc) = _
  rw [show pc + 1 + 1 - pc = 2 by omega]
theorem zd_26 {code : ByteArray} {pc : Nat} {r : List Nat} (h : zbs code pc = 26 :: r) : decode code pc = .ok (.iload_n 0, 1) := by
  obtain ⟨g0, h0⟩ := zbs_u1 h
  show (Except.bind ((Decoder.instr pc).runAt code pc) fun x => Except.ok (x.1, x.2 - pc)) = _
  have e : (Decoder.instr pc).runAt code pc = .ok (.iload_n 0, pc + 1) := by
    show (Except.bind ((Reader.u1 : Decoder Nat) code (pc)) _) = _
    rw [g0]
    rfl
  rw [e]
  show Except.ok (_, pc + 1 - pc) = _
  rw [show pc + 1 - pc = 1 by omega]
theorem zd_27 {code : ByteArray} {pc : Nat} {r : List Nat} (h : zbs code pc = 27 :: r) : decode code pc = .ok (.iload_n 1, 1) := by
  obtain ⟨g0, h0⟩ := zbs_u1 h
  show (Except.bind ((Decoder.instr pc).runAt code pc) fun x => Except.ok (x.1, x.2 - pc)) = _
  have e : (Decoder.instr pc).runAt code pc = .ok (.iload_n 1, pc + 1) := by
    show (Except.bind ((Reader.u1 : Decoder Nat) code (pc)) _) = _
    rw [g0]
    rfl
  rw [e]
  show Except.ok (_, pc + 1 - pc) = _
  rw [show pc + 1 - pc = 1 by omega]
theorem zd_28 {code : ByteArray} {pc : Nat} {r : List Nat} (h : zbs code pc = 28 :: r) : decode code pc = .ok (.iload_n 2, 1) := by
  obtain ⟨g0, h0⟩ := zbs_u1 h
  show (Except.bind ((Decoder.instr pc).runAt code pc) fun x => Except.ok (x.1, x.2 - pc)) = _
  have e : (Decoder.instr pc).runAt code pc = .ok (.iload_n 2, pc + 1) := by
    show (Except.bind ((Reader.u1 : Decoder Nat) code (pc)) _) = _
    rw [g0]
    rfl
  rw [e]
  show Except.ok (_, pc + 1 - pc) = _
  rw [show pc + 1 - pc = 1 by omega]
theorem zd_29 {code : ByteArray} {pc : Nat} {r : List Nat} (h : zbs code pc = 29 :: r) : decode code pc = .ok (.iload_n 3, 1) := by
  obtain ⟨g0, h0⟩ := zbs_u1 h
  show (Except.bind ((Decoder.instr pc).runAt code pc) fun x => Except.ok (x.1, x.2 - pc)) = _
  have e : (Decoder.instr pc).runAt code pc = .ok (.iload_n 3, pc + 1) := by
    show (Except.bind ((Reader.u1 : Decoder Nat) code (pc)) _) = _
    rw [g0]
    rfl
  rw [e]
  show Except.ok (_, pc + 1 - pc) = _
  rw [show pc + 1 - pc = 1 by omega]
theorem zd_30 {code : ByteArray} {pc : Nat} {r : List Nat} (h : zbs code pc = 30 :: r) : decode code pc = .ok (.lload_n 0, 1) := by
  obtain ⟨g0, h0⟩ := zbs_u1 h
  show (Except.bind ((Decoder.instr pc).runAt code pc) fun x => Except.ok (x.1, x.2 - pc)) = _
  have e : (Decoder.instr pc).runAt code pc = .ok (.lload_n 0, pc + 1) := by
    show (Except.bind ((Reader.u1 : Decoder Nat) code (pc)) _) = _
    rw [g0]
    rfl
  rw [e]
  show Except.ok (_, pc + 1 - pc) = _
  rw [show pc + 1 - pc = 1 by omega]
theorem zd_31 {code : ByteArray} {pc : Nat} {r : List Nat} (h : zbs code pc = 31 :: r) : decode code pc = .ok (.lload_n 1, 1) := by
  obtain ⟨g0, h0⟩ := zbs_u1 h
  show (Except.bind ((Decoder.instr pc).runAt code pc) fun x => Except.ok (x.1, x.2 - pc)) = _
  have e : (Decoder.instr pc).runAt code pc = .ok (.lload_n 1, pc + 1) := by
    show (Except.bind ((Reader.u1 : Decoder Nat) code (pc)) _) = _
    rw [g0]
    rfl
  rw [e]
  show Except.ok (_, pc + 1 - pc) = _
  rw [show pc + 1 - pc = 1 by omega]
theorem zd_32 {code : ByteArray} {pc : Nat} {r : List Nat} (h : zbs code pc = 32 :: r) : decode code pc = .ok (.lload_n 2, 1) := by
  obtain ⟨g0, h0⟩ := zbs_u1 h
  show (Except.bind ((Decoder.instr pc).runAt code pc) fun x => Except.ok (x.1, x.2 - pc)) = _
  have e : (Decoder.instr pc).runAt code pc = .ok (.lload_n 2, pc + 1) := by
    show (Except.bind ((Reader.u1 : Decoder Nat) code (pc)) _) = _
    rw [g0]
    rfl
  rw [e]
  show Except.ok (_, pc + 1 - pc) = _
  rw [show pc + 1 - pc = 1 by omega]
theorem zd_33 {code : ByteArray} {pc : Nat} {r : List Nat} (h : zbs code pc = 33 :: r) : decode code pc = .ok (.lload_n 3, 1) := by
  obtain ⟨g0, h0⟩ := zbs_u1 h
  show (Except.bind ((Decoder.instr pc).runAt code pc) fun x => Except.ok (x.1, x.2 - pc)) = _
  have e : (Decoder.instr pc).runAt code pc = .ok (.lload_n 3, pc + 1) := by
    show (Except.bind ((Reader.u1 : Decoder Nat) code (pc)) _) = _
    rw [g0]
    rfl
  rw [e]
  show Except.ok (_, pc + 1 - pc) = _
  rw [show pc + 1 - pc = 1 by omega]
theorem zd_42 {code : ByteArray} {pc : Nat} {r : List Nat} (h : zbs code pc = 42 :: r) : decode code pc = .ok (.aload_n 0, 1) := by
  obtain ⟨g0, h0⟩ := zbs_u1 h
  show (Except.bind ((Decoder.instr pc).runAt code pc) fun x => Except.ok (x.1, x.2 - pc)) = _
  have e : (Decoder.instr pc).runAt code pc = .ok (.aload_n 0, pc + 1) := by
    show (Except.bind ((Reader.u1 : Decoder Nat) code (pc)) _) = _
    rw [g0]
    rfl
  rw [e]
  show Except.ok (_, pc + 1 - pc) = _
  rw [show pc + 1 - pc = 1 by omega]
theorem zd_43 {code : ByteArray} {pc : Nat} {r : List Nat} (h : zbs code pc = 43 :: r) : decode code pc = .ok (.aload_n 1, 1) := by
  obtain ⟨g0, h0⟩ := zbs_u1 h
  show (Except.bind ((Decoder.instr pc).runAt code pc) fun x => Except.ok (x.1, x.2 - pc)) = _
  have e : (Decoder.instr pc).runAt code pc = .ok (.aload_n 1, pc + 1) := by
    show (Except.bind ((Reader.u1 : Decoder Nat) code (pc)) _) = _
    rw [g0]
    rfl
  rw [e]
  show Except.ok (_, pc + 1 - pc) = _
  rw [show pc + 1 - pc = 1 by omega]
theorem zd_44 {code : ByteArray} {pc : Nat} {r : List Nat} (h : zbs code pc = 44 :: r) : decode code pc = .ok (.aload_n 2, 1) := by
  obtain ⟨g0, h0⟩ := zbs_u1 h
  show (Except.bind ((Decoder.instr pc).runAt code pc) fun x => Except.ok (x.1, x.2 - pc)) = _
  have e : (Decoder.instr pc).runAt code pc = .ok (.aload_n 2, pc + 1) := by
    show (Except.bind ((Reader.u1 : Decoder Nat) code (pc)) _) = _
    rw [g0]
    rfl
  rw [e]
  show Except.ok (_, pc + 1 - pc) = _
  rw [show pc + 1 - pc = 1 by omega]
theorem zd_45 {code : ByteArray} {pc : Nat} {r : List Nat} (h : zbs code pc = 45 :: r) : decode code pc = .ok (.aload_n 3, 1) := by
  obtain ⟨g0, h0⟩ := zbs_u1 h
  show (Except.bind ((Decoder.instr pc).runAt code pc) fun x => Except.ok (x.1, x.2 - pc)) = _
  have e : (Decoder.instr pc).runAt code pc = .ok (.aload_n 3, pc + 1) := by
    show (Except.bind ((Reader.u1 : Decoder Nat) code (pc)) _) = _
    rw [g0]
    rfl
  rw [e]
  show Except.ok (_, pc + 1 - pc) = _
  rw [show pc + 1 - pc = 1 by omega]
theorem zd_46 {code : ByteArray} {pc : Nat} {r : List Nat} (h : zbs code pc = 46 :: r) : decode code pc = .ok (.iaload, 1) := by
  obtain ⟨g0, h0⟩ := zbs_u1 h
  show (Except.bind ((Decoder.instr pc).runAt code pc) fun x => Except.ok (x.1, x.2 - pc)) = _
  have e : (Decoder.instr pc).runAt code pc = .ok (.iaload, pc + 1) := by
    show (Except.bind ((Reader.u1 : Decoder Nat) code (pc)) _) = _
    rw [g0]
    rfl
  rw [e]
  show Except.ok (_, pc + 1 - pc) = _
  rw [show pc + 1 - pc = 1 by omega]
theorem zd_50 {code : ByteArray} {pc : Nat} {r : List Nat} (h : zbs code pc = 50 :: r) : decode code pc = .ok (.aaload, 1) := by
  obtain ⟨g0, h0⟩ := zbs_u1 h
  show (Except.bind ((Decoder.instr pc).runAt code pc) fun x => Except.ok (x.1, x.2 - pc)) = _
  have e : (Decoder.instr pc).runAt code pc = .ok (.aaload, pc + 1) := by
    show (Except.bind ((Reader.u1 : Decoder Nat) code (pc)) _) = _
    rw [g0]
    rfl
  rw [e]
  show Except.ok (_, pc + 1 - pc) = _
  rw [show pc + 1 - pc = 1 by omega]
theorem zd_51 {code : ByteArray} {pc : Nat} {r : List Nat} (h : zbs code pc = 51 :: r) : decode code pc = .ok (.baload, 1) := by
  obtain ⟨g0, h0⟩ := zbs_u1 h
  show (Except.bind ((Decoder.instr pc).runAt code pc) fun x => Except.ok (x.1, x.2 - pc)) = _
  have e : (Decoder.instr pc).runAt code pc = .ok (.baload, pc + 1) := by
    show (Except.bind ((Reader.u1 : Decoder Nat) code (pc)) _) = _
    rw [g0]
    rfl
  rw [e]
  show Except.ok (_, pc + 1 - pc) = _
  rw [show pc + 1 - pc = 1 by omega]
theorem zd_54 {code : ByteArray} {pc a : Nat} {r : List Nat} (h : zbs code pc = 54 :: a :: r) : decode code pc = .ok (.istore a, 2) := by
  obtain ⟨g0, h0⟩ := zbs_u1 h
  obtain ⟨g1, h1⟩ := zbs_u1 h0
  show (Except.bind ((Decoder.instr pc).runAt code pc) fun x => Except.ok (x.1, x.2 - pc)) = _
  have e : (Decoder.instr pc).runAt code pc = .ok (.istore a, pc + 1 + 1) := by
    show (Except.bind ((Reader.u1 : Decoder Nat) code (pc)) _) = _
    rw [g0]
    show (Except.bind ((Reader.u1 : Decoder Nat) code (pc + 1)) _) = _
    rw [g1]
    rfl
  rw [e]
  show Except.ok (_, pc + 1 + 1 - pc) = _
  rw [show pc + 1 + 1 - pc = 2 by omega]
theorem zd_55 {code : ByteArray} {pc a : Nat} {r : List Nat} (h : zbs code pc = 55 :: a :: r) : decode code pc = .ok (.lstore a, 2) := by
  obtain ⟨g0, h0⟩ := zbs_u1 h
  obtain ⟨g1, h1⟩ := zbs_u1 h0
  show (Except.bind ((Decoder.instr pc).runAt code pc) fun x => Except.ok (x.1, x.2 - pc)) = _
  have e : (Decoder.instr pc).runAt code pc = .ok (.lstore a, pc + 1 + 1) := by
    show (Except.bind ((Reader.u1 : Decoder Nat) code (pc)) _) = _
    rw [g0]
    show (Except.bind ((Reader.u1 : Decoder Nat) code (pc + 1)) _) = _
    rw [g1]
    rfl
  rw [e]
  show Except.ok (_, pc + 1 + 1 - pc) = _
  rw [show pc + 1 + 1 - pc = 2 by omega]
theorem zd_58 {code : ByteArray} {pc a : Nat} {r : List Nat} (h : zbs code pc = 58 :: a :: r) : decode code pc = .ok (.astore a, 2) := by
  obtain ⟨g0, h0⟩ := zbs_u1 h
  obtain ⟨g1, h1⟩ := zbs_u1 h0
  show (Except.bind ((Decoder.instr pc).runAt code pc) fun x => Except.ok (x.1, x.2 - pc)) = _
  have e : (Decoder.instr pc).runAt code pc = .ok (.astore a, pc + 1 + 1) := by
    show (Except.bind ((Reader.u1 : Decoder Nat) code (pc)) _) = _
    rw [g0]
    show (Except.bind ((Reader.u1 : Decoder Nat) code (pc + 1)) _) = _
    rw [g1]
    rfl
  rw [e]
  show Except.ok (_, pc + 1 + 1 - pc) = _
  rw [show pc + 1 + 1 - pc = 2 by omega]
theorem zd_59 {code : ByteArray} {pc : Nat} {r : List Nat} (h : zbs code pc = 59 :: r) : decode code pc = .ok (.istore_n 0, 1) := by
  obtain ⟨g0, h0⟩ := zbs_u1 h
  show (Except.bind ((Decoder.instr pc).runAt code pc) fun x => Except.ok (x.1, x.2 - pc)) = _
  have e : (Decoder.instr pc).runAt code pc = .ok (.istore_n 0, pc + 1) := by
    show (Except.bind ((Reader.u1 : Decoder Nat) code (pc)) _) = _
    rw [g0]
    rfl
  rw [e]
  show Except.ok (_, pc + 1 - pc) = _
  rw [show pc + 1 - pc = 1 by omega]
theorem zd_60 {code : ByteArray} {pc : Nat} {r : List Nat} (h : zbs code pc = 60 :: r) : decode code pc = .ok (.istore_n 1, 1) := by
  obtain ⟨g0, h0⟩ := zbs_u1 h
  show (Except.bind ((Decoder.instr pc).runAt code pc) fun x => Except.ok (x.1, x.2 - pc)) = _
  have e : (Decoder.instr pc).runAt code pc = .ok (.istore_n 1, pc + 1) := by
    show (Except.bind ((Reader.u1 : Decoder Nat) code (pc)) _) = _
    rw [g0]
    rfl
  rw [e]
  show Except.ok (_, pc + 1 - pc) = _
  rw [show pc + 1 - pc = 1 by omega]
theorem zd_61 {code : ByteArray} {pc : Nat} {r : List Nat} (h : zbs code pc = 61 :: r) : decode code pc = .ok (.istore_n 2, 1) := by
  obtain ⟨g0, h0⟩ := zbs_u1 h
  show (Except.bind ((Decoder.instr pc).runAt code pc) fun x => Except.ok (x.1, x.2 - pc)) = _
  have e : (Decoder.instr pc).runAt code pc = .ok (.istore_n 2, pc + 1) := by
    show (Except.bind ((Reader.u1 : Decoder Nat) code (pc)) _) = _
    rw [g0]
    rfl
  rw [e]
  show Except.ok (_, pc + 1 - pc) = _
  rw [show pc + 1 - pc = 1 by omega]
theorem zd_62 {code : ByteArray} {pc : Nat} {r : List Nat} (h : zbs code pc = 62 :: r) : decode code pc = .ok (.istore_n 3, 1) := by
  obtain ⟨g0, h0⟩ := zbs_u1 h
  show (Except.bind ((Decoder.instr pc).runAt code pc) fun x => Except.ok (x.1, x.2 - pc)) = _
  have e : (Decoder.instr pc).runAt code pc = .ok (.istore_n 3, pc + 1) := by
    show (Except.bind ((Reader.u1 : Decoder Nat) code (pc)) _) = _
    rw [g0]
    rfl
  rw [e]
  show Except.ok (_, pc + 1 - pc) = _
  rw [show pc + 1 - pc = 1 by omega]
theorem zd_63 {code : ByteArray} {pc : Nat} {r : List Nat} (h : zbs code pc = 63 :: r) : decode code pc = .ok (.lstore_n 0, 1) := by
  obtain ⟨g0, h0⟩ := zbs_u1 h
  show (Except.bind ((Decoder.instr pc).runAt code pc) fun x => Except.ok (x.1, x.2 - pc)) = _
  have e : (Decoder.instr pc).runAt code pc = .ok (.lstore_n 0, pc + 1) := by
    show (Except.bind ((Reader.u1 : Decoder Nat) code (pc)) _) = _
    rw [g0]
    rfl
  rw [e]
  show Except.ok (_, pc + 1 - pc) = _
  rw [show pc + 1 - pc = 1 by omega]
theorem zd_64 {code : ByteArray} {pc : Nat} {r : List Nat} (h : zbs code pc = 64 :: r) : decode code pc = .ok (.lstore_n 1, 1) := by
  obtain ⟨g0, h0⟩ := zbs_u1 h
  show (Except.bind ((Decoder.instr pc).runAt code pc) fun x => Except.ok (x.1, x.2 - pc)) = _
  have e : (Decoder.instr pc).runAt code pc = .ok (.lstore_n 1, pc + 1) := by
    show (Except.bind ((Reader.u1 : Decoder Nat) code (pc)) _) = _
    rw [g0]
    rfl
  rw [e]
  show Except.ok (_, pc + 1 - pc) = _
  rw [show pc + 1 - pc = 1 by omega]
theorem zd_65 {code : ByteArray} {pc : Nat} {r : List Nat} (h : zbs code pc = 65 :: r) : decode code pc = .ok (.lstore_n 2, 1) := by
  obtain ⟨g0, h0⟩ := zbs_u1 h
  show (Except.bind ((Decoder.instr pc).runAt code pc) fun x => Except.ok (x.1, x.2 - pc)) = _
  have e : (Decoder.instr pc).runAt code pc = .ok (.lstore_n 2, pc + 1) := by
    show (Except.bind ((Reader.u1 : Decoder Nat) code (pc)) _) = _
    rw [g0]
    rfl
  rw [e]
  show Except.ok (_, pc + 1 - pc) = _
  rw [show pc + 1 - pc = 1 by omega]
theorem zd_66 {code : ByteArray} {pc : Nat} {r : List Nat} (h : zbs code pc = 66 :: r) : decode code pc = .ok (.lstore_n 3, 1) := by
  obtain ⟨g0, h0⟩ := zbs_u1 h
  show (Except.bind ((Decoder.instr pc).runAt code pc) fun x => Except.ok (x.1, x.2 - pc)) = _
  have e : (Decoder.instr pc).runAt code pc = .ok (.lstore_n 3, pc + 1) := by
    show (Except.bind ((Reader.u1 : Decoder Nat) code (pc)) _) = _
    rw [g0]
    rfl
  rw [e]
  show Except.ok (_, pc + 1 - pc) = _
  rw [show pc + 1 - pc = 1 by omega]
theorem zd_75 {code : ByteArray} {pc : Nat} {r : List Nat} (h : zbs code pc = 75 :: r) : decode code pc = .ok (.astore_n 0, 1) := by
  obtain ⟨g0, h0⟩ := zbs_u1 h
  show (Except.bind ((Decoder.instr pc).runAt code pc) fun x => Except.ok (x.1, x.2 - pc)) = _
  have e : (Decoder.instr pc).runAt code pc = .ok (.astore_n 0, pc + 1) := by
    show (Except.bind ((Reader.u1 : Decoder Nat) code (pc)) _) = _
    rw [g0]
    rfl
  rw [e]
  show Except.ok (_, pc + 1 - pc) = _
  rw [show pc + 1 - pc = 1 by omega]
theorem zd_76 {code : ByteArray} {pc : Nat} {r : List Nat} (h : zbs code pc = 76 :: r) : decode code pc = .ok (.astore_n 1, 1) := by
  obtain ⟨g0, h0⟩ := zbs_u1 h
  show (Except.bind ((Decoder.instr pc).runAt code pc) fun x => Except.ok (x.1, x.2 - pc)) = _
  have e : (Decoder.instr pc).runAt code pc = .ok (.astore_n 1, pc + 1) := by
    show (Except.bind ((Reader.u1 : Decoder Nat) code (pc)) _) = _
    rw [g0]
    rfl
  rw [e]
  show Except.ok (_, pc + 1 - pc) = _
  rw [show pc + 1 - pc = 1 by omega]
theorem zd_77 {code : ByteArray} {pc : Nat} {r : List Nat} (h : zbs code pc = 77 :: r) : decode code pc = .ok (.astore_n 2, 1) := by
  obtain ⟨g0, h0⟩ := zbs_u1 h
  show (Except.bind ((Decoder.instr pc).runAt code pc) fun x => Except.ok (x.1, x.2 - pc)) = _
  have e : (Decoder.instr pc).runAt code pc = .ok (.astore_n 2, pc + 1) := by
    show (Except.bind ((Reader.u1 : Decoder Nat) code (pc)) _) = _
    rw [g0]
    rfl
  rw [e]
  show Except.ok (_, pc + 1 - pc) = _
  rw [show pc + 1 - pc = 1 by omega]
theorem zd_78 {code : ByteArray} {pc : Nat} {r : List Nat} (h : zbs code pc = 78 :: r) : decode code pc = .ok (.astore_n 3, 1) := by
  obtain ⟨g0, h0⟩ := zbs_u1 h
  show (Except.bind ((Decoder.instr pc).runAt code pc) fun x => Except.ok (x.1, x.2 - pc)) = _
  have e : (Decoder.instr pc).runAt code pc = .ok (.astore_n 3, pc + 1) := by
    show (Except.bind ((Reader.u1 : Decoder Nat) code (pc)) _) = _
    rw [g0]
    rfl
  rw [e]
  show Except.ok (_, pc + 1 - pc) = _
  rw [show pc + 1 - pc = 1 by omega]
theorem zd_79 {code : ByteArray} {pc : Nat} {r : List Nat} (h : zbs code pc = 79 :: r) : decode code pc = .ok (.iastore, 1) := by
  obtain ⟨g0, h0⟩ := zbs_u1 h
  show (Except.bind ((Decoder.instr pc).runAt code pc) fun x => Except.ok (x.1, x.2 - pc)) = _
  have e : (Decoder.instr pc).runAt code pc = .ok (.iastore, pc + 1) := by
    show (Except.bind ((Reader.u1 : Decoder Nat) code (pc)) _) = _
    rw [g0]
    rfl
  rw [e]
  show Except.ok (_, pc + 1 - pc) = _
  rw [show pc + 1 - pc = 1 by omega]
theorem zd_83 {code : ByteArray} {pc : Nat} {r : List Nat} (h : zbs code pc = 83 :: r) : decode code pc = .ok (.aastore, 1) := by
  obtain ⟨g0, h0⟩ := zbs_u1 h
  show (Except.bind ((Decoder.instr pc).runAt code pc) fun x => Except.ok (x.1, x.2 - pc)) = _
  have e : (Decoder.instr pc).runAt code pc = .ok (.aastore, pc + 1) := by
    show (Except.bind ((Reader.u1 : Decoder Nat) code (pc)) _) = _
    rw [g0]
    rfl
  rw [e]
  show Except.ok (_, pc + 1 - pc) = _
  rw [show pc + 1 - pc = 1 by omega]
theorem zd_84 {code : ByteArray} {pc : Nat} {r : List Nat} (h : zbs code pc = 84 :: r) : decode code pc = .ok (.bastore, 1) := by
  obtain ⟨g0, h0⟩ := zbs_u1 h
  show (Except.bind ((Decoder.instr pc).runAt code pc) fun x => Except.ok (x.1, x.2 - pc)) = _
  have e : (Decoder.instr pc).runAt code pc = .ok (.bastore, pc + 1) := by
    show (Except.bind ((Reader.u1 : Decoder Nat) code (pc)) _) = _
    rw [g0]
    rfl
  rw [e]
  show Except.ok (_, pc + 1 - pc) = _
  rw [show pc + 1 - pc = 1 by omega]
theorem zd_87 {code : ByteArray} {pc : Nat} {r : List Nat} (h : zbs code pc = 87 :: r) : decode code pc = .ok (.pop, 1) := by
  obtain ⟨g0, h0⟩ := zbs_u1 h
  show (Except.bind ((Decoder.instr pc).runAt code pc) fun x => Except.ok (x.1, x.2 - pc)) = _
  have e : (Decoder.instr pc).runAt code pc = .ok (.pop, pc + 1) := by
    show (Except.bind ((Reader.u1 : Decoder Nat) code (pc)) _) = _
    rw [g0]
    rfl
  rw [e]
  show Except.ok (_, pc + 1 - pc) = _
  rw [show pc + 1 - pc = 1 by omega]
theorem zd_88 {code : ByteArray} {pc : Nat} {r : List Nat} (h : zbs code pc = 88 :: r) : decode code pc = .ok (.pop2, 1) := by
  obtain ⟨g0, h0⟩ := zbs_u1 h
  show (Except.bind ((Decoder.instr pc).runAt code pc) fun x => Except.ok (x.1, x.2 - pc)) = _
  have e : (Decoder.instr pc).runAt code pc = .ok (.pop2, pc + 1) := by
    show (Except.bind ((Reader.u1 : Decoder Nat) code (pc)) _) = _
    rw [g0]
    rfl
  rw [e]
  show Except.ok (_, pc + 1 - pc) = _
  rw [show pc + 1 - pc = 1 by omega]
theorem zd_89 {code : ByteArray} {pc : Nat} {r : List Nat} (h : zbs code pc = 89 :: r) : decode code pc = .ok (.dup, 1) := by
  obtain ⟨g0, h0⟩ := zbs_u1 h
  show (Except.bind ((Decoder.instr pc).runAt code pc) fun x => Except.ok (x.1, x.2 - pc)) = _
  have e : (Decoder.instr pc).runAt code pc = .ok (.dup, pc + 1) := by
    show (Except.bind ((Reader.u1 : Decoder Nat) code (pc)) _) = _
    rw [g0]
    rfl
  rw [e]
  show Except.ok (_, pc + 1 - pc) = _
  rw [show pc + 1 - pc = 1 by omega]
theorem zd_90 {code : ByteArray} {pc : Nat} {r : List Nat} (h : zbs code pc = 90 :: r) : decode code pc = .ok (.dup_x1, 1) := by
  obtain ⟨g0, h0⟩ := zbs_u1 h
  show (Except.bind ((Decoder.instr pc).runAt code pc) fun x => Except.ok (x.1, x.2 - pc)) = _
  have e : (Decoder.instr pc).runAt code pc = .ok (.dup_x1, pc + 1) := by
    show (Except.bind ((Reader.u1 : Decoder Nat) code (pc)) _) = _
    rw [g0]
    rfl
  rw [e]
  show Except.ok (_, pc + 1 - pc) = _
  rw [show pc + 1 - pc = 1 by omega]
theorem zd_92 {code : ByteArray} {pc : Nat} {r : List Nat} (h : zbs code pc = 92 :: r) : decode code pc = .ok (.dup2, 1) := by
  obtain ⟨g0, h0⟩ := zbs_u1 h
  show (Except.bind ((Decoder.instr pc).runAt code pc) fun x => Except.ok (x.1, x.2 - pc)) = _
  have e : (Decoder.instr pc).runAt code pc = .ok (.dup2, pc + 1) := by
    show (Except.bind ((Reader.u1 : Decoder Nat) code (pc)) _) = _
    rw [g0]
    rfl
  rw [e]
  show Except.ok (_, pc + 1 - pc) = _
  rw [show pc + 1 - pc = 1 by omega]
theorem zd_96 {code : ByteArray} {pc : Nat} {r : List Nat} (h : zbs code pc = 96 :: r) : decode code pc = .ok (.iadd, 1) := by
  obtain ⟨g0, h0⟩ := zbs_u1 h
  show (Except.bind ((Decoder.instr pc).runAt code pc) fun x => Except.ok (x.1, x.2 - pc)) = _
  have e : (Decoder.instr pc).runAt code pc = .ok (.iadd, pc + 1) := by
    show (Except.bind ((Reader.u1 : Decoder Nat) code (pc)) _) = _
    rw [g0]
    rfl
  rw [e]
  show Except.ok (_, pc + 1 - pc) = _
  rw [show pc + 1 - pc = 1 by omega]
theorem zd_97 {code : ByteArray} {pc : Nat} {r : List Nat} (h : zbs code pc = 97 :: r) : decode code pc = .ok (.ladd, 1) := by
  obtain ⟨g0, h0⟩ := zbs_u1 h
  show (Except.bind ((Decoder.instr pc).runAt code pc) fun x => Except.ok (x.1, x.2 - pc)) = _
  have e : (Decoder.instr pc).runAt code pc = .ok (.ladd, pc + 1) := by
    show (Except.bind ((Reader.u1 : Decoder Nat) code (pc)) _) = _
    rw [g0]
    rfl
  rw [e]
  show Except.ok (_, pc + 1 - pc) = _
  rw [show pc + 1 - pc = 1 by omega]
theorem zd_100 {code : ByteArray} {pc : Nat} {r : List Nat} (h : zbs code pc = 100 :: r) : decode code pc = .ok (.isub, 1) := by
  obtain ⟨g0, h0⟩ := zbs_u1 h
  show (Except.bind ((Decoder.instr pc).runAt code pc) fun x => Except.ok (x.1, x.2 - pc)) = _
  have e : (Decoder.instr pc).runAt code pc = .ok (.isub, pc + 1) := by
    show (Except.bind ((Reader.u1 : Decoder Nat) code (pc)) _) = _
    rw [g0]
    rfl
  rw [e]
  show Except.ok (_, pc + 1 - pc) = _
  rw [show pc + 1 - pc = 1 by omega]
theorem zd_101 {code : ByteArray} {pc : Nat} {r : List Nat} (h : zbs code pc = 101 :: r) : decode code pc = .ok (.lsub, 1) := by
  obtain ⟨g0, h0⟩ := zbs_u1 h
  show (Except.bind ((Decoder.instr pc).runAt code pc) fun x => Except.ok (x.1, x.2 - pc)) = _
  have e : (Decoder.instr pc).runAt code pc = .ok (.lsub, pc + 1) := by
    show (Except.bind ((Reader.u1 : Decoder Nat) code (pc)) _) = _
    rw [g0]
    rfl
  rw [e]
  show Except.ok (_, pc + 1 - pc) = _
  rw [show pc + 1 - pc = 1 by omega]
theorem zd_104 {code : ByteArray} {pc : Nat} {r : List Nat} (h : zbs code pc = 104 :: r) : decode code pc = .ok (.imul, 1) := by
  obtain ⟨g0, h0⟩ := zbs_u1 h
  show (Except.bind ((Decoder.instr pc).runAt code pc) fun x => Except.ok (x.1, x.2 - pc)) = _
  have e : (Decoder.instr pc).runAt code pc = .ok (.imul, pc + 1) := by
    show (Except.bind ((Reader.u1 : Decoder Nat) code (pc)) _) = _
    rw [g0]
    rfl
  rw [e]
  show Except.ok (_, pc + 1 - pc) = _
  rw [show pc + 1 - pc = 1 by omega]
theorem zd_105 {code : ByteArray} {pc : Nat} {r : List Nat} (h : zbs code pc = 105 :: r) : decode code pc = .ok (.lmul, 1) := by
  obtain ⟨g0, h0⟩ := zbs_u1 h
  show (Except.bind ((Decoder.instr pc).runAt code pc) fun x => Except.ok (x.1, x.2 - pc)) = _
  have e : (Decoder.instr pc).runAt code pc = .ok (.lmul, pc + 1) := by
    show (Except.bind ((Reader.u1 : Decoder Nat) code (pc)) _) = _
    rw [g0]
    rfl
  rw [e]
  show Except.ok (_, pc + 1 - pc) = _
  rw [show pc + 1 - pc = 1 by omega]
theorem zd_108 {code : ByteArray} {pc : Nat} {r : List Nat} (h : zbs code pc = 108 :: r) : decode code pc = .ok (.idiv, 1) := by
  obtain ⟨g0, h0⟩ := zbs_u1 h
  show (Except.bind ((Decoder.instr pc).runAt code pc) fun x => Except.ok (x.1, x.2 - pc)) = _
  have e : (Decoder.instr pc).runAt code pc = .ok (.idiv, pc + 1) := by
    show (Except.bind ((Reader.u1 : Decoder Nat) code (pc)) _) = _
    rw [g0]
    rfl
  rw [e]
  show Except.ok (_, pc + 1 - pc) = _
  rw [show pc + 1 - pc = 1 by omega]
theorem zd_109 {code : ByteArray} {pc : Nat} {r : List Nat} (h : zbs code pc = 109 :: r) : decode code pc = .ok (.ldiv, 1) := by
  obtain ⟨g0, h0⟩ := zbs_u1 h
  show (Except.bind ((Decoder.instr pc).runAt code pc) fun x => Except.ok (x.1, x.2 - pc)) = _
  have e : (Decoder.instr pc).runAt code pc = .ok (.ldiv, pc + 1) := by
    show (Except.bind ((Reader.u1 : Decoder Nat) code (pc)) _) = _
    rw [g0]
    rfl
  rw [e]
  show Except.ok (_, pc + 1 - pc) = _
  rw [show pc + 1 - pc = 1 by omega]
theorem zd_112 {code : ByteArray} {pc : Nat} {r : List Nat} (h : zbs code pc = 112 :: r) : decode code pc = .ok (.irem, 1) := by
  obtain ⟨g0, h0⟩ := zbs_u1 h
  show (Except.bind ((Decoder.instr pc).runAt code pc) fun x => Except.ok (x.1, x.2 - pc)) = _
  have e : (Decoder.instr pc).runAt code pc = .ok (.irem, pc + 1) := by
    show (Except.bind ((Reader.u1 : Decoder Nat) code (pc)) _) = _
    rw [g0]
    rfl
  rw [e]
  show Except.ok (_, pc + 1 - pc) = _
  rw [show pc + 1 - pc = 1 by omega]
theorem zd_113 {code : ByteArray} {pc : Nat} {r : List Nat} (h : zbs code pc = 113 :: r) : decode code pc = .ok (.lrem, 1) := by
  obtain ⟨g0, h0⟩ := zbs_u1 h
  show (Except.bind ((Decoder.instr pc).runAt code pc) fun x => Except.ok (x.1, x.2 - pc)) = _
  have e : (Decoder.instr pc).runAt code pc = .ok (.lrem, pc + 1) := by
    show (Except.bind ((Reader.u1 : Decoder Nat) code (pc)) _) = _
    rw [g0]
    rfl
  rw [e]
  show Except.ok (_, pc + 1 - pc) = _
  rw [show pc + 1 - pc = 1 by omega]
theorem zd_116 {code : ByteArray} {pc : Nat} {r : List Nat} (h : zbs code pc = 116 :: r) : decode code pc = .ok (.ineg, 1) := by
  obtain ⟨g0, h0⟩ := zbs_u1 h
  show (Except.bind ((Decoder.instr pc).runAt code pc) fun x => Except.ok (x.1, x.2 - pc)) = _
  have e : (Decoder.instr pc).runAt code pc = .ok (.ineg, pc + 1) := by
    show (Except.bind ((Reader.u1 : Decoder Nat) code (pc)) _) = _
    rw [g0]
    rfl
  rw [e]
  show Except.ok (_, pc + 1 - pc) = _
  rw [show pc + 1 - pc = 1 by omega]
theorem zd_117 {code : ByteArray} {pc : Nat} {r : List Nat} (h : zbs code pc = 117 :: r) : decode code pc = .ok (.lneg, 1) := by
  obtain ⟨g0, h0⟩ := zbs_u1 h
  show (Except.bind ((Decoder.instr pc).runAt code pc) fun x => Except.ok (x.1, x.2 - pc)) = _
  have e : (Decoder.instr pc).runAt code pc = .ok (.lneg, pc + 1) := by
    show (Except.bind ((Reader.u1 : Decoder Nat) code (pc)) _) = _
    rw [g0]
    rfl
  rw [e]
  show Except.ok (_, pc + 1 - pc) = _
  rw [show pc + 1 - pc = 1 by omega]
theorem zd_120 {code : ByteArray} {pc : Nat} {r : List Nat} (h : zbs code pc = 120 :: r) : decode code pc = .ok (.ishl, 1) := by
  obtain ⟨g0, h0⟩ := zbs_u1 h
  show (Except.bind ((Decoder.instr pc).runAt code pc) fun x => Except.ok (x.1, x.2 - pc)) = _
  have e : (Decoder.instr pc).runAt code pc = .ok (.ishl, pc + 1) := by
    show (Except.bind ((Reader.u1 : Decoder Nat) code (pc)) _) = _
    rw [g0]
    rfl
  rw [e]
  show Except.ok (_, pc + 1 - pc) = _
  rw [show pc + 1 - pc = 1 by omega]
theorem zd_121 {code : ByteArray} {pc : Nat} {r : List Nat} (h : zbs code pc = 121 :: r) : decode code pc = .ok (.lshl, 1) := by
  obtain ⟨g0, h0⟩ := zbs_u1 h
  show (Except.bind ((Decoder.instr pc).runAt code pc) fun x => Except.ok (x.1, x.2 - pc)) = _
  have e : (Decoder.instr pc).runAt code pc = .ok (.lshl, pc + 1) := by
    show (Except.bind ((Reader.u1 : Decoder Nat) code (pc)) _) = _
    rw [g0]
    rfl
  rw [e]
  show Except.ok (_, pc + 1 - pc) = _
  rw [show pc + 1 - pc = 1 by omega]
theorem zd_122 {code : ByteArray} {pc : Nat} {r : List Nat} (h : zbs code pc = 122 :: r) : decode code pc = .ok (.ishr, 1) := by
  obtain ⟨g0, h0⟩ := zbs_u1 h
  show (Except.bind ((Decoder.instr pc).runAt code pc) fun x => Except.ok (x.1, x.2 - pc)) = _
  have e : (Decoder.instr pc).runAt code pc = .ok (.ishr, pc + 1) := by
    show (Except.bind ((Reader.u1 : Decoder Nat) code (pc)) _) = _
    rw [g0]
    rfl
  rw [e]
  show Except.ok (_, pc + 1 - pc) = _
  rw [show pc + 1 - pc = 1 by omega]
theorem zd_123 {code : ByteArray} {pc : Nat} {r : List Nat} (h : zbs code pc = 123 :: r) : decode code pc = .ok (.lshr, 1) := by
  obtain ⟨g0, h0⟩ := zbs_u1 h
  show (Except.bind ((Decoder.instr pc).runAt code pc) fun x => Except.ok (x.1, x.2 - pc)) = _
  have e : (Decoder.instr pc).runAt code pc = .ok (.lshr, pc + 1) := by
    show (Except.bind ((Reader.u1 : Decoder Nat) code (pc)) _) = _
    rw [g0]
    rfl
  rw [e]
  show Except.ok (_, pc + 1 - pc) = _
  rw [show pc + 1 - pc = 1 by omega]
theorem zd_125 {code : ByteArray} {pc : Nat} {r : List Nat} (h : zbs code pc = 125 :: r) : decode code pc = .ok (.lushr, 1) := by
  obtain ⟨g0, h0⟩ := zbs_u1 h
  show (Except.bind ((Decoder.instr pc).runAt code pc) fun x => Except.ok (x.1, x.2 - pc)) = _
  have e : (Decoder.instr pc).runAt code pc = .ok (.lushr, pc + 1) := by
    show (Except.bind ((Reader.u1 : Decoder Nat) code (pc)) _) = _
    rw [g0]
    rfl
  rw [e]
  show Except.ok (_, pc + 1 - pc) = _
  rw [show pc + 1 - pc = 1 by omega]
theorem zd_126 {code : ByteArray} {pc : Nat} {r : List Nat} (h : zbs code pc = 126 :: r) : decode code pc = .ok (.iand, 1) := by
  obtain ⟨g0, h0⟩ := zbs_u1 h
  show (Except.bind ((Decoder.instr pc).runAt code pc) fun x => Except.ok (x.1, x.2 - pc)) = _
  have e : (Decoder.instr pc).runAt code pc = .ok (.iand, pc + 1) := by
    show (Except.bind ((Reader.u1 : Decoder Nat) code (pc)) _) = _
    rw [g0]
    rfl
  rw [e]
  show Except.ok (_, pc + 1 - pc) = _
  rw [show pc + 1 - pc = 1 by omega]
theorem zd_127 {code : ByteArray} {pc : Nat} {r : List Nat} (h : zbs code pc = 127 :: r) : decode code pc = .ok (.land, 1) := by
  obtain ⟨g0, h0⟩ := zbs_u1 h
  show (Except.bind ((Decoder.instr pc).runAt code pc) fun x => Except.ok (x.1, x.2 - pc)) = _
  have e : (Decoder.instr pc).runAt code pc = .ok (.land, pc + 1) := by
    show (Except.bind ((Reader.u1 : Decoder Nat) code (pc)) _) = _
    rw [g0]
    rfl
  rw [e]
  show Except.ok (_, pc + 1 - pc) = _
  rw [show pc + 1 - pc = 1 by omega]
theorem zd_128 {code : ByteArray} {pc : Nat} {r : List Nat} (h : zbs code pc = 128 :: r) : decode code pc = .ok (.ior, 1) := by
  obtain ⟨g0, h0⟩ := zbs_u1 h
  show (Except.bind ((Decoder.instr pc).runAt code pc) fun x => Except.ok (x.1, x.2 - pc)) = _
  have e : (Decoder.instr pc).runAt code pc = .ok (.ior, pc + 1) := by
    show (Except.bind ((Reader.u1 : Decoder Nat) code (pc)) _) = _
    rw [g0]
    rfl
  rw [e]
  show Except.ok (_, pc + 1 - pc) = _
  rw [show pc + 1 - pc = 1 by omega]
theorem zd_129 {code : ByteArray} {pc : Nat} {r : List Nat} (h : zbs code pc = 129 :: r) : decode code pc = .ok (.lor, 1) := by
  obtain ⟨g0, h0⟩ := zbs_u1 h
  show (Except.bind ((Decoder.instr pc).runAt code pc) fun x => Except.ok (x.1, x.2 - pc)) = _
  have e : (Decoder.instr pc).runAt code pc = .ok (.lor, pc + 1) := by
    show (Except.bind ((Reader.u1 : Decoder Nat) code (pc)) _) = _
    rw [g0]
    rfl
  rw [e]
  show Except.ok (_, pc + 1 - pc) = _
  rw [show pc + 1 - pc = 1 by omega]
theorem zd_130 {code : ByteArray} {pc : Nat} {r : List Nat} (h : zbs code pc = 130 :: r) : decode code pc = .ok (.ixor, 1) := by
  obtain ⟨g0, h0⟩ := zbs_u1 h
  show (Except.bind ((Decoder.instr pc).runAt code pc) fun x => Except.ok (x.1, x.2 - pc)) = _
  have e : (Decoder.instr pc).runAt code pc = .ok (.ixor, pc + 1) := by
    show (Except.bind ((Reader.u1 : Decoder Nat) code (pc)) _) = _
    rw [g0]
    rfl
  rw [e]
  show Except.ok (_, pc + 1 - pc) = _
  rw [show pc + 1 - pc = 1 by omega]
theorem zd_131 {code : ByteArray} {pc : Nat} {r : List Nat} (h : zbs code pc = 131 :: r) : decode code pc = .ok (.lxor, 1) := by
  obtain ⟨g0, h0⟩ := zbs_u1 h
  show (Except.bind ((Decoder.instr pc).runAt code pc) fun x => Except.ok (x.1, x.2 - pc)) = _
  have e : (Decoder.instr pc).runAt code pc = .ok (.lxor, pc + 1) := by
    show (Except.bind ((Reader.u1 : Decoder Nat) code (pc)) _) = _
    rw [g0]
    rfl
  rw [e]
  show Except.ok (_, pc + 1 - pc) = _
  rw [show pc + 1 - pc = 1 by omega]
theorem zd_132 {code : ByteArray} {pc a b : Nat} {r : List Nat} (h : zbs code pc = 132 :: a :: b :: r) : decode code pc = .ok (.iinc a (Reader.signed 8 b), 3) := by
  obtain ⟨g0, h0⟩ := zbs_u1 h
  obtain ⟨g1, h1⟩ := zbs_u1 h0
  have g2 := zbs_s1 h1
  show (Except.bind ((Decoder.instr pc).runAt code pc) fun x => Except.ok (x.1, x.2 - pc)) = _
  have e : (Decoder.instr pc).runAt code pc = .ok (.iinc a (Reader.signed 8 b), pc + 1 + 1 + 1) := by
    show (Except.bind ((Reader.u1 : Decoder Nat) code (pc)) _) = _
    rw [g0]
    show (Except.bind ((Reader.u1 : Decoder Nat) code (pc + 1)) _) = _
    rw [g1]
    show (Except.bind ((Reader.s1 : Decoder Int) code (pc + 1 + 1)) _) = _
    rw [g2]
    rfl
  rw [e]
  show Except.ok (_, pc + 1 + 1 + 1 - pc) = _
  rw [show pc + 1 + 1 + 1 - pc = 3 by omega]
theorem zd_133 {code : ByteArray} {pc : Nat} {r : List Nat} (h : zbs code pc = 133 :: r) : decode code pc = .ok (.i2l, 1) := by
  obtain ⟨g0, h0⟩ := zbs_u1 h
  show (Except.bind ((Decoder.instr pc).runAt code pc) fun x => Except.ok (x.1, x.2 - pc)) = _
  have e : (Decoder.instr pc).runAt code pc = .ok (.i2l, pc + 1) := by
    show (Except.bind ((Reader.u1 : Decoder Nat) code (pc)) _) = _
    rw [g0]
    rfl
  rw [e]
  show Except.ok (_, pc + 1 - pc) = _
  rw [show pc + 1 - pc = 1 by omega]
theorem zd_136 {code : ByteArray} {pc : Nat} {r : List Nat} (h : zbs code pc = 136 :: r) : decode code pc = .ok (.l2i, 1) := by
  obtain ⟨g0, h0⟩ := zbs_u1 h
  show (Except.bind ((Decoder.instr pc).runAt code pc) fun x => Except.ok (x.1, x.2 - pc)) = _
  have e : (Decoder.instr pc).runAt code pc = .ok (.l2i, pc + 1) := by
    show (Except.bind ((Reader.u1 : Decoder Nat) code (pc)) _) = _
    rw [g0]
    rfl
  rw [e]
  show Except.ok (_, pc + 1 - pc) = _
  rw [show pc + 1 - pc = 1 by omega]
theorem zd_145 {code : ByteArray} {pc : Nat} {r : List Nat} (h : zbs code pc = 145 :: r) : decode code pc = .ok (.i2b, 1) := by
  obtain ⟨g0, h0⟩ := zbs_u1 h
  show (Except.bind ((Decoder.instr pc).runAt code pc) fun x => Except.ok (x.1, x.2 - pc)) = _
  have e : (Decoder.instr pc).runAt code pc = .ok (.i2b, pc + 1) := by
    show (Except.bind ((Reader.u1 : Decoder Nat) code (pc)) _) = _
    rw [g0]
    rfl
  rw [e]
  show Except.ok (_, pc + 1 - pc) = _
  rw [show pc + 1 - pc = 1 by omega]
theorem zd_146 {code : ByteArray} {pc : Nat} {r : List Nat} (h : zbs code pc = 146 :: r) : decode code pc = .ok (.i2c, 1) := by
  obtain ⟨g0, h0⟩ := zbs_u1 h
  show (Except.bind ((Decoder.instr pc).runAt code pc) fun x => Except.ok (x.1, x.2 - pc)) = _
  have e : (Decoder.instr pc).runAt code pc = .ok (.i2c, pc + 1) := by
    show (Except.bind ((Reader.u1 : Decoder Nat) code (pc)) _) = _
    rw [g0]
    rfl
  rw [e]
  show Except.ok (_, pc + 1 - pc) = _
  rw [show pc + 1 - pc = 1 by omega]
theorem zd_148 {code : ByteArray} {pc : Nat} {r : List Nat} (h : zbs code pc = 148 :: r) : decode code pc = .ok (.lcmp, 1) := by
  obtain ⟨g0, h0⟩ := zbs_u1 h
  show (Except.bind ((Decoder.instr pc).runAt code pc) fun x => Except.ok (x.1, x.2 - pc)) = _
  have e : (Decoder.instr pc).runAt code pc = .ok (.lcmp, pc + 1) := by
    show (Except.bind ((Reader.u1 : Decoder Nat) code (pc)) _) = _
    rw [g0]
    rfl
  rw [e]
  show Except.ok (_, pc + 1 - pc) = _
  rw [show pc + 1 - pc = 1 by omega]
theorem zd_153 {code : ByteArray} {pc a b : Nat} {r : List Nat} (h : zbs code pc = 153 :: a :: b :: r) : decode code pc = .ok (.ifCond .eq (Reader.signed 16 (a * 256 + b)), 3) := by
  obtain ⟨g0, h0⟩ := zbs_u1 h
  have g1 := zbs_s2 h0
  show (Except.bind ((Decoder.instr pc).runAt code pc) fun x => Except.ok (x.1, x.2 - pc)) = _
  have e : (Decoder.instr pc).runAt code pc = .ok (.ifCond .eq (Reader.signed 16 (a * 256 + b)), pc + 1 + 1 + 1) := by
    show (Except.bind ((Reader.u1 : Decoder Nat) code (pc)) _) = _
    rw [g0]
    show (Except.bind ((Reader.s2 : Decoder Int) code (pc + 1)) _) = _
    rw [g1]
    rfl
  rw [e]
  show Except.ok (_, pc + 1 + 1 + 1 - pc) = _
  rw [show pc + 1 + 1 + 1 - pc = 3 by omega]
theorem zd_154 {code : ByteArray} {pc a b : Nat} {r : List Nat} (h : zbs code pc = 154 :: a :: b :: r) : decode code pc = .ok (.ifCond .ne (Reader.signed 16 (a * 256 + b)), 3) := by
  obtain ⟨g0, h0⟩ := zbs_u1 h
  have g1 := zbs_s2 h0
  show (Except.bind ((Decoder.instr pc).runAt code pc) fun x => Except.ok (x.1, x.2 - pc)) = _
  have e : (Decoder.instr pc).runAt code pc = .ok (.ifCond .ne (Reader.signed 16 (a * 256 + b)), pc + 1 + 1 + 1) := by
    show (Except.bind ((Reader.u1 : Decoder Nat) code (pc)) _) = _
    rw [g0]
    show (Except.bind ((Reader.s2 : Decoder Int) code (pc + 1)) _) = _
    rw [g1]
    rfl
  rw [e]
  show Except.ok (_, pc + 1 + 1 + 1 - pc) = _
  rw [show pc + 1 + 1 + 1 - pc = 3 by omega]
theorem zd_155 {code : ByteArray} {pc a b : Nat} {r : List Nat} (h : zbs code pc = 155 :: a :: b :: r) : decode code pc = .ok (.ifCond .lt (Reader.signed 16 (a * 256 + b)), 3) := by
  obtain ⟨g0, h0⟩ := zbs_u1 h
  have g1 := zbs_s2 h0
  show (Except.bind ((Decoder.instr pc).runAt code pc) fun x => Except.ok (x.1, x.2 - pc)) = _
  have e : (Decoder.instr pc).runAt code pc = .ok (.ifCond .lt (Reader.signed 16 (a * 256 + b)), pc + 1 + 1 + 1) := by
    show (Except.bind ((Reader.u1 : Decoder Nat) code (pc)) _) = _
    rw [g0]
    show (Except.bind ((Reader.s2 : Decoder Int) code (pc + 1)) _) = _
    rw [g1]
    rfl
  rw [e]
  show Except.ok (_, pc + 1 + 1 + 1 - pc) = _
  rw [show pc + 1 + 1 + 1 - pc = 3 by omega]
theorem zd_156 {code : ByteArray} {pc a b : Nat} {r : List Nat} (h : zbs code pc = 156 :: a :: b :: r) : decode code pc = .ok (.ifCond .ge (Reader.signed 16 (a * 256 + b)), 3) := by
  obtain ⟨g0, h0⟩ := zbs_u1 h
  have g1 := zbs_s2 h0
  show (Except.bind ((Decoder.instr pc).runAt code pc) fun x => Except.ok (x.1, x.2 - pc)) = _
  have e : (Decoder.instr pc).runAt code pc = .ok (.ifCond .ge (Reader.signed 16 (a * 256 + b)), pc + 1 + 1 + 1) := by
    show (Except.bind ((Reader.u1 : Decoder Nat) code (pc)) _) = _
    rw [g0]
    show (Except.bind ((Reader.s2 : Decoder Int) code (pc + 1)) _) = _
    rw [g1]
    rfl
  rw [e]
  show Except.ok (_, pc + 1 + 1 + 1 - pc) = _
  rw [show pc + 1 + 1 + 1 - pc = 3 by omega]
theorem zd_157 {code : ByteArray} {pc a b : Nat} {r : List Nat} (h : zbs code pc = 157 :: a :: b :: r) : decode code pc = .ok (.ifCond .gt (Reader.signed 16 (a * 256 + b)), 3) := by
  obtain ⟨g0, h0⟩ := zbs_u1 h
  have g1 := zbs_s2 h0
  show (Except.bind ((Decoder.instr pc).runAt code pc) fun x => Except.ok (x.1, x.2 - pc)) = _
  have e : (Decoder.instr pc).runAt code pc = .ok (.ifCond .gt (Reader.signed 16 (a * 256 + b)), pc + 1 + 1 + 1) := by
    show (Except.bind ((Reader.u1 : Decoder Nat) code (pc)) _) = _
    rw [g0]
    show (Except.bind ((Reader.s2 : Decoder Int) code (pc + 1)) _) = _
    rw [g1]
    rfl
  rw [e]
  show Except.ok (_, pc + 1 + 1 + 1 - pc) = _
  rw [show pc + 1 + 1 + 1 - pc = 3 by omega]
theorem zd_158 {code : ByteArray} {pc a b : Nat} {r : List Nat} (h : zbs code pc = 158 :: a :: b :: r) : decode code pc = .ok (.ifCond .le (Reader.signed 16 (a * 256 + b)), 3) := by
  obtain ⟨g0, h0⟩ := zbs_u1 h
  have g1 := zbs_s2 h0
  show (Except.bind ((Decoder.instr pc).runAt code pc) fun x => Except.ok (x.1, x.2 - pc)) = _
  have e : (Decoder.instr pc).runAt code pc = .ok (.ifCond .le (Reader.signed 16 (a * 256 + b)), pc + 1 + 1 + 1) := by
    show (Except.bind ((Reader.u1 : Decoder Nat) code (pc)) _) = _
    rw [g0]
    show (Except.bind ((Reader.s2 : Decoder Int) code (pc + 1)) _) = _
    rw [g1]
    rfl
  rw [e]
  show Except.ok (_, pc + 1 + 1 + 1 - pc) = _
  rw [show pc + 1 + 1 + 1 - pc = 3 by omega]
theorem zd_159 {code : ByteArray} {pc a b : Nat} {r : List Nat} (h : zbs code pc = 159 :: a :: b :: r) : decode code pc = .ok (.if_icmp .eq (Reader.signed 16 (a * 256 + b)), 3) := by
  obtain ⟨g0, h0⟩ := zbs_u1 h
  have g1 := zbs_s2 h0
  show (Except.bind ((Decoder.instr pc).runAt code pc) fun x => Except.ok (x.1, x.2 - pc)) = _
  have e : (Decoder.instr pc).runAt code pc = .ok (.if_icmp .eq (Reader.signed 16 (a * 256 + b)), pc + 1 + 1 + 1) := by
    show (Except.bind ((Reader.u1 : Decoder Nat) code (pc)) _) = _
    rw [g0]
    show (Except.bind ((Reader.s2 : Decoder Int) code (pc + 1)) _) = _
    rw [g1]
    rfl
  rw [e]
  show Except.ok (_, pc + 1 + 1 + 1 - pc) = _
  rw [show pc + 1 + 1 + 1 - pc = 3 by omega]
theorem zd_160 {code : ByteArray} {pc a b : Nat} {r : List Nat} (h : zbs code pc = 160 :: a :: b :: r) : decode code pc = .ok (.if_icmp .ne (Reader.signed 16 (a * 256 + b)), 3) := by
  obtain ⟨g0, h0⟩ := zbs_u1 h
  have g1 := zbs_s2 h0
  show (Except.bind ((Decoder.instr pc).runAt code pc) fun x => Except.ok (x.1, x.2 - pc)) = _
  have e : (Decoder.instr pc).runAt code pc = .ok (.if_icmp .ne (Reader.signed 16 (a * 256 + b)), pc + 1 + 1 + 1) := by
    show (Except.bind ((Reader.u1 : Decoder Nat) code (pc)) _) = _
    rw [g0]
    show (Except.bind ((Reader.s2 : Decoder Int) code (pc + 1)) _) = _
    rw [g1]
    rfl
  rw [e]
  show Except.ok (_, pc + 1 + 1 + 1 - pc) = _
  rw [show pc + 1 + 1 + 1 - pc = 3 by omega]
theorem zd_161 {code : ByteArray} {pc a b : Nat} {r : List Nat} (h : zbs code pc = 161 :: a :: b :: r) : decode code pc = .ok (.if_icmp .lt (Reader.signed 16 (a * 256 + b)), 3) := by
  obtain ⟨g0, h0⟩ := zbs_u1 h
  have g1 := zbs_s2 h0
  show (Except.bind ((Decoder.instr pc).runAt code pc) fun x => Except.ok (x.1, x.2 - pc)) = _
  have e : (Decoder.instr pc).runAt code pc = .ok (.if_icmp .lt (Reader.signed 16 (a * 256 + b)), pc + 1 + 1 + 1) := by
    show (Except.bind ((Reader.u1 : Decoder Nat) code (pc)) _) = _
    rw [g0]
    show (Except.bind ((Reader.s2 : Decoder Int) code (pc + 1)) _) = _
    rw [g1]
    rfl
  rw [e]
  show Except.ok (_, pc + 1 + 1 + 1 - pc) = _
  rw [show pc + 1 + 1 + 1 - pc = 3 by omega]
theorem zd_162 {code : ByteArray} {pc a b : Nat} {r : List Nat} (h : zbs code pc = 162 :: a :: b :: r) : decode code pc = .ok (.if_icmp .ge (Reader.signed 16 (a * 256 + b)), 3) := by
  obtain ⟨g0, h0⟩ := zbs_u1 h
  have g1 := zbs_s2 h0
  show (Except.bind ((Decoder.instr pc).runAt code pc) fun x => Except.ok (x.1, x.2 - pc)) = _
  have e : (Decoder.instr pc).runAt code pc = .ok (.if_icmp .ge (Reader.signed 16 (a * 256 + b)), pc + 1 + 1 + 1) := by
    show (Except.bind ((Reader.u1 : Decoder Nat) code (pc)) _) = _
    rw [g0]
    show (Except.bind ((Reader.s2 : Decoder Int) code (pc + 1)) _) = _
    rw [g1]
    rfl
  rw [e]
  show Except.ok (_, pc + 1 + 1 + 1 - pc) = _
  rw [show pc + 1 + 1 + 1 - pc = 3 by omega]
theorem zd_163 {code : ByteArray} {pc a b : Nat} {r : List Nat} (h : zbs code pc = 163 :: a :: b :: r) : decode code pc = .ok (.if_icmp .gt (Reader.signed 16 (a * 256 + b)), 3) := by
  obtain ⟨g0, h0⟩ := zbs_u1 h
  have g1 := zbs_s2 h0
  show (Except.bind ((Decoder.instr pc).runAt code pc) fun x => Except.ok (x.1, x.2 - pc)) = _
  have e : (Decoder.instr pc).runAt code pc = .ok (.if_icmp .gt (Reader.signed 16 (a * 256 + b)), pc + 1 + 1 + 1) := by
    show (Except.bind ((Reader.u1 : Decoder Nat) code (pc)) _) = _
    rw [g0]
    show (Except.bind ((Reader.s2 : Decoder Int) code (pc + 1)) _) = _
    rw [g1]
    rfl
  rw [e]
  show Except.ok (_, pc + 1 + 1 + 1 - pc) = _
  rw [show pc + 1 + 1 + 1 - pc = 3 by omega]
theorem zd_164 {code : ByteArray} {pc a b : Nat} {r : List Nat} (h : zbs code pc = 164 :: a :: b :: r) : decode code pc = .ok (.if_icmp .le (Reader.signed 16 (a * 256 + b)), 3) := by
  obtain ⟨g0, h0⟩ := zbs_u1 h
  have g1 := zbs_s2 h0
  show (Except.bind ((Decoder.instr pc).runAt code pc) fun x => Except.ok (x.1, x.2 - pc)) = _
  have e : (Decoder.instr pc).runAt code pc = .ok (.if_icmp .le (Reader.signed 16 (a * 256 + b)), pc + 1 + 1 + 1) := by
    show (Except.bind ((Reader.u1 : Decoder Nat) code (pc)) _) = _
    rw [g0]
    show (Except.bind ((Reader.s2 : Decoder Int) code (pc + 1)) _) = _
    rw [g1]
    rfl
  rw [e]
  show Except.ok (_, pc + 1 + 1 + 1 - pc) = _
  rw [show pc + 1 + 1 + 1 - pc = 3 by omega]
theorem zd_167 {code : ByteArray} {pc a b : Nat} {r : List Nat} (h : zbs code pc = 167 :: a :: b :: r) : decode code pc = .ok (.goto (Reader.signed 16 (a * 256 + b)), 3) := by
  obtain ⟨g0, h0⟩ := zbs_u1 h
  have g1 := zbs_s2 h0
  show (Except.bind ((Decoder.instr pc).runAt code pc) fun x => Except.ok (x.1, x.2 - pc)) = _
  have e : (Decoder.instr pc).runAt code pc = .ok (.goto (Reader.signed 16 (a * 256 + b)), pc + 1 + 1 + 1) := by
    show (Except.bind ((Reader.u1 : Decoder Nat) code (pc)) _) = _
    rw [g0]
    show (Except.bind ((Reader.s2 : Decoder Int) code (pc + 1)) _) = _
    rw [g1]
    rfl
  rw [e]
  show Except.ok (_, pc + 1 + 1 + 1 - pc) = _
  rw [show pc + 1 + 1 + 1 - pc = 3 by omega]
theorem zd_172 {code : ByteArray} {pc : Nat} {r : List Nat} (h : zbs code pc = 172 :: r) : decode code pc = .ok (.ireturn, 1) := by
  obtain ⟨g0, h0⟩ := zbs_u1 h
  show (Except.bind ((Decoder.instr pc).runAt code pc) fun x => Except.ok (x.1, x.2 - pc)) = _
  have e : (Decoder.instr pc).runAt code pc = .ok (.ireturn, pc + 1) := by
    show (Except.bind ((Reader.u1 : Decoder Nat) code (pc)) _) = _
    rw [g0]
    rfl
  rw [e]
  show Except.ok (_, pc + 1 - pc) = _
  rw [show pc + 1 - pc = 1 by omega]
theorem zd_173 {code : ByteArray} {pc : Nat} {r : List Nat} (h : zbs code pc = 173 :: r) : decode code pc = .ok (.lreturn, 1) := by
  obtain ⟨g0, h0⟩ := zbs_u1 h
  show (Except.bind ((Decoder.instr pc).runAt code pc) fun x => Except.ok (x.1, x.2 - pc)) = _
  have e : (Decoder.instr pc).runAt code pc = .ok (.lreturn, pc + 1) := by
    show (Except.bind ((Reader.u1 : Decoder Nat) code (pc)) _) = _
    rw [g0]
    rfl
  rw [e]
  show Except.ok (_, pc + 1 - pc) = _
  rw [show pc + 1 - pc = 1 by omega]
theorem zd_176 {code : ByteArray} {pc : Nat} {r : List Nat} (h : zbs code pc = 176 :: r) : decode code pc = .ok (.areturn, 1) := by
  obtain ⟨g0, h0⟩ := zbs_u1 h
  show (Except.bind ((Decoder.instr pc).runAt code pc) fun x => Except.ok (x.1, x.2 - pc)) = _
  have e : (Decoder.instr pc).runAt code pc = .ok (.areturn, pc + 1) := by
    show (Except.bind ((Reader.u1 : Decoder Nat) code (pc)) _) = _
    rw [g0]
    rfl
  rw [e]
  show Except.ok (_, pc + 1 - pc) = _
  rw [show pc + 1 - pc = 1 by omega]
theorem zd_177 {code : ByteArray} {pc : Nat} {r : List Nat} (h : zbs code pc = 177 :: r) : decode code pc = .ok (.return_, 1) := by
  obtain ⟨g0, h0⟩ := zbs_u1 h
  show (Except.bind ((Decoder.instr pc).runAt code pc) fun x => Except.ok (x.1, x.2 - pc)) = _
  have e : (Decoder.instr pc).runAt code pc = .ok (.return_, pc + 1) := by
    show (Except.bind ((Reader.u1 : Decoder Nat) code (pc)) _) = _
    rw [g0]
    rfl
  rw [e]
  show Except.ok (_, pc + 1 - pc) = _
  rw [show pc + 1 - pc = 1 by omega]
theorem zd_178 {code : ByteArray} {pc a b : Nat} {r : List Nat} (h : zbs code pc = 178 :: a :: b :: r) : decode code pc = .ok (.getstatic (a * 256 + b), 3) := by
  obtain ⟨g0, h0⟩ := zbs_u1 h
  have g1 := zbs_u2 h0
  show (Except.bind ((Decoder.instr pc).runAt code pc) fun x => Except.ok (x.1, x.2 - pc)) = _
  have e : (Decoder.instr pc).runAt code pc = .ok (.getstatic (a * 256 + b), pc + 1 + 1 + 1) := by
    show (Except.bind ((Reader.u1 : Decoder Nat) code (pc)) _) = _
    rw [g0]
    show (Except.bind ((Reader.u2 : Decoder Nat) code (pc + 1)) _) = _
    rw [g1]
    rfl
  rw [e]
  show Except.ok (_, pc + 1 + 1 + 1 - pc) = _
  rw [show pc + 1 + 1 + 1 - pc = 3 by omega]
theorem zd_180 {code : ByteArray} {pc a b : Nat} {r : List Nat} (h : zbs code pc = 180 :: a :: b :: r) : decode code pc = .ok (.getfield (a * 256 + b), 3) := by
  obtain ⟨g0, h0⟩ := zbs_u1 h
  have g1 := zbs_u2 h0
  show (Except.bind ((Decoder.instr pc).runAt code pc) fun x => Except.ok (x.1, x.2 - pc)) = _
  have e : (Decoder.instr pc).runAt code pc = .ok (.getfield (a * 256 + b), pc + 1 + 1 + 1) := by
    show (Except.bind ((Reader.u1 : Decoder Nat) code (pc)) _) = _
    rw [g0]
    show (Except.bind ((Reader.u2 : Decoder Nat) code (pc + 1)) _) = _
    rw [g1]
    rfl
  rw [e]
  show Except.ok (_, pc + 1 + 1 + 1 - pc) = _
  rw [show pc + 1 + 1 + 1 - pc = 3 by omega]
theorem zd_181 {code : ByteArray} {pc a b : Nat} {r : List Nat} (h : zbs code pc = 181 :: a :: b :: r) : decode code pc = .ok (.putfield (a * 256 + b), 3) := by
  obtain ⟨g0, h0⟩ := zbs_u1 h
  have g1 := zbs_u2 h0
  show (Except.bind ((Decoder.instr pc).runAt code pc) fun x => Except.ok (x.1, x.2 - pc)) = _
  have e : (Decoder.instr pc).runAt code pc = .ok (.putfield (a * 256 + b), pc + 1 + 1 + 1) := by
    show (Except.bind ((Reader.u1 : Decoder Nat) code (pc)) _) = _
    rw [g0]
    show (Except.bind ((Reader.u2 : Decoder Nat) code (pc + 1)) _) = _
    rw [g1]
    rfl
  rw [e]
  show Except.ok (_, pc + 1 + 1 + 1 - pc) = _
  rw [show pc + 1 + 1 + 1 - pc = 3 by omega]
theorem zd_182 {code : ByteArray} {pc a b : Nat} {r : List Nat} (h : zbs code pc = 182 :: a :: b :: r) : decode code pc = .ok (.invokevirtual (a * 256 + b), 3) := by
  obtain ⟨g0, h0⟩ := zbs_u1 h
  have g1 := zbs_u2 h0
  show (Except.bind ((Decoder.instr pc).runAt code pc) fun x => Except.ok (x.1, x.2 - pc)) = _
  have e : (Decoder.instr pc).runAt code pc = .ok (.invokevirtual (a * 256 + b), pc + 1 + 1 + 1) := by
    show (Except.bind ((Reader.u1 : Decoder Nat) code (pc)) _) = _
    rw [g0]
    show (Except.bind ((Reader.u2 : Decoder Nat) code (pc + 1)) _) = _
    rw [g1]
    rfl
  rw [e]
  show Except.ok (_, pc + 1 + 1 + 1 - pc) = _
  rw [show pc + 1 + 1 + 1 - pc = 3 by omega]
theorem zd_183 {code : ByteArray} {pc a b : Nat} {r : List Nat} (h : zbs code pc = 183 :: a :: b :: r) : decode code pc = .ok (.invokespecial (a * 256 + b), 3) := by
  obtain ⟨g0, h0⟩ := zbs_u1 h
  have g1 := zbs_u2 h0
  show (Except.bind ((Decoder.instr pc).runAt code pc) fun x => Except.ok (x.1, x.2 - pc)) = _
  have e : (Decoder.instr pc).runAt code pc = .ok (.invokespecial (a * 256 + b), pc + 1 + 1 + 1) := by
    show (Except.bind ((Reader.u1 : Decoder Nat) code (pc)) _) = _
    rw [g0]
    show (Except.bind ((Reader.u2 : Decoder Nat) code (pc + 1)) _) = _
    rw [g1]
    rfl
  rw [e]
  show Except.ok (_, pc + 1 + 1 + 1 - pc) = _
  rw [show pc + 1 + 1 + 1 - pc = 3 by omega]
theorem zd_184 {code : ByteArray} {pc a b : Nat} {r : List Nat} (h : zbs code pc = 184 :: a :: b :: r) : decode code pc = .ok (.invokestatic (a * 256 + b), 3) := by
  obtain ⟨g0, h0⟩ := zbs_u1 h
  have g1 := zbs_u2 h0
  show (Except.bind ((Decoder.instr pc).runAt code pc) fun x => Except.ok (x.1, x.2 - pc)) = _
  have e : (Decoder.instr pc).runAt code pc = .ok (.invokestatic (a * 256 + b), pc + 1 + 1 + 1) := by
    show (Except.bind ((Reader.u1 : Decoder Nat) code (pc)) _) = _
    rw [g0]
    show (Except.bind ((Reader.u2 : Decoder Nat) code (pc + 1)) _) = _
    rw [g1]
    rfl
  rw [e]
  show Except.ok (_, pc + 1 + 1 + 1 - pc) = _
  rw [show pc + 1 + 1 + 1 - pc = 3 by omega]
theorem zd_187 {code : ByteArray} {pc a b : Nat} {r : List Nat} (h : zbs code pc = 187 :: a :: b :: r) : decode code pc = .ok (.new (a * 256 + b), 3) := by
  obtain ⟨g0, h0⟩ := zbs_u1 h
  have g1 := zbs_u2 h0
  show (Except.bind ((Decoder.instr pc).runAt code pc) fun x => Except.ok (x.1, x.2 - pc)) = _
  have e : (Decoder.instr pc).runAt code pc = .ok (.new (a * 256 + b), pc + 1 + 1 + 1) := by
    show (Except.bind ((Reader.u1 : Decoder Nat) code (pc)) _) = _
    rw [g0]
    show (Except.bind ((Reader.u2 : Decoder Nat) code (pc + 1)) _) = _
    rw [g1]
    rfl
  rw [e]
  show Except.ok (_, pc + 1 + 1 + 1 - pc) = _
  rw [show pc + 1 + 1 + 1 - pc = 3 by omega]
theorem zd_188_4 {code : ByteArray} {pc : Nat} {r : List Nat} (h : zbs code pc = 188 :: 4 :: r) : decode code pc = .ok (.newarray .boolean, 2) := by
  obtain ⟨g0, h0⟩ := zbs_u1 h
  obtain ⟨g1, h1⟩ := zbs_u1 h0
  show (Except.bind ((Decoder.instr pc).runAt code pc) fun x => Except.ok (x.1, x.2 - pc)) = _
  have e : (Decoder.instr pc).runAt code pc = .ok (.newarray .boolean, pc + 1 + 1) := by
    show (Except.bind ((Reader.u1 : Decoder Nat) code (pc)) _) = _
    rw [g0]
    show (Except.bind ((Reader.u1 : Decoder Nat) code (pc + 1)) _) = _
    rw [g1]
    rfl
  rw [e]
  show Except.ok (_, pc + 1 + 1 - pc) = _
  rw [show pc + 1 + 1 - pc = 2 by omega]
theorem zd_188_5 {code : ByteArray} {pc : Nat} {r : List Nat} (h : zbs code pc = 188 :: 5 :: r) : decode code pc = .ok (.newarray .char, 2) := by
  obtain ⟨g0, h0⟩ := zbs_u1 h
  obtain ⟨g1, h1⟩ := zbs_u1 h0
  show (Except.bind ((Decoder.instr pc).runAt code pc) fun x => Except.ok (x.1, x.2 - pc)) = _
  have e : (Decoder.instr pc).runAt code pc = .ok (.newarray .char, pc + 1 + 1) := by
    show (Except.bind ((Reader.u1 : Decoder Nat) code (pc)) _) = _
    rw [g0]
    show (Except.bind ((Reader.u1 : Decoder Nat) code (pc + 1)) _) = _
    rw [g1]
    rfl
  rw [e]
  show Except.ok (_, pc + 1 + 1 - pc) = _
  rw [show pc + 1 + 1 - pc = 2 by omega]
theorem zd_188_6 {code : ByteArray} {pc : Nat} {r : List Nat} (h : zbs code pc = 188 :: 6 :: r) : decode code pc = .ok (.newarray .float, 2) := by
  obtain ⟨g0, h0⟩ := zbs_u1 h
  obtain ⟨g1, h1⟩ := zbs_u1 h0
  show (Except.bind ((Decoder.instr pc).runAt code pc) fun x => Except.ok (x.1, x.2 - pc)) = _
  have e : (Decoder.instr pc).runAt code pc = .ok (.newarray .float, pc + 1 + 1) := by
    show (Except.bind ((Reader.u1 : Decoder Nat) code (pc)) _) = _
    rw [g0]
    show (Except.bind ((Reader.u1 : Decoder Nat) code (pc + 1)) _) = _
    rw [g1]
    rfl
  rw [e]
  show Except.ok (_, pc + 1 + 1 - pc) = _
  rw [show pc + 1 + 1 - pc = 2 by omega]
theorem zd_188_7 {code : ByteArray} {pc : Nat} {r : List Nat} (h : zbs code pc = 188 :: 7 :: r) : decode code pc = .ok (.newarray .double, 2) := by
  obtain ⟨g0, h0⟩ := zbs_u1 h
  obtain ⟨g1, h1⟩ := zbs_u1 h0
  show (Except.bind ((Decoder.instr pc).runAt code pc) fun x => Except.ok (x.1, x.2 - pc)) = _
  have e : (Decoder.instr pc).runAt code pc = .ok (.newarray .double, pc + 1 + 1) := by
    show (Except.bind ((Reader.u1 : Decoder Nat) code (pc)) _) = _
    rw [g0]
    show (Except.bind ((Reader.u1 : Decoder Nat) code (pc + 1)) _) = _
    rw [g1]
    rfl
  rw [e]
  show Except.ok (_, pc + 1 + 1 - pc) = _
  rw [show pc + 1 + 1 - pc = 2 by omega]
theorem zd_188_8 {code : ByteArray} {pc : Nat} {r : List Nat} (h : zbs code pc = 188 :: 8 :: r) : decode code pc = .ok (.newarray .byte, 2) := by
  obtain ⟨g0, h0⟩ := zbs_u1 h
  obtain ⟨g1, h1⟩ := zbs_u1 h0
  show (Except.bind ((Decoder.instr pc).runAt code pc) fun x => Except.ok (x.1, x.2 - pc)) = _
  have e : (Decoder.instr pc).runAt code pc = .ok (.newarray .byte, pc + 1 + 1) := by
    show (Except.bind ((Reader.u1 : Decoder Nat) code (pc)) _) = _
    rw [g0]
    show (Except.bind ((Reader.u1 : Decoder Nat) code (pc + 1)) _) = _
    rw [g1]
    rfl
  rw [e]
  show Except.ok (_, pc + 1 + 1 - pc) = _
  rw [show pc + 1 + 1 - pc = 2 by omega]
theorem zd_188_9 {code : ByteArray} {pc : Nat} {r : List Nat} (h : zbs code pc = 188 :: 9 :: r) : decode code pc = .ok (.newarray .short, 2) := by
  obtain ⟨g0, h0⟩ := zbs_u1 h
  obtain ⟨g1, h1⟩ := zbs_u1 h0
  show (Except.bind ((Decoder.instr pc).runAt code pc) fun x => Except.ok (x.1, x.2 - pc)) = _
  have e : (Decoder.instr pc).runAt code pc = .ok (.newarray .short, pc + 1 + 1) := by
    show (Except.bind ((Reader.u1 : Decoder Nat) code (pc)) _) = _
    rw [g0]
    show (Except.bind ((Reader.u1 : Decoder Nat) code (pc + 1)) _) = _
    rw [g1]
    rfl
  rw [e]
  show Except.ok (_, pc + 1 + 1 - pc) = _
  rw [show pc + 1 + 1 - pc = 2 by omega]
theorem zd_188_10 {code : ByteArray} {pc : Nat} {r : List Nat} (h : zbs code pc = 188 :: 10 :: r) : decode code pc = .ok (.newarray .int, 2) := by
  obtain ⟨g0, h0⟩ := zbs_u1 h
  obtain ⟨g1, h1⟩ := zbs_u1 h0
  show (Except.bind ((Decoder.instr pc).runAt code pc) fun x => Except.ok (x.1, x.2 - pc)) = _
  have e : (Decoder.instr pc).runAt code pc = .ok (.newarray .int, pc + 1 + 1) := by
    show (Except.bind ((Reader.u1 : Decoder Nat) code (pc)) _) = _
    rw [g0]
    show (Except.bind ((Reader.u1 : Decoder Nat) code (pc + 1)) _) = _
    rw [g1]
    rfl
  rw [e]
  show Except.ok (_, pc + 1 + 1 - pc) = _
  rw [show pc + 1 + 1 - pc = 2 by omega]
theorem zd_188_11 {code : ByteArray} {pc : Nat} {r : List Nat} (h : zbs code pc = 188 :: 11 :: r) : decode code pc = .ok (.newarray .long, 2) := by
  obtain ⟨g0, h0⟩ := zbs_u1 h
  obtain ⟨g1, h1⟩ := zbs_u1 h0
  show (Except.bind ((Decoder.instr pc).runAt code pc) fun x => Except.ok (x.1, x.2 - pc)) = _
  have e : (Decoder.instr pc).runAt code pc = .ok (.newarray .long, pc + 1 + 1) := by
    show (Except.bind ((Reader.u1 : Decoder Nat) code (pc)) _) = _
    rw [g0]
    show (Except.bind ((Reader.u1 : Decoder Nat) code (pc + 1)) _) = _
    rw [g1]
    rfl
  rw [e]
  show Except.ok (_, pc + 1 + 1 - pc) = _
  rw [show pc + 1 + 1 - pc = 2 by omega]
theorem zd_189 {code : ByteArray} {pc a b : Nat} {r : List Nat} (h : zbs code pc = 189 :: a :: b :: r) : decode code pc = .ok (.anewarray (a * 256 + b), 3) := by
  obtain ⟨g0, h0⟩ := zbs_u1 h
  have g1 := zbs_u2 h0
  show (Except.bind ((Decoder.instr pc).runAt code pc) fun x => Except.ok (x.1, x.2 - pc)) = _
  have e : (Decoder.instr pc).runAt code pc = .ok (.anewarray (a * 256 + b), pc + 1 + 1 + 1) := by
    show (Except.bind ((Reader.u1 : Decoder Nat) code (pc)) _) = _
    rw [g0]
    show (Except.bind ((Reader.u2 : Decoder Nat) code (pc + 1)) _) = _
    rw [g1]
    rfl
  rw [e]
  show Except.ok (_, pc + 1 + 1 + 1 - pc) = _
  rw [show pc + 1 + 1 + 1 - pc = 3 by omega]
theorem zd_190 {code : ByteArray} {pc : Nat} {r : List Nat} (h : zbs code pc = 190 :: r) : decode code pc = .ok (.arraylength, 1) := by
  obtain ⟨g0, h0⟩ := zbs_u1 h
  show (Except.bind ((Decoder.instr pc).runAt code pc) fun x => Except.ok (x.1, x.2 - pc)) = _
  have e : (Decoder.instr pc).runAt code pc = .ok (.arraylength, pc + 1) := by
    show (Except.bind ((Reader.u1 : Decoder Nat) code (pc)) _) = _
    rw [g0]
    rfl
  rw [e]
  show Except.ok (_, pc + 1 - pc) = _
  rw [show pc + 1 - pc = 1 by omega]
theorem zd_191 {code : ByteArray} {pc : Nat} {r : List Nat} (h : zbs code pc = 191 :: r) : decode code pc = .ok (.athrow, 1) := by
  obtain ⟨g0, h0⟩ := zbs_u1 h
  show (Except.bind ((Decoder.instr pc).runAt code pc) fun x => Except.ok (x.1, x.2 - pc)) = _
  have e : (Decoder.instr pc).runAt code pc = .ok (.athrow, pc + 1) := by
    show (Except.bind ((Reader.u1 : Decoder Nat) code (pc)) _) = _
    rw [g0]
    rfl
  rw [e]
  show Except.ok (_, pc + 1 - pc) = _
  rw [show pc + 1 - pc = 1 by omega]
theorem zd_198 {code : ByteArray} {pc a b : Nat} {r : List Nat} (h : zbs code pc = 198 :: a :: b :: r) : decode code pc = .ok (.ifnull (Reader.signed 16 (a * 256 + b)), 3) := by
  obtain ⟨g0, h0⟩ := zbs_u1 h
  have g1 := zbs_s2 h0
  show (Except.bind ((Decoder.instr pc).runAt code pc) fun x => Except.ok (x.1, x.2 - pc)) = _
  have e : (Decoder.instr pc).runAt code pc = .ok (.ifnull (Reader.signed 16 (a * 256 + b)), pc + 1 + 1 + 1) := by
    show (Except.bind ((Reader.u1 : Decoder Nat) code (pc)) _) = _
    rw [g0]
    show (Except.bind ((Reader.s2 : Decoder Int) code (pc + 1)) _) = _
    rw [g1]
    rfl
  rw [e]
  show Except.ok (_, pc + 1 + 1 + 1 - pc) = _
  rw [show pc + 1 + 1 + 1 - pc = 3 by omega]
theorem zd_199 {code : ByteArray} {pc a b : Nat} {r : List Nat} (h : zbs code pc = 199 :: a :: b :: r) : decode code pc = .ok (.ifnonnull (Reader.signed 16 (a * 256 + b)), 3) := by
  obtain ⟨g0, h0⟩ := zbs_u1 h
  have g1 := zbs_s2 h0
  show (Except.bind ((Decoder.instr pc).runAt code pc) fun x => Except.ok (x.1, x.2 - pc)) = _
  have e : (Decoder.instr pc).runAt code pc = .ok (.ifnonnull (Reader.signed 16 (a * 256 + b)), pc + 1 + 1 + 1) := by
    show (Except.bind ((Reader.u1 : Decoder Nat) code (pc)) _) = _
    rw [g0]
    show (Except.bind ((Reader.s2 : Decoder Int) code (pc + 1)) _) = _
    rw [g1]
    rfl
  rw [e]
  show Except.ok (_, pc + 1 + 1 + 1 - pc) = _
  rw [show pc + 1 + 1 + 1 - pc = 3 by omega]
def zf1 (f : Nat → Instr) (r : List Nat) : Option (Instr × Nat) := match r with
  | a :: _ => some (f a, 2)
  | _ => none
def zf2 (f : Nat → Nat → Instr) (r : List Nat) : Option (Instr × Nat) := match r with
  | a :: b :: _ => some (f a b, 3)
  | _ => none
def zfna (r : List Nat) : Option (Instr × Nat) := match r with
  | 4 :: _ => some (.newarray .boolean, 2)
  | 5 :: _ => some (.newarray .char, 2)
  | 6 :: _ => some (.newarray .float, 2)
  | 7 :: _ => some (.newarray .double, 2)
  | 8 :: _ => some (.newarray .byte, 2)
  | 9 :: _ => some (.newarray .short, 2)
  | 10 :: _ => some (.newarray .int, 2)
  | 11 :: _ => some (.newarray .long, 2)
  | _ => none
def zfd (o : Nat) (r : List Nat) : Option (Instr × Nat) := cond (Nat.blt o 97) (cond (Nat.blt o 44) (cond (Nat.blt o 20) (cond (Nat.blt o 8) (cond (Nat.blt o 4) (cond (Nat.blt o 2) (cond (Nat.beq o 1) (some (.aconst_null, 1)) none) (cond (Nat.blt o 3) (cond (Nat.beq o 2) (some (.iconst (-1), 1)) none) (cond (Nat.beq o 3) (some (.iconst (0), 1)) none))) (cond (Nat.blt o 6) (cond (Nat.blt o 5) (cond (Nat.beq o 4) (some (.iconst (1), 1)) none) (cond (Nat.beq o 5) (some (.iconst (2), 1)) none)) (cond (Nat.blt o 7) (cond (Nat.beq o 6) (some (.iconst (3), 1)) none) (cond (Nat.beq o 7) (some (.iconst (4), 1)) none)))) (cond (Nat.blt o 16) (cond (Nat.blt o 9) (cond (Nat.beq o 8) (some (.iconst (5), 1)) none) (cond (Nat.blt o 10) (cond (Nat.beq o 9) (some (.lconst 0, 1)) none) (cond (Nat.beq o 10) (some (.lconst 1, 1)) none))) (cond (Nat.blt o 18) (cond (Nat.blt o 17) (cond (Nat.beq o 16) (zf1 (fun a => .bipush (Reader.signed 8 a)) r) none) (cond (Nat.beq o 17) (zf2 (fun a b => .sipush (Reader.signed 16 (a * 256 + b))) r) none)) (cond (Nat.blt o 19) (cond (Nat.beq o 18) (zf1 (fun a => .ldc a) r) none) (cond (Nat.beq o 19) (zf2 (fun a b => .ldc_w (a * 256 + b)) r) none))))) (cond (Nat.blt o 29) (cond (Nat.blt o 25) (cond (Nat.blt o 21) (cond (Nat.beq o 20) (zf2 (fun a b => .ldc2_w (a * 256 + b)) r) none) (cond (Nat.blt o 22) (cond (Nat.beq o 21) (zf1 (fun a => .iload a) r) none) (cond (Nat.beq o 22) (zf1 (fun a => .lload a) r) none))) (cond (Nat.blt o 27) (cond (Nat.blt o 26) (cond (Nat.beq o 25) (zf1 (fun a => .aload a) r) none) (cond (Nat.beq o 26) (some (.iload_n 0, 1)) none)) (cond (Nat.blt o 28) (cond (Nat.beq o 27) (some (.iload_n 1, 1)) none) (cond (Nat.beq o 28) (some (.iload_n 2, 1)) none)))) (cond (Nat.blt o 32) (cond (Nat.blt o 30) (cond (Nat.beq o 29) (some (.iload_n 3, 1)) none) (cond (Nat.blt o 31) (cond (Nat.beq o 30) (some (.lload_n 0, 1)) none) (cond (Nat.beq o 31) (some (.lload_n 1, 1)) none))) (cond (Nat.blt o 42) (cond (Nat.blt o 33) (cond (Nat.beq o 32) (some (.lload_n 2, 1)) none) (cond (Nat.beq o 33) (some (.lload_n 3, 1)) none)) (cond (Nat.blt o 43) (cond (Nat.beq o 42) (some (.aload_n 0, 1)) none) (cond (Nat.beq o 43) (some (.aload_n 1, 1)) none)))))) (cond (Nat.blt o 65) (cond (Nat.blt o 58) (cond (Nat.blt o 50) (cond (Nat.blt o 45) (cond (Nat.beq o 44) (some (.aload_n 2, 1)) none) (cond (Nat.blt o 46) (cond (Nat.beq o 45) (some (.aload_n 3, 1)) none) (cond (Nat.beq o 46) (some (.iaload, 1)) none))) (cond (Nat.blt o 54) (cond (Nat.blt o 51) (cond (Nat.beq o 50) (some (.aaload, 1)) none) (cond (Nat.beq o 51) (some (.baload, 1)) none)) (cond (Nat.blt o 55) (cond (Nat.beq o 54) (zf1 (fun a => .istore a) r) none) (cond (Nat.beq o 55) (zf1 (fun a => .lstore a) r) none)))) (cond (Nat.blt o 61) (cond (Nat.blt o 59) (cond (Nat.beq o 58) (zf1 (fun a => .astore a) r) none) (cond (Nat.blt o 60) (cond (Nat.beq o 59) (some (.istore_n 0, 1)) none) (cond (Nat.beq o 60) (some (.istore_n 1, 1)) none))) (cond (Nat.blt o 63) (cond (Nat.blt o 62) (cond (Nat.beq o 61) (some (.istore_n 2, 1)) none) (cond (Nat.beq o 62) (some (.istore_n 3, 1)) none)) (cond (Nat.blt o 64) (cond (Nat.beq o 63) (some (.lstore_n 0, 1)) none) (cond (Nat.beq o 64) (some (.lstore_n 1, 1)) none))))) (cond (Nat.blt o 83) (cond (Nat.blt o 76) (cond (Nat.blt o 66) (cond (Nat.beq o 65) (some (.lstore_n 2, 1)) none) (cond (Nat.blt o 75) (cond (Nat.beq o 66) (some (.lstore_n 3, 1)) none) (cond (Nat.beq o 75) (some (.astore_n 0, 1)) none))) (cond (Nat.blt o 78) (cond (Nat.blt o 77) (cond (Nat.beq o 76) (some (.astore_n 1, 1)) none) (cond (Nat.beq o 77) (some (.astore_n 2, 1)) none)) (cond (Nat.blt o 79) (cond (Nat.beq o 78) (some (.astore_n 3, 1)) none) (cond (Nat.beq o 79) (some (.iastore, 1)) none)))) (cond (Nat.blt o 89) (cond (Nat.blt o 87) (cond (Nat.blt o 84) (cond (Nat.beq o 83) (some (.aastore, 1)) none) (cond (Nat.beq o 84) (some (.bastore, 1)) none)) (cond (Nat.blt o 88) (cond (Nat.beq o 87) (some (.pop, 1)) none) (cond (Nat.beq o 88) (some (.pop2, 1)) none))) (cond (Nat.blt o 92) (cond (Nat.blt o 90) (cond (Nat.beq o 89) (some (.dup, 1)) none) (cond (Nat.beq o 90) (some (.dup_x1, 1)) none)) (cond (Nat.blt o 96) (cond (Nat.beq o 92) (some (.dup2, 1)) none) (cond (Nat.beq o 96) (some (.iadd, 1)) none))))))) (cond (Nat.blt o 154) (cond (Nat.blt o 123) (cond (Nat.blt o 112) (cond (Nat.blt o 104) (cond (Nat.blt o 100) (cond (Nat.beq o 97) (some (.ladd, 1)) none) (cond (Nat.blt o 101) (cond (Nat.beq o 100) (some (.isub, 1)) none) (cond (Nat.beq o 101) (some (.lsub, 1)) none))) (cond (Nat.blt o 108) (cond (Nat.blt o 105) (cond (Nat.beq o 104) (some (.imul, 1)) none) (cond (Nat.beq o 105) (some (.lmul, 1)) none)) (cond (Nat.blt o 109) (cond (Nat.beq o 108) (some (.idiv, 1)) none) (cond (Nat.beq o 109) (some (.ldiv, 1)) none)))) (cond (Nat.blt o 117) (cond (Nat.blt o 113) (cond (Nat.beq o 112) (some (.irem, 1)) none) (cond (Nat.blt o 116) (cond (Nat.beq o 113) (some (.lrem, 1)) none) (cond (Nat.beq o 116) (some (.ineg, 1)) none))) (cond (Nat.blt o 121) (cond (Nat.blt o 120) (cond (Nat.beq o 117) (some (.lneg, 1)) none) (cond (Nat.beq o 120) (some (.ishl, 1)) none)) (cond (Nat.blt o 122) (cond (Nat.beq o 121) (some (.lshl, 1)) none) (cond (Nat.beq o 122) (some (.ishr, 1)) none))))) (cond (Nat.blt o 131) (cond (Nat.blt o 127) (cond (Nat.blt o 125) (cond (Nat.beq o 123) (some (.lshr, 1)) none) (cond (Nat.blt o 126) (cond (Nat.beq o 125) (some (.lushr, 1)) none) (cond (Nat.beq o 126) (some (.iand, 1)) none))) (cond (Nat.blt o 129) (cond (Nat.blt o 128) (cond (Nat.beq o 127) (some (.land, 1)) none) (cond (Nat.beq o 128) (some (.ior, 1)) none)) (cond (Nat.blt o 130) (cond (Nat.beq o 129) (some (.lor, 1)) none) (cond (Nat.beq o 130) (some (.ixor, 1)) none)))) (cond (Nat.blt o 145) (cond (Nat.blt o 133) (cond (Nat.blt o 132) (cond (Nat.beq o 131) (some (.lxor, 1)) none) (cond (Nat.beq o 132) (zf2 (fun a b => .iinc a (Reader.signed 8 b)) r) none)) (cond (Nat.blt o 136) (cond (Nat.beq o 133) (some (.i2l, 1)) none) (cond (Nat.beq o 136) (some (.l2i, 1)) none))) (cond (Nat.blt o 148) (cond (Nat.blt o 146) (cond (Nat.beq o 145) (some (.i2b, 1)) none) (cond (Nat.beq o 146) (some (.i2c, 1)) none)) (cond (Nat.blt o 153) (cond (Nat.beq o 148) (some (.lcmp, 1)) none) (cond (Nat.beq o 153) (zf2 (fun a b => .ifCond .eq (Reader.signed 16 (a * 256 + b))) r) none)))))) (cond (Nat.blt o 176) (cond (Nat.blt o 161) (cond (Nat.blt o 157) (cond (Nat.blt o 155) (cond (Nat.beq o 154) (zf2 (fun a b => .ifCond .ne (Reader.signed 16 (a * 256 + b))) r) none) (cond (Nat.blt o 156) (cond (Nat.beq o 155) (zf2 (fun a b => .ifCond .lt (Reader.signed 16 (a * 256 + b))) r) none) (cond (Nat.beq o 156) (zf2 (fun a b => .ifCond .ge (Reader.signed 16 (a * 256 + b))) r) none))) (cond (Nat.blt o 159) (cond (Nat.blt o 158) (cond (Nat.beq o 157) (zf2 (fun a b => .ifCond .gt (Reader.signed 16 (a * 256 + b))) r) none) (cond (Nat.beq o 158) (zf2 (fun a b => .ifCond .le (Reader.signed 16 (a * 256 + b))) r) none)) (cond (Nat.blt o 160) (cond (Nat.beq o 159) (zf2 (fun a b => .if_icmp .eq (Reader.signed 16 (a * 256 + b))) r) none) (cond (Nat.beq o 160) (zf2 (fun a b => .if_icmp .ne (Reader.signed 16 (a * 256 + b))) r) none)))) (cond (Nat.blt o 164) (cond (Nat.blt o 162) (cond (Nat.beq o 161) (zf2 (fun a b => .if_icmp .lt (Reader.signed 16 (a * 256 + b))) r) none) (cond (Nat.blt o 163) (cond (Nat.beq o 162) (zf2 (fun a b => .if_icmp .ge (Reader.signed 16 (a * 256 + b))) r) none) (cond (Nat.beq o 163) (zf2 (fun a b => .if_icmp .gt (Reader.signed 16 (a * 256 + b))) r) none))) (cond (Nat.blt o 172) (cond (Nat.blt o 167) (cond (Nat.beq o 164) (zf2 (fun a b => .if_icmp .le (Reader.signed 16 (a * 256 + b))) r) none) (cond (Nat.beq o 167) (zf2 (fun a b => .goto (Reader.signed 16 (a * 256 + b))) r) none)) (cond (Nat.blt o 173) (cond (Nat.beq o 172) (some (.ireturn, 1)) none) (cond (Nat.beq o 173) (some (.lreturn, 1)) none))))) (cond (Nat.blt o 184) (cond (Nat.blt o 180) (cond (Nat.blt o 177) (cond (Nat.beq o 176) (some (.areturn, 1)) none) (cond (Nat.blt o 178) (cond (Nat.beq o 177) (some (.return_, 1)) none) (cond (Nat.beq o 178) (zf2 (fun a b => .getstatic (a * 256 + b)) r) none))) (cond (Nat.blt o 182) (cond (Nat.blt o 181) (cond (Nat.beq o 180) (zf2 (fun a b => .getfield (a * 256 + b)) r) none) (cond (Nat.beq o 181) (zf2 (fun a b => .putfield (a * 256 + b)) r) none)) (cond (Nat.blt o 183) (cond (Nat.beq o 182) (zf2 (fun a b => .invokevirtual (a * 256 + b)) r) none) (cond (Nat.beq o 183) (zf2 (fun a b => .invokespecial (a * 256 + b)) r) none)))) (cond (Nat.blt o 190) (cond (Nat.blt o 188) (cond (Nat.blt o 187) (cond (Nat.beq o 184) (zf2 (fun a b => .invokestatic (a * 256 + b)) r) none) (cond (Nat.beq o 187) (zf2 (fun a b => .new (a * 256 + b)) r) none)) (cond (Nat.blt o 189) (cond (Nat.beq o 188) (zfna r) none) (cond (Nat.beq o 189) (zf2 (fun a b => .anewarray (a * 256 + b)) r) none))) (cond (Nat.blt o 198) (cond (Nat.blt o 191) (cond (Nat.beq o 190) (some (.arraylength, 1)) none) (cond (Nat.beq o 191) (some (.athrow, 1)) none)) (cond (Nat.blt o 199) (cond (Nat.beq o 198) (zf2 (fun a b => .ifnull (Reader.signed 16 (a * 256 + b))) r) none) (cond (Nat.beq o 199) (zf2 (fun a b => .ifnonnull (Reader.signed 16 (a * 256 + b))) r) none)))))))
theorem zcond {α : Type} {c : Bool} {a b x : α} (h : cond c a b = x) : a = x ∨ b = x := by
  cases c
  · exact Or.inr h
  · exact Or.inl h
theorem zcondB {α : Type} {o k : Nat} {a : Option α} {x : α} (h : cond (Nat.beq o k) a none = some x) : o = k ∧ a = some x := by
  cases hq : Nat.beq o k with
  | true => rw [hq] at h; exact ⟨Nat.eq_of_beq_eq_true hq, h⟩
  | false => rw [hq] at h; cases h
theorem zf1_ok {f : Nat → Instr} {r : List Nat} {x : Instr × Nat} (h : zf1 f r = some x) : ∃ a t, r = a :: t ∧ x = (f a, 2) := by
  unfold zf1 at h
  split at h
  · rename_i a t
    exact ⟨a, t, rfl, (Option.some.inj h).symm⟩
  · cases h
theorem zf2_ok {f : Nat → Nat → Instr} {r : List Nat} {x : Instr × Nat} (h : zf2 f r = some x) : ∃ a b t, r = a :: b :: t ∧ x = (f a b, 3) := by
  unfold zf2 at h
  split at h
  · rename_i a b t
    exact ⟨a, b, t, rfl, (Option.some.inj h).symm⟩
  · cases h
set_option maxHeartbeats 4000000 in
theorem zfd_ok {code : ByteArray} {pc o : Nat} {r : List Nat} {x : Instr × Nat} (h : zbs code pc = o :: r) (hf : zfd o r = some x) : decode code pc = .ok x := by
  unfold zfd at hf
  rcases zcond hf with hf | hf
  · rcases zcond hf with hf | hf
    · rcases zcond hf with hf | hf
      · rcases zcond hf with hf | hf
        · rcases zcond hf with hf | hf
          · rcases zcond hf with hf | hf
            · obtain ⟨rfl, hf⟩ := zcondB hf
              cases hf
              exact zd_1 h
            · rcases zcond hf with hf | hf
              · obtain ⟨rfl, hf⟩ := zcondB hf
                cases hf
                exact zd_2 h
              · obtain ⟨rfl, hf⟩ := zcondB hf
                cases hf
                exact zd_3 h
          · rcases zcond hf with hf | hf
            · rcases zcond hf with hf | hf
              · obtain ⟨rfl, hf⟩ := zcondB hf
                cases hf
                exact zd_4 h
              · obtain ⟨rfl, hf⟩ := zcondB hf
                cases hf
                exact zd_5 h
            · rcases zcond hf with hf | hf
              · obtain ⟨rfl, hf⟩ := zcondB hf
                cases hf
                exact zd_6 h
              · obtain ⟨rfl, hf⟩ := zcondB hf
                cases hf
                exact zd_7 h
        · rcases zcond hf with hf | hf
          · rcases zcond hf with hf | hf
            · obtain ⟨rfl, hf⟩ := zcondB hf
              cases hf
              exact zd_8 h
            · rcases zcond hf with hf | hf
              · obtain ⟨rfl, hf⟩ := zcondB hf
                cases hf
                exact zd_9 h
              · obtain ⟨rfl, hf⟩ := zcondB hf
                cases hf
                exact zd_10 h
          · rcases zcond hf with hf | hf
            · rcases zcond hf with hf | hf
              · obtain ⟨rfl, hf⟩ := zcondB hf
                obtain ⟨a, t, rfl, rfl⟩ := zf1_ok hf
                exact zd_16 h
              · obtain ⟨rfl, hf⟩ := zcondB hf
                obtain ⟨a, b, t, rfl, rfl⟩ := zf2_ok hf
                exact zd_17 h
            · rcases zcond hf with hf | hf
              · obtain ⟨rfl, hf⟩ := zcondB hf
                obtain ⟨a, t, rfl, rfl⟩ := zf1_ok hf
                exact zd_18 h
              · obtain ⟨rfl, hf⟩ := zcondB hf
                obtain ⟨a, b, t, rfl, rfl⟩ := zf2_ok hf
                exact zd_19 h
      · rcases zcond hf with hf | hf
        · rcases zcond hf with hf | hf
          · rcases zcond hf with hf | hf
            · obtain ⟨rfl, hf⟩ := zcondB hf
              obtain ⟨a, b, t, rfl, rfl⟩ := zf2_ok hf
              exact zd_20 h
            · rcases zcond hf with hf | hf
              · obtain ⟨rfl, hf⟩ := zcondB hf
                obtain ⟨a, t, rfl, rfl⟩ := zf1_ok hf
                exact zd_21 h
              · obtain ⟨rfl, hf⟩ := zcondB hf
                obtain ⟨a, t, rfl, rfl⟩ := zf1_ok hf
                exact zd_22 h
          · rcases zcond hf with hf | hf
            · rcases zcond hf with hf | hf
              · obtain ⟨rfl, hf⟩ := zcondB hf
                obtain ⟨a, t, rfl, rfl⟩ := zf1_ok hf
                exact zd_25 h
              · obtain ⟨rfl, hf⟩ := zcondB hf
                cases hf
                exact zd_26 h
            · rcases zcond hf with hf | hf
              · obtain ⟨rfl, hf⟩ := zcondB hf
                cases hf
                exact zd_27 h
              · obtain ⟨rfl, hf⟩ := zcondB hf
                cases hf
                exact zd_28 h
        · rcases zcond hf with hf | hf
          · rcases zcond hf with hf | hf
            · obtain ⟨rfl, hf⟩ := zcondB hf
              cases hf
              exact zd_29 h
            · rcases zcond hf with hf | hf
              · obtain ⟨rfl, hf⟩ := zcondB hf
                cases hf
                exact zd_30 h
              · obtain ⟨rfl, hf⟩ := zcondB hf
                cases hf
                exact zd_31 h
          · rcases zcond hf with hf | hf
            · rcases zcond hf with hf | hf
              · obtain ⟨rfl, hf⟩ := zcondB hf
                cases hf
                exact zd_32 h
              · obtain ⟨rfl, hf⟩ := zcondB hf
                cases hf
                exact zd_33 h
            · rcases zcond hf with hf | hf
              · obtain ⟨rfl, hf⟩ := zcondB hf
                cases hf
                exact zd_42 h
              · obtain ⟨rfl, hf⟩ := zcondB hf
                cases hf
                exact zd_43 h
    · rcases zcond hf with hf | hf
      · rcases zcond hf with hf | hf
        · rcases zcond hf with hf | hf
          · rcases zcond hf with hf | hf
            · obtain ⟨rfl, hf⟩ := zcondB hf
              cases hf
              exact zd_44 h
            · rcases zcond hf with hf | hf
              · obtain ⟨rfl, hf⟩ := zcondB hf
                cases hf
                exact zd_45 h
              · obtain ⟨rfl, hf⟩ := zcondB hf
                cases hf
                exact zd_46 h
          · rcases zcond hf with hf | hf
            · rcases zcond hf with hf | hf
              · obtain ⟨rfl, hf⟩ := zcondB hf
                cases hf
                exact zd_50 h
              · obtain ⟨rfl, hf⟩ := zcondB hf
                cases hf
                exact zd_51 h
            · rcases zcond hf with hf | hf
              · obtain ⟨rfl, hf⟩ := zcondB hf
                obtain ⟨a, t, rfl, rfl⟩ := zf1_ok hf
                exact zd_54 h
              · obtain ⟨rfl, hf⟩ := zcondB hf
                obtain ⟨a, t, rfl, rfl⟩ := zf1_ok hf
                exact zd_55 h
        · rcases zcond hf with hf | hf
          · rcases zcond hf with hf | hf
            · obtain ⟨rfl, hf⟩ := zcondB hf
              obtain ⟨a, t, rfl, rfl⟩ := zf1_ok hf
              exact zd_58 h
            · rcases zcond hf with hf | hf
              · obtain ⟨rfl, hf⟩ := zcondB hf
                cases hf
                exact zd_59 h
              · obtain ⟨rfl, hf⟩ := zcondB hf
                cases hf
                exact zd_60 h
          · rcases zcond hf with hf | hf
            · rcases zcond hf with hf | hf
              · obtain ⟨rfl, hf⟩ := zcondB hf
                cases hf
                exact zd_61 h
              · obtain ⟨rfl, hf⟩ := zcondB hf
                cases hf
                exact zd_62 h
            · rcases zcond hf with hf | hf
              · obtain ⟨rfl, hf⟩ := zcondB hf
                cases hf
                exact zd_63 h
              · obtain ⟨rfl, hf⟩ := zcondB hf
                cases hf
                exact zd_64 h
      · rcases zcond hf with hf | hf
        · rcases zcond hf with hf | hf
          · rcases zcond hf with hf | hf
            · obtain ⟨rfl, hf⟩ := zcondB hf
              cases hf
              exact zd_65 h
            · rcases zcond hf with hf | hf
              · obtain ⟨rfl, hf⟩ := zcondB hf
                cases hf
                exact zd_66 h
              · obtain ⟨rfl, hf⟩ := zcondB hf
                cases hf
                exact zd_75 h
          · rcases zcond hf with hf | hf
            · rcases zcond hf with hf | hf
              · obtain ⟨rfl, hf⟩ := zcondB hf
                cases hf
                exact zd_76 h
              · obtain ⟨rfl, hf⟩ := zcondB hf
                cases hf
                exact zd_77 h
            · rcases zcond hf with hf | hf
              · obtain ⟨rfl, hf⟩ := zcondB hf
                cases hf
                exact zd_78 h
              · obtain ⟨rfl, hf⟩ := zcondB hf
                cases hf
                exact zd_79 h
        · rcases zcond hf with hf | hf
          · rcases zcond hf with hf | hf
            · rcases zcond hf with hf | hf
              · obtain ⟨rfl, hf⟩ := zcondB hf
                cases hf
                exact zd_83 h
              · obtain ⟨rfl, hf⟩ := zcondB hf
                cases hf
                exact zd_84 h
            · rcases zcond hf with hf | hf
              · obtain ⟨rfl, hf⟩ := zcondB hf
                cases hf
                exact zd_87 h
              · obtain ⟨rfl, hf⟩ := zcondB hf
                cases hf
                exact zd_88 h
          · rcases zcond hf with hf | hf
            · rcases zcond hf with hf | hf
              · obtain ⟨rfl, hf⟩ := zcondB hf
                cases hf
                exact zd_89 h
              · obtain ⟨rfl, hf⟩ := zcondB hf
                cases hf
                exact zd_90 h
            · rcases zcond hf with hf | hf
              · obtain ⟨rfl, hf⟩ := zcondB hf
                cases hf
                exact zd_92 h
              · obtain ⟨rfl, hf⟩ := zcondB hf
                cases hf
                exact zd_96 h
  · rcases zcond hf with hf | hf
    · rcases zcond hf with hf | hf
      · rcases zcond hf with hf | hf
        · rcases zcond hf with hf | hf
          · rcases zcond hf with hf | hf
            · obtain ⟨rfl, hf⟩ := zcondB hf
              cases hf
              exact zd_97 h
            · rcases zcond hf with hf | hf
              · obtain ⟨rfl, hf⟩ := zcondB hf
                cases hf
                exact zd_100 h
              · obtain ⟨rfl, hf⟩ := zcondB hf
                cases hf
                exact zd_101 h
          · rcases zcond hf with hf | hf
            · rcases zcond hf with hf | hf
              · obtain ⟨rfl, hf⟩ := zcondB hf
                cases hf
                exact zd_104 h
              · obtain ⟨rfl, hf⟩ := zcondB hf
                cases hf
                exact zd_105 h
            · rcases zcond hf with hf | hf
              · obtain ⟨rfl, hf⟩ := zcondB hf
                cases hf
                exact zd_108 h
              · obtain ⟨rfl, hf⟩ := zcondB hf
                cases hf
                exact zd_109 h
        · rcases zcond hf with hf | hf
          · rcases zcond hf with hf | hf
            · obtain ⟨rfl, hf⟩ := zcondB hf
              cases hf
              exact zd_112 h
            · rcases zcond hf with hf | hf
              · obtain ⟨rfl, hf⟩ := zcondB hf
                cases hf
                exact zd_113 h
              · obtain ⟨rfl, hf⟩ := zcondB hf
                cases hf
                exact zd_116 h
          · rcases zcond hf with hf | hf
            · rcases zcond hf with hf | hf
              · obtain ⟨rfl, hf⟩ := zcondB hf
                cases hf
                exact zd_117 h
              · obtain ⟨rfl, hf⟩ := zcondB hf
                cases hf
                exact zd_120 h
            · rcases zcond hf with hf | hf
              · obtain ⟨rfl, hf⟩ := zcondB hf
                cases hf
                exact zd_121 h
              · obtain ⟨rfl, hf⟩ := zcondB hf
                cases hf
                exact zd_122 h
      · rcases zcond hf with hf | hf
        · rcases zcond hf with hf | hf
          · rcases zcond hf with hf | hf
            · obtain ⟨rfl, hf⟩ := zcondB hf
              cases hf
              exact zd_123 h
            · rcases zcond hf with hf | hf
              · obtain ⟨rfl, hf⟩ := zcondB hf
                cases hf
                exact zd_125 h
              · obtain ⟨rfl, hf⟩ := zcondB hf
                cases hf
                exact zd_126 h
          · rcases zcond hf with hf | hf
            · rcases zcond hf with hf | hf
              · obtain ⟨rfl, hf⟩ := zcondB hf
                cases hf
                exact zd_127 h
              · obtain ⟨rfl, hf⟩ := zcondB hf
                cases hf
                exact zd_128 h
            · rcases zcond hf with hf | hf
              · obtain ⟨rfl, hf⟩ := zcondB hf
                cases hf
                exact zd_129 h
              · obtain ⟨rfl, hf⟩ := zcondB hf
                cases hf
                exact zd_130 h
        · rcases zcond hf with hf | hf
          · rcases zcond hf with hf | hf
            · rcases zcond hf with hf | hf
              · obtain ⟨rfl, hf⟩ := zcondB hf
                cases hf
                exact zd_131 h
              · obtain ⟨rfl, hf⟩ := zcondB hf
                obtain ⟨a, b, t, rfl, rfl⟩ := zf2_ok hf
                exact zd_132 h
            · rcases zcond hf with hf | hf
              · obtain ⟨rfl, hf⟩ := zcondB hf
                cases hf
                exact zd_133 h
              · obtain ⟨rfl, hf⟩ := zcondB hf
                cases hf
                exact zd_136 h
          · rcases zcond hf with hf | hf
            · rcases zcond hf with hf | hf
              · obtain ⟨rfl, hf⟩ := zcondB hf
                cases hf
                exact zd_145 h
              · obtain ⟨rfl, hf⟩ := zcondB hf
                cases hf
                exact zd_146 h
            · rcases zcond hf with hf | hf
              · obtain ⟨rfl, hf⟩ := zcondB hf
                cases hf
                exact zd_148 h
              · obtain ⟨rfl, hf⟩ := zcondB hf
                obtain ⟨a, b, t, rfl, rfl⟩ := zf2_ok hf
                exact zd_153 h
    · rcases zcond hf with hf | hf
      · rcases zcond hf with hf | hf
        · rcases zcond hf with hf | hf
          · rcases zcond hf with hf | hf
            · obtain ⟨rfl, hf⟩ := zcondB hf
              obtain ⟨a, b, t, rfl, rfl⟩ := zf2_ok hf
              exact zd_154 h
            · rcases zcond hf with hf | hf
              · obtain ⟨rfl, hf⟩ := zcondB hf
                obtain ⟨a, b, t, rfl, rfl⟩ := zf2_ok hf
                exact zd_155 h
              · obtain ⟨rfl, hf⟩ := zcondB hf
                obtain ⟨a, b, t, rfl, rfl⟩ := zf2_ok hf
                exact zd_156 h
          · rcases zcond hf with hf | hf
            · rcases zcond hf with hf | hf
              · obtain ⟨rfl, hf⟩ := zcondB hf
                obtain ⟨a, b, t, rfl, rfl⟩ := zf2_ok hf
                exact zd_157 h
              · obtain ⟨rfl, hf⟩ := zcondB hf
                obtain ⟨a, b, t, rfl, rfl⟩ := zf2_ok hf
                exact zd_158 h
            · rcases zcond hf with hf | hf
              · obtain ⟨rfl, hf⟩ := zcondB hf
                obtain ⟨a, b, t, rfl, rfl⟩ := zf2_ok hf
                exact zd_159 h
              · obtain ⟨rfl, hf⟩ := zcondB hf
                obtain ⟨a, b, t, rfl, rfl⟩ := zf2_ok hf
                exact zd_160 h
        · rcases zcond hf with hf | hf
          · rcases zcond hf with hf | hf
            · obtain ⟨rfl, hf⟩ := zcondB hf
              obtain ⟨a, b, t, rfl, rfl⟩ := zf2_ok hf
              exact zd_161 h
            · rcases zcond hf with hf | hf
              · obtain ⟨rfl, hf⟩ := zcondB hf
                obtain ⟨a, b, t, rfl, rfl⟩ := zf2_ok hf
                exact zd_162 h
              · obtain ⟨rfl, hf⟩ := zcondB hf
                obtain ⟨a, b, t, rfl, rfl⟩ := zf2_ok hf
                exact zd_163 h
          · rcases zcond hf with hf | hf
            · rcases zcond hf with hf | hf
              · obtain ⟨rfl, hf⟩ := zcondB hf
                obtain ⟨a, b, t, rfl, rfl⟩ := zf2_ok hf
                exact zd_164 h
              · obtain ⟨rfl, hf⟩ := zcondB hf
                obtain ⟨a, b, t, rfl, rfl⟩ := zf2_ok hf
                exact zd_167 h
            · rcases zcond hf with hf | hf
              · obtain ⟨rfl, hf⟩ := zcondB hf
                cases hf
                exact zd_172 h
              · obtain ⟨rfl, hf⟩ := zcondB hf
                cases hf
                exact zd_173 h
      · rcases zcond hf with hf | hf
        · rcases zcond hf with hf | hf
          · rcases zcond hf with hf | hf
            · obtain ⟨rfl, hf⟩ := zcondB hf
              cases hf
              exact zd_176 h
            · rcases zcond hf with hf | hf
              · obtain ⟨rfl, hf⟩ := zcondB hf
                cases hf
                exact zd_177 h
              · obtain ⟨rfl, hf⟩ := zcondB hf
                obtain ⟨a, b, t, rfl, rfl⟩ := zf2_ok hf
                exact zd_178 h
          · rcases zcond hf with hf | hf
            · rcases zcond hf with hf | hf
              · obtain ⟨rfl, hf⟩ := zcondB hf
                obtain ⟨a, b, t, rfl, rfl⟩ := zf2_ok hf
                exact zd_180 h
              · obtain ⟨rfl, hf⟩ := zcondB hf
                obtain ⟨a, b, t, rfl, rfl⟩ := zf2_ok hf
                exact zd_181 h
            · rcases zcond hf with hf | hf
              · obtain ⟨rfl, hf⟩ := zcondB hf
                obtain ⟨a, b, t, rfl, rfl⟩ := zf2_ok hf
                exact zd_182 h
              · obtain ⟨rfl, hf⟩ := zcondB hf
                obtain ⟨a, b, t, rfl, rfl⟩ := zf2_ok hf
                exact zd_183 h
        · rcases zcond hf with hf | hf
          · rcases zcond hf with hf | hf
            · rcases zcond hf with hf | hf
              · obtain ⟨rfl, hf⟩ := zcondB hf
                obtain ⟨a, b, t, rfl, rfl⟩ := zf2_ok hf
                exact zd_184 h
              · obtain ⟨rfl, hf⟩ := zcondB hf
                obtain ⟨a, b, t, rfl, rfl⟩ := zf2_ok hf
                exact zd_187 h
            · rcases zcond hf with hf | hf
              · obtain ⟨rfl, hf⟩ := zcondB hf
                unfold zfna at hf
                split at hf
                · cases hf
                  exact zd_188_4 h
                · cases hf
                  exact zd_188_5 h
                · cases hf
                  exact zd_188_6 h
                · cases hf
                  exact zd_188_7 h
                · cases hf
                  exact zd_188_8 h
                · cases hf
                  exact zd_188_9 h
                · cases hf
                  exact zd_188_10 h
                · cases hf
                  exact zd_188_11 h
                · cases hf
              · obtain ⟨rfl, hf⟩ := zcondB hf
                obtain ⟨a, b, t, rfl, rfl⟩ := zf2_ok hf
                exact zd_189 h
          · rcases zcond hf with hf | hf
            · rcases zcond hf with hf | hf
              · obtain ⟨rfl, hf⟩ := zcondB hf
                cases hf
                exact zd_190 h
              · obtain ⟨rfl, hf⟩ := zcondB hf
                cases hf
                exact zd_191 h
            · rcases zcond hf with hf | hf
              · obtain ⟨rfl, hf⟩ := zcondB hf
                obtain ⟨a, b, t, rfl, rfl⟩ := zf2_ok hf
                exact zd_198 h
              · obtain ⟨rfl, hf⟩ := zcondB hf
                obtain ⟨a, b, t, rfl, rfl⟩ := zf2_ok hf
                exact zd_199 h
/-- one pass over a method's bytes: the table tells what stands there, and nothing else -/
def zpass (code : ByteArray) (t : Nat → Option (Instr × Nat)) : List Nat → Nat → Nat → Bool
  | [], _, _ => true
  | b :: r, p, 0 => match t p with
    | some x => (match zfd b r with
      | some y => decide (x = y)
      | none => decide (decode code p = .ok x)) && zpass code t r (p + 1) (x.2 - 1)
    | none => false
  | _ :: r, p, k + 1 => (t p).isNone && zpass code t r (p + 1) k
theorem zpass_ok {code : ByteArray} {t : Nat → Option (Instr × Nat)} : ∀ (l : List Nat) (p k : Nat), zbs code p = l → zpass code t l p k = true → ∀ q x, p ≤ q → q < p + l.length → t q = some x → decode code q = .ok x := by
  intro l
  induction l with
  | nil => intro p k hl h q x h1 h2; simp at h2; omega
  | cons b r ih =>
    intro p k hl h q x h1 h2 hx
    have hr := (zbs_u1 hl).2
    rw [List.length_cons] at h2
    by_cases hq : q = p
    · subst hq
      cases k with
      | zero =>
        simp only [zpass, hx, Bool.and_eq_true] at h
        have h := h.1
        split at h
        · rename_i y hy
          have : x = y := by simpa using h
          subst this
          exact zfd_ok hl hy
        · simpa using h
      | succ k =>
        simp only [zpass, hx, Bool.and_eq_true] at h
        cases h.1
    · cases k with
      | zero =>
        simp only [zpass] at h
        split at h
        · rw [Bool.and_eq_true] at h
          exact ih (p + 1) _ hr h.2 q x (by omega) (by omega) hx
        · cases h
      | succ k =>
        simp only [zpass, Bool.and_eq_true] at h
        exact ih (p + 1) _ hr h.2 q x (by omega) (by omega) hx
theorem zdecF (code : ByteArray) (t : Nat → Option (Instr × Nat)) (l : List Nat) (n : Nat) (hl : zbs code 0 = l) (hn : n ≤ l.length) (h : zpass code t l 0 0 = true) : ∀ (pc : Nat) (x : Instr × Nat), cond (Nat.blt pc n) (t pc) none = some x → decode code pc = .ok x := by
  intro pc x hx
  cases hq : Nat.blt pc n with
  | false => rw [hq] at hx; cases hx
  | true =>
    rw [hq] at hx
    have hlt : pc < n := Nat.le_of_ble_eq_true hq
    exact zpass_ok l 0 0 hl h pc x (by omega) (by omega) hx
end
section
theorem zw_gen (ws : List Cond) (ps : List Nat) (h : ws = zsel lw_tbl 0 ps) (hg : ws.all goodWord = true) : ∀ w ∈ ws, w ∈ zW := fun w hw => List.mem_filter.mpr ⟨zsel_mem _ _ _ (h ▸ hw), List.all_eq_true.mp hg w hw⟩
theorem zdec (b : ByteArray) (f : Nat → Option (Instr × Nat)) (n : Nat) (h : ((List.range n).all fun k => match f k with | some x => decide (decode b k = .ok x) | none => true) = true) : ∀ (pc : Nat) (x : Instr × Nat), cond (Nat.blt pc n) (f pc) none = some x → decode b pc = .ok x := by
  intro pc x hx
  cases hq : Nat.blt pc n with
  | false => rw [hq] at hx; cases hx
  | true =>
    rw [hq] at hx
    have hlt : pc < n := Nat.le_of_ble_eq_true hq
    have := List.all_eq_true.mp h pc (List.mem_range.mpr hlt)
    have hx : f pc = some x := hx
    rw [hx] at this
    simpa using this
def ztL_253 : List (List (Option (Instr × Nat))) := [[some (.aload_n 0, 1), some (.invokespecial 1, 3), none, none, some (.aload_n 0, 1), some (.sipush 1024, 3), none, none, some (.newarray .byte, 2), none, some (.putfield 9, 3), none, none, some (.aload_n 0, 1), some (.iconst 3, 1), some (.anewarray 13, 3)], [none, none, some (.putfield 15, 3), none, none, some (.aload_n 0, 1), some (.iconst 2, 1), some (.anewarray 13, 3), none, none, some (.putfield 19, 3), none, none, some (.aload_n 0, 1), some (.iconst 2, 1), some (.newarray .boolean, 2)], [none, some (.putfield 22, 3), none, none, some (.aload_n 0, 1), some (.new 26, 3), none, none, some (.dup, 1), some (.invokespecial 28, 3), none, none, some (.putfield 29, 3), none, none, some (.iconst 0, 1)], [some (.istore_n 1, 1), some (.iload_n 1, 1), some (.iconst 3, 1), some (.if_icmp .ge 22, 3), none, none, some (.aload_n 0, 1), some (.getfield 15, 3), none, none, some (.iload_n 1, 1), some (.new 13, 3), none, none, some (.dup, 1), some (.invokespecial 33, 3)], [none, none, some (.aastore, 1), some (.iinc 1 1, 3), none, none, some (.goto (-21), 3), none, none, some (.iconst 0, 1), some (.istore_n 1, 1), some (.iload_n 1, 1), some (.iconst 2, 1), some (.if_icmp .ge 22, 3)], [some (.aload_n 0, 1), some (.getfield 19, 3), none, none, some (.iload_n 1, 1), some (.new 13, 3), none, none, some (.dup, 1), some (.invokespecial 33, 3), none, none, some (.aastore, 1), some (.iinc 1 1, 3)], [some (.goto (-21), 3), none, none, some (.return_, 1)]]
def zt_253 : Nat → Option (Instr × Nat) := fun k => zlook 16 ztL_253 k
def zm_253 : zMe := (yX11_init, cX11_init, 2, none, 0, 11, 2, fun k => cond (Nat.blt k 100) (zt_253 k) none)
def ztL_254 : List (List (Option (Instr × Nat))) := [[some (.iload_n 3, 1), some (.iconst 1, 1), some (.if_icmp .lt 9, 3), none, none, some (.iload_n 3, 1), some (.bipush 8, 2), none, some (.if_icmp .le 6, 3), none, none, some (.bipush (-2), 2), none, some (.ireturn, 1), some (.aload_n 0, 1), some (.getfield 34, 3)], [none, none, some (.iload_n 3, 1), some (.iadd, 1), some (.sipush 1024, 3), none, none, some (.if_icmp .le 6, 3), none, none, some (.bipush (-4), 2), none, some (.ireturn, 1), some (.iconst 0, 1), some (.istore 4, 2)], [some (.iload 4, 2), none, some (.iload_n 3, 1), some (.if_icmp .ge 30, 3), none, none, some (.aload_n 0, 1), some (.getfield 9, 3), none, none, some (.aload_n 0, 1), some (.getfield 34, 3), none, none, some (.iload 4, 2)], [some (.iadd, 1), some (.lload_n 1, 1), some (.bipush 8, 2), none, some (.iload 4, 2), none, some (.imul, 1), some (.lshr, 1), some (.l2i, 1), some (.i2b, 1), some (.bastore, 1), some (.iinc 4 1, 3), none, none, some (.goto (-30), 3)], [none, some (.aload_n 0, 1), some (.dup, 1), some (.getfield 34, 3), none, none, some (.iload_n 3, 1), some (.iadd, 1), some (.putfield 34, 3), none, none, some (.aload_n 0, 1), some (.getfield 34, 3), none, none, some (.ireturn, 1)]]
def zt_254 : Nat → Option (Instr × Nat) := fun k => zlook 16 ztL_254 k
def zm_254 : zMe := (yX11_type, cX11_type, 5, (some .int), 2, 11, 1, fun k => cond (Nat.blt k 80) (zt_254 k) none)
def ztL_255 : List (List (Option (Instr × Nat))) := [[some (.aload_n 0, 1), some (.getfield 34, 3), none, none, some (.istore_n 1, 1), some (.aload_n 0, 1), some (.iconst 0, 1), some (.putfield 34, 3), none, none, some (.iload_n 1, 1), some (.ireturn, 1)]]
def zt_255 : Nat → Option (Instr × Nat) := fun k => zlook 16 ztL_255 k
def zm_255 : zMe := (yX11_wipe, cX11_wipe, 2, (some .int), 0, 11, 1, fun k => cond (Nat.blt k 12) (zt_255 k) none)
def ztL_256 : List (List (Option (Instr × Nat))) := [[some (.iload_n 1, 1), some (.iconst 2, 1), some (.if_icmp .lt 18, 3), none, none, some (.iload_n 1, 1), some (.iconst 4, 1), some (.if_icmp .gt 13, 3), none, none, some (.iload_n 2, 1), some (.ifCond .lt 9, 3), none, none, some (.iload_n 2, 1), some (.bipush 7, 2)], [none, some (.if_icmp .le 6, 3), none, none, some (.bipush (-2), 2), none, some (.ireturn, 1), some (.aload_n 0, 1), some (.getfield 38, 3), none, none, some (.iconst 3, 1), some (.if_icmp .lt 6, 3), none, none, some (.bipush (-4), 2)], [none, some (.ireturn, 1), some (.aload_n 0, 1), some (.getfield 15, 3), none, none, some (.aload_n 0, 1), some (.getfield 38, 3), none, none, some (.aaload, 1), some (.iload_n 1, 1), some (.iload_n 2, 1), some (.invokevirtual 41, 3)], [some (.aload_n 0, 1), some (.dup, 1), some (.getfield 38, 3), none, none, some (.dup_x1, 1), some (.iconst 1, 1), some (.iadd, 1), some (.putfield 38, 3), none, none, some (.ireturn, 1)]]
def zt_256 : Nat → Option (Instr × Nat) := fun k => zlook 16 ztL_256 k
def zm_256 : zMe := (yX11_system, cX11_system, 3, (some .int), 2, 11, 1, fun k => cond (Nat.blt k 60) (zt_256 k) none)
def ztL_257 : List (List (Option (Instr × Nat))) := [[some (.aload_n 0, 1), some (.invokevirtual 45, 3), none, none, some (.istore_n 3, 1), some (.aload_n 0, 1), some (.iload_n 1, 1), some (.invokevirtual 49, 3), none, none, some (.astore 4, 2), none, some (.aload 4, 2), none, some (.ifnull 10, 3)], [none, some (.iload_n 2, 1), some (.invokestatic 53, 3), none, none, some (.ifCond .ne 6, 3), none, none, some (.bipush (-2), 2), none, some (.ireturn, 1), some (.aload 4, 2), none, some (.getfield 57, 3)], [some (.getfield 61, 3), none, none, some (.ifCond .eq 6, 3), none, none, some (.bipush (-3), 2), none, some (.ireturn, 1), some (.aload 4, 2), none, some (.getfield 57, 3), none, none, some (.aload_n 0, 1), some (.getfield 9, 3)], [none, none, some (.iload_n 3, 1), some (.invokevirtual 67, 3), none, none, some (.aload 4, 2), none, some (.iload_n 2, 1), some (.invokevirtual 71, 3), none, none, some (.ireturn, 1)]]
def zt_257 : Nat → Option (Instr × Nat) := fun k => zlook 16 ztL_257 k
def zm_257 : zMe := (yX11_evaluate, cX11_evaluate, 5, (some .int), 2, 11, 1, fun k => cond (Nat.blt k 61) (zt_257 k) none)
def ztL_258 : List (List (Option (Instr × Nat))) := [[some (.aload_n 0, 1), some (.iload_n 1, 1), some (.invokevirtual 49, 3), none, none, some (.astore_n 3, 1), some (.aload_n 3, 1), some (.ifnull 10, 3), none, none, some (.iload_n 2, 1), some (.invokestatic 53, 3), none, none, some (.ifCond .ne 6, 3)], [none, some (.bipush (-2), 2), none, some (.ireturn, 1), some (.aload_n 3, 1), some (.getfield 57, 3), none, none, some (.getfield 61, 3), none, none, some (.ifCond .eq 11, 3), none, none, some (.aload_n 3, 1), some (.iload_n 2, 1)], [some (.invokevirtual 71, 3), none, none, some (.goto 5, 3), none, none, some (.bipush (-3), 2), none, some (.ireturn, 1)]]
def zt_258 : Nat → Option (Instr × Nat) := fun k => zlook 16 ztL_258 k
def zm_258 : zMe := (yX11_go, cX11_go, 4, (some .int), 2, 11, 1, fun k => cond (Nat.blt k 41) (zt_258 k) none)
def ztL_259 : List (List (Option (Instr × Nat))) := [[some (.aload_n 0, 1), some (.iload_n 1, 1), some (.invokevirtual 49, 3), none, none, some (.astore_n 3, 1), some (.aload_n 3, 1), some (.ifnonnull 8, 3), none, none, some (.bipush (-2), 2), none, some (.goto 11, 3), none, none, some (.aload_n 3, 1)], [some (.getfield 75, 3), none, none, some (.iload_n 2, 1), some (.invokevirtual 79, 3), none, none, some (.ireturn, 1)]]
def zt_259 : Nat → Option (Instr × Nat) := fun k => zlook 16 ztL_259 k
def zm_259 : zMe := (yX11_out, cX11_out, 4, (some .int), 2, 11, 1, fun k => cond (Nat.blt k 24) (zt_259 k) none)
def ztL_260 : List (List (Option (Instr × Nat))) := [[some (.aload_n 0, 1), some (.iload_n 1, 1), some (.invokevirtual 49, 3), none, none, some (.astore_n 3, 1), some (.aload_n 3, 1), some (.ifnonnull 8, 3), none, none, some (.bipush (-2), 2), none, some (.goto 8, 3), none, none, some (.aload_n 3, 1)], [some (.iload_n 2, 1), some (.invokevirtual 84, 3), none, none, some (.ireturn, 1)]]
def zt_260 : Nat → Option (Instr × Nat) := fun k => zlook 16 ztL_260 k
def zm_260 : zMe := (yX11_count, cX11_count, 4, (some .int), 2, 11, 1, fun k => cond (Nat.blt k 21) (zt_260 k) none)
def ztL_261 : List (List (Option (Instr × Nat))) := [[some (.aload_n 0, 1), some (.iload_n 1, 1), some (.invokevirtual 49, 3), none, none, some (.astore_n 3, 1), some (.aload_n 3, 1), some (.ifnonnull 6, 3), none, none, some (.bipush (-2), 2), none, some (.ireturn, 1), some (.iload_n 2, 1), some (.tableswitch 41 0 2 #[26, 31, 36], 26)], [], [none, none, none, none, none, none, none, none, some (.aload_n 3, 1), some (.getfield 87, 3), none, none, some (.ireturn, 1), some (.aload_n 3, 1), some (.getfield 90, 3)], [none, some (.ireturn, 1), some (.aload_n 3, 1), some (.getfield 93, 3), none, none, some (.ireturn, 1), some (.bipush (-2), 2), none, some (.ireturn, 1)]]
def zt_261 : Nat → Option (Instr × Nat) := fun k => zlook 16 ztL_261 k
def zm_261 : zMe := (yX11_thrown, cX11_thrown, 4, (some .int), 2, 11, 1, fun k => cond (Nat.blt k 58) (zt_261 k) none)
def ztL_262 : List (List (Option (Instr × Nat))) := [[some (.aload_n 0, 1), some (.iload_n 1, 1), some (.iload_n 2, 1), some (.invokevirtual 96, 3), none, none, some (.astore 4, 2), none, some (.aload 4, 2), none, some (.ifnonnull 8, 3), none, none, some (.bipush (-2), 2), none, some (.goto 9, 3)], [none, none, some (.aload 4, 2), none, some (.iload_n 3, 1), some (.invokevirtual 100, 3), none, none, some (.ireturn, 1)]]
def zt_262 : Nat → Option (Instr × Nat) := fun k => zlook 16 ztL_262 k
def zm_262 : zMe := (yX11_depth, cX11_depth, 5, (some .int), 3, 11, 1, fun k => cond (Nat.blt k 25) (zt_262 k) none)
def ztL_263 : List (List (Option (Instr × Nat))) := [[some (.aload_n 0, 1), some (.iload_n 1, 1), some (.iload_n 2, 1), some (.invokevirtual 96, 3), none, none, some (.astore 5, 2), none, some (.aload 5, 2), none, some (.ifnonnull 8, 3), none, none, some (.bipush (-2), 2), none, some (.goto 11, 3)], [none, none, some (.aload 5, 2), none, some (.iload_n 3, 1), some (.iload 4, 2), none, some (.invokevirtual 105, 3), none, none, some (.ireturn, 1)]]
def zt_263 : Nat → Option (Instr × Nat) := fun k => zlook 16 ztL_263 k
def zm_263 : zMe := (yX11_cell, cX11_cell, 6, (some .int), 4, 11, 1, fun k => cond (Nat.blt k 27) (zt_263 k) none)
def ztL_264 : List (List (Option (Instr × Nat))) := [[some (.aload_n 0, 1), some (.iload_n 1, 1), some (.iload_n 2, 1), some (.invokevirtual 96, 3), none, none, some (.astore_n 3, 1), some (.aload_n 3, 1), some (.ifnonnull 6, 3), none, none, some (.bipush (-2), 2), none, some (.ireturn, 1), some (.aload_n 3, 1), some (.getfield 109, 3)], [none, none, some (.iconst 3, 1), some (.if_icmp .ne 15, 3), none, none, some (.iconst 3, 1), some (.bipush 16, 2), none, some (.aload_n 3, 1), some (.getfield 112, 3), none, none, some (.imul, 1), some (.isub, 1), some (.goto 7, 3)], [none, none, some (.aload_n 3, 1), some (.getfield 109, 3), none, none, some (.ireturn, 1)]]
def zt_264 : Nat → Option (Instr × Nat) := fun k => zlook 16 ztL_264 k
def zm_264 : zMe := (yX11_task, cX11_task, 4, (some .int), 2, 11, 1, fun k => cond (Nat.blt k 39) (zt_264 k) none)
def ztL_265 : List (List (Option (Instr × Nat))) := [[some (.aload_n 0, 1), some (.iload_n 1, 1), some (.invokevirtual 49, 3), none, none, some (.astore 4, 2), none, some (.aload 4, 2), none, some (.ifnull 12, 3), none, none, some (.iload_n 3, 1), some (.ifCond .lt 8, 3)], [some (.iload_n 3, 1), some (.iconst 1, 1), some (.if_icmp .le 6, 3), none, none, some (.bipush (-2), 2), none, some (.ireturn, 1), some (.iload_n 3, 1), some (.iconst 1, 1), some (.if_icmp .ne 7, 3), none, none, some (.iconst 1, 1), some (.goto 11, 3)], [none, some (.aload 4, 2), none, some (.getfield 115, 3), none, none, some (.getfield 119, 3), none, none, some (.istore 5, 2), none, some (.aload 4, 2), none, some (.getfield 115, 3)], [some (.iload_n 2, 1), some (.i2l, 1), some (.iload 5, 2), none, some (.i2l, 1), some (.invokevirtual 124, 3), none, none, some (.ifCond .ne 6, 3), none, none, some (.bipush (-2), 2), none, some (.ireturn, 1), some (.iload_n 3, 1), some (.iconst 1, 1)], [some (.if_icmp .ne 15, 3), none, none, some (.aload 4, 2), none, some (.getfield 115, 3), none, none, some (.iload_n 2, 1), some (.invokevirtual 128, 3), none, none, some (.goto 12, 3), none, none, some (.aload 4, 2)], [none, some (.getfield 115, 3), none, none, some (.iload_n 2, 1), some (.invokevirtual 131, 3), none, none, some (.ireturn, 1)]]
def zt_265 : Nat → Option (Instr × Nat) := fun k => zlook 16 ztL_265 k
def zm_265 : zMe := (yX11_fetch, cX11_fetch, 6, (some .int), 3, 11, 1, fun k => cond (Nat.blt k 89) (zt_265 k) none)
def ztL_266 : List (List (Option (Instr × Nat))) := [[some (.aload_n 0, 1), some (.invokevirtual 45, 3), none, none, some (.istore_n 2, 1), some (.aload_n 0, 1), some (.iload_n 1, 1), some (.invokevirtual 49, 3), none, none, some (.astore_n 3, 1), some (.aload_n 3, 1), some (.ifnonnull 8, 3), none, none, some (.bipush (-2), 2)], [none, some (.goto 12, 3), none, none, some (.aload_n 3, 1), some (.aload_n 0, 1), some (.getfield 9, 3), none, none, some (.iload_n 2, 1), some (.invokevirtual 134, 3), none, none, some (.ireturn, 1)]]
def zt_266 : Nat → Option (Instr × Nat) := fun k => zlook 16 ztL_266 k
def zm_266 : zMe := (yX11_find, cX11_find, 4, (some .int), 1, 11, 1, fun k => cond (Nat.blt k 30) (zt_266 k) none)
def ztL_267 : List (List (Option (Instr × Nat))) := [[some (.aload_n 0, 1), some (.iload_n 1, 1), some (.invokevirtual 49, 3), none, none, some (.astore 4, 2), none, some (.aload 4, 2), none, some (.ifnonnull 8, 3), none, none, some (.bipush (-2), 2), none, some (.goto 13, 3)], [none, some (.aload 4, 2), none, some (.getfield 138, 3), none, none, some (.iload_n 2, 1), some (.iload_n 3, 1), some (.invokevirtual 142, 3), none, none, some (.ireturn, 1)]]
def zt_267 : Nat → Option (Instr × Nat) := fun k => zlook 16 ztL_267 k
def zm_267 : zMe := (yX11_word, cX11_word, 5, (some .int), 3, 11, 1, fun k => cond (Nat.blt k 28) (zt_267 k) none)
def ztL_268 : List (List (Option (Instr × Nat))) := [[some (.aload_n 0, 1), some (.iload_n 1, 1), some (.invokevirtual 49, 3), none, none, some (.astore 4, 2), none, some (.aload 4, 2), none, some (.ifnonnull 8, 3), none, none, some (.bipush (-2), 2), none, some (.goto 13, 3)], [none, some (.aload 4, 2), none, some (.getfield 138, 3), none, none, some (.iload_n 2, 1), some (.iload_n 3, 1), some (.invokevirtual 147, 3), none, none, some (.ireturn, 1)]]
def zt_268 : Nat → Option (Instr × Nat) := fun k => zlook 16 ztL_268 k
def zm_268 : zMe := (yX11_name, cX11_name, 5, (some .int), 3, 11, 1, fun k => cond (Nat.blt k 28) (zt_268 k) none)
def ztL_269 : List (List (Option (Instr × Nat))) := [[some (.aload_n 0, 1), some (.iload_n 1, 1), some (.invokevirtual 49, 3), none, none, some (.astore 4, 2), none, some (.aload 4, 2), none, some (.ifnull 24, 3), none, none, some (.iload_n 3, 1), some (.ifCond .lt 20, 3)], [some (.iload_n 3, 1), some (.iconst 1, 1), some (.if_icmp .gt 15, 3), none, none, some (.aload 4, 2), none, some (.getfield 150, 3), none, none, some (.iload_n 2, 1), some (.invokevirtual 154, 3), none, none, some (.ifCond .ne 6, 3)], [none, some (.bipush (-2), 2), none, some (.ireturn, 1), some (.iload_n 3, 1), some (.ifCond .ne 16, 3), none, none, some (.aload 4, 2), none, some (.getfield 150, 3), none, none, some (.getfield 158, 3)], [some (.iload_n 2, 1), some (.baload, 1), some (.goto 13, 3), none, none, some (.aload 4, 2), none, some (.getfield 150, 3), none, none, some (.getfield 161, 3), none, none, some (.iload_n 2, 1), some (.iaload, 1), some (.ireturn, 1)]]
def zt_269 : Nat → Option (Instr × Nat) := fun k => zlook 16 ztL_269 k
def zm_269 : zMe := (yX11_item, cX11_item, 5, (some .int), 3, 11, 1, fun k => cond (Nat.blt k 64) (zt_269 k) none)
def ztL_270 : List (List (Option (Instr × Nat))) := [[some (.aload_n 0, 1), some (.iload_n 1, 1), some (.invokevirtual 49, 3), none, none, some (.astore_n 3, 1), some (.aload_n 3, 1), some (.ifnull 14, 3), none, none, some (.aload_n 3, 1), some (.getfield 138, 3), none, none, some (.iload_n 2, 1), some (.invokevirtual 165, 3)], [none, none, some (.ifCond .ne 6, 3), none, none, some (.bipush (-2), 2), none, some (.ireturn, 1), some (.aload_n 3, 1), some (.getfield 138, 3), none, none, some (.getfield 168, 3), none, none, some (.iload_n 2, 1)], [some (.baload, 1), some (.ireturn, 1)]]
def zt_270 : Nat → Option (Instr × Nat) := fun k => zlook 16 ztL_270 k
def zm_270 : zMe := (yX11_effect, cX11_effect, 4, (some .int), 2, 11, 1, fun k => cond (Nat.blt k 34) (zt_270 k) none)
def ztL_271 : List (List (Option (Instr × Nat))) := [[some (.aload_n 0, 1), some (.iload_n 1, 1), some (.invokevirtual 49, 3), none, none, some (.astore 4, 2), none, some (.aload 4, 2), none, some (.ifnull 15, 3), none, none, some (.aload 4, 2), none, some (.getfield 138, 3)], [none, some (.iload_n 2, 1), some (.invokevirtual 165, 3), none, none, some (.ifCond .ne 6, 3), none, none, some (.bipush (-2), 2), none, some (.ireturn, 1), some (.iload_n 3, 1), some (.tableswitch 61 0 2 #[28, 39, 50], 28)], [], [none, none, none, none, none, none, none, none, some (.aload 4, 2), none, some (.getfield 138, 3), none, none, some (.getfield 171, 3)], [some (.iload_n 2, 1), some (.iaload, 1), some (.ireturn, 1), some (.aload 4, 2), none, some (.getfield 138, 3), none, none, some (.getfield 174, 3), none, none, some (.iload_n 2, 1), some (.iaload, 1), some (.ireturn, 1), some (.aload 4, 2)], [some (.getfield 138, 3), none, none, some (.getfield 177, 3), none, none, some (.iload_n 2, 1), some (.iaload, 1), some (.ireturn, 1), some (.bipush (-2), 2), none, some (.ireturn, 1)]]
def zt_271 : Nat → Option (Instr × Nat) := fun k => zlook 16 ztL_271 k
def zm_271 : zMe := (yX11_effectOf, cX11_effectOf, 5, (some .int), 3, 11, 1, fun k => cond (Nat.blt k 92) (zt_271 k) none)
def ztL_272 : List (List (Option (Instr × Nat))) := [[some (.aload_n 0, 1), some (.iload_n 1, 1), some (.invokevirtual 49, 3), none, none, some (.astore_n 3, 1), some (.aload_n 3, 1), some (.ifnull 14, 3), none, none, some (.aload_n 3, 1), some (.getfield 138, 3), none, none, some (.iload_n 2, 1), some (.invokevirtual 165, 3)], [none, none, some (.ifCond .ne 6, 3), none, none, some (.bipush (-2), 2), none, some (.ireturn, 1), some (.aload_n 3, 1), some (.getfield 180, 3), none, none, some (.iload_n 2, 1), some (.invokevirtual 184, 3)], [some (.ifCond .ne 6, 3), none, none, some (.bipush (-2), 2), none, some (.ireturn, 1), some (.aload_n 3, 1), some (.invokevirtual 189, 3), none, none, some (.ifCond .ne 6, 3), none, none, some (.bipush (-3), 2), none, some (.ireturn, 1)], [some (.aload_n 3, 1), some (.getfield 180, 3), none, none, some (.iload_n 2, 1), some (.invokevirtual 193, 3), none, none, some (.ireturn, 1)]]
def zt_272 : Nat → Option (Instr × Nat) := fun k => zlook 16 ztL_272 k
def zm_272 : zMe := (yX11_lean, cX11_lean, 4, (some .int), 2, 11, 1, fun k => cond (Nat.blt k 57) (zt_272 k) none)
def ztL_273 : List (List (Option (Instr × Nat))) := [[some (.aload_n 0, 1), some (.iload_n 1, 1), some (.invokevirtual 49, 3), none, none, some (.astore_n 3, 1), some (.aload_n 3, 1), some (.ifnull 14, 3), none, none, some (.aload_n 3, 1), some (.getfield 138, 3), none, none, some (.iload_n 2, 1), some (.invokevirtual 165, 3)], [none, none, some (.ifCond .ne 6, 3), none, none, some (.bipush (-2), 2), none, some (.ireturn, 1), some (.aload_n 0, 1), some (.getfield 29, 3), none, none, some (.aload_n 3, 1), some (.iload_n 2, 1), some (.invokevirtual 196, 3)], [none, some (.ireturn, 1)]]
def zt_273 : Nat → Option (Instr × Nat) := fun k => zlook 16 ztL_273 k
def zm_273 : zMe := (yX11_chip, cX11_chip, 4, (some .int), 2, 11, 1, fun k => cond (Nat.blt k 34) (zt_273 k) none)
def ztL_274 : List (List (Option (Instr × Nat))) := [[some (.aload_n 0, 1), some (.getfield 29, 3), none, none, some (.iload_n 1, 1), some (.invokevirtual 200, 3), none, none, some (.ifCond .eq 15, 3), none, none, some (.aload_n 0, 1), some (.getfield 29, 3), none, none, some (.getfield 201, 3)], [none, none, some (.iload_n 1, 1), some (.iaload, 1), some (.goto 4, 3), none, none, some (.iconst (-1), 1), some (.ireturn, 1)]]
def zt_274 : Nat → Option (Instr × Nat) := fun k => zlook 16 ztL_274 k
def zm_274 : zMe := (yX11_chipWord, cX11_chipWord, 2, (some .int), 1, 11, 1, fun k => cond (Nat.blt k 25) (zt_274 k) none)
def ztL_275 : List (List (Option (Instr × Nat))) := [[some (.aload_n 0, 1), some (.getfield 29, 3), none, none, some (.iload_n 1, 1), some (.invokevirtual 203, 3), none, none, some (.ireturn, 1)]]
def zt_275 : Nat → Option (Instr × Nat) := fun k => zlook 16 ztL_275 k
def zm_275 : zMe := (yX11_chipPut, cX11_chipPut, 2, (some .int), 1, 11, 1, fun k => cond (Nat.blt k 9) (zt_275 k) none)
def ztL_276 : List (List (Option (Instr × Nat))) := [[some (.iload_n 1, 1), some (.invokestatic 53, 3), none, none, some (.ifCond .eq 14, 3), none, none, some (.aload_n 0, 1), some (.getfield 29, 3), none, none, some (.iload_n 1, 1), some (.invokevirtual 206, 3), none, none, some (.goto 5, 3)], [none, none, some (.bipush (-2), 2), none, some (.ireturn, 1)]]
def zt_276 : Nat → Option (Instr × Nat) := fun k => zlook 16 ztL_276 k
def zm_276 : zMe := (yX11_chipGo, cX11_chipGo, 2, (some .int), 1, 11, 1, fun k => cond (Nat.blt k 21) (zt_276 k) none)
def ztL_277 : List (List (Option (Instr × Nat))) := [[some (.aload_n 0, 1), some (.getfield 29, 3), none, none, some (.iload_n 1, 1), some (.invokevirtual 207, 3), none, none, some (.ireturn, 1)]]
def zt_277 : Nat → Option (Instr × Nat) := fun k => zlook 16 ztL_277 k
def zm_277 : zMe := (yX11_chipTold, cX11_chipTold, 2, (some .int), 1, 11, 1, fun k => cond (Nat.blt k 9) (zt_277 k) none)
def ztL_278 : List (List (Option (Instr × Nat))) := [[some (.aload_n 0, 1), some (.getfield 29, 3), none, none, some (.getfield 209, 3), none, none, some (.iconst 0, 1), some (.iload_n 1, 1), some (.invokevirtual 105, 3), none, none, some (.ireturn, 1)]]
def zt_278 : Nat → Option (Instr × Nat) := fun k => zlook 16 ztL_278 k
def zm_278 : zMe := (yX11_chipCell, cX11_chipCell, 2, (some .int), 1, 11, 1, fun k => cond (Nat.blt k 13) (zt_278 k) none)
def ztL_279 : List (List (Option (Instr × Nat))) := [[some (.aload_n 0, 1), some (.getfield 29, 3), none, none, some (.getfield 213, 3), none, none, some (.ifCond .eq 19, 3), none, none, some (.aload_n 0, 1), some (.getfield 29, 3), none, none, some (.getfield 214, 3)], [none, some (.iload_n 1, 1), some (.i2l, 1), some (.lconst 1, 1), some (.invokevirtual 124, 3), none, none, some (.ifCond .ne 5, 3), none, none, some (.iconst (-1), 1), some (.ireturn, 1), some (.aload_n 0, 1), some (.getfield 29, 3)], [some (.getfield 214, 3), none, none, some (.iload_n 1, 1), some (.invokevirtual 128, 3), none, none, some (.ireturn, 1)]]
def zt_279 : Nat → Option (Instr × Nat) := fun k => zlook 16 ztL_279 k
def zm_279 : zMe := (yX11_chipByte, cX11_chipByte, 2, (some .int), 1, 11, 1, fun k => cond (Nat.blt k 40) (zt_279 k) none)
def ztL_280 : List (List (Option (Instr × Nat))) := [[some (.aload_n 0, 1), some (.invokevirtual 45, 3), none, none, some (.istore 4, 2), none, some (.aload_n 0, 1), some (.iload_n 1, 1), some (.invokevirtual 49, 3), none, none, some (.astore 5, 2), none, some (.aload 5, 2), none, some (.ifnull 13, 3)], [none, none, some (.iload_n 2, 1), some (.ifCond .lt 9, 3), none, none, some (.iload_n 2, 1), some (.bipush 8, 2), none, some (.if_icmp .lt 6, 3), none, none, some (.bipush (-2), 2), none, some (.ireturn, 1), some (.iload_n 3, 1)], [some (.ifCond .lt 13, 3), none, none, some (.iload_n 3, 1), some (.sipush 512, 3), none, none, some (.iload 4, 2), none, some (.isub, 1), some (.if_icmp .le 6, 3), none, none, some (.bipush (-2), 2), none, some (.ireturn, 1)], [some (.aload_n 0, 1), some (.getfield 9, 3), none, none, some (.iconst 0, 1), some (.aload 5, 2), none, some (.getfield 57, 3), none, none, some (.getfield 215, 3), none, none, some (.iload_n 2, 1), some (.sipush 512, 3)], [none, some (.imul, 1), some (.iload_n 3, 1), some (.iadd, 1), some (.iload 4, 2), none, some (.invokestatic 218, 3), none, none, some (.iload 4, 2), none, some (.ireturn, 1)]]
def zt_280 : Nat → Option (Instr × Nat) := fun k => zlook 16 ztL_280 k
def zm_280 : zMe := (yX11_put, cX11_put, 6, (some .int), 3, 11, 1, fun k => cond (Nat.blt k 76) (zt_280 k) none)
def ztL_281 : List (List (Option (Instr × Nat))) := [[some (.aload_n 0, 1), some (.iload_n 1, 1), some (.invokevirtual 49, 3), none, none, some (.astore_n 3, 1), some (.aload_n 3, 1), some (.ifnull 12, 3), none, none, some (.iload_n 2, 1), some (.ifCond .lt 8, 3), none, none, some (.iload_n 2, 1), some (.iconst 2, 1)], [some (.if_icmp .lt 6, 3), none, none, some (.bipush (-2), 2), none, some (.ireturn, 1), some (.aload_n 0, 1), some (.getfield 19, 3), none, none, some (.iload_n 2, 1), some (.aaload, 1), some (.aload_n 3, 1), some (.invokevirtual 224, 3)], [some (.aload_n 0, 1), some (.getfield 22, 3), none, none, some (.iload_n 2, 1), some (.iconst 1, 1), some (.bastore, 1), some (.iconst 1, 1), some (.ireturn, 1)]]
def zt_281 : Nat → Option (Instr × Nat) := fun k => zlook 16 ztL_281 k
def zm_281 : zMe := (yX11_keep, cX11_keep, 4, (some .int), 2, 11, 1, fun k => cond (Nat.blt k 41) (zt_281 k) none)
def ztL_282 : List (List (Option (Instr × Nat))) := [[some (.iload_n 1, 1), some (.ifCond .lt 20, 3), none, none, some (.iload_n 1, 1), some (.aload_n 0, 1), some (.getfield 38, 3), none, none, some (.if_icmp .gt 12, 3), none, none, some (.iload_n 2, 1), some (.ifCond .lt 8, 3)], [some (.iload_n 2, 1), some (.iconst 2, 1), some (.if_icmp .lt 6, 3), none, none, some (.bipush (-2), 2), none, some (.ireturn, 1), some (.aload_n 0, 1), some (.getfield 22, 3), none, none, some (.iload_n 2, 1), some (.baload, 1), some (.ifCond .ne 5, 3)], [none, some (.iconst (-1), 1), some (.ireturn, 1), some (.iload_n 1, 1), some (.iconst 3, 1), some (.if_icmp .lt 6, 3), none, none, some (.bipush (-4), 2), none, some (.ireturn, 1), some (.iload_n 1, 1), some (.aload_n 0, 1), some (.getfield 38, 3)], [some (.if_icmp .ne 13, 3), none, none, some (.aload_n 0, 1), some (.dup, 1), some (.getfield 38, 3), none, none, some (.iconst 1, 1), some (.iadd, 1), some (.putfield 38, 3), none, none, some (.aload_n 0, 1), some (.getfield 15, 3)], [none, some (.iload_n 1, 1), some (.aaload, 1), some (.aload_n 0, 1), some (.getfield 19, 3), none, none, some (.iload_n 2, 1), some (.aaload, 1), some (.invokevirtual 224, 3), none, none, some (.iload_n 1, 1), some (.ireturn, 1)]]
def zt_282 : Nat → Option (Instr × Nat) := fun k => zlook 16 ztL_282 k
def zm_282 : zMe := (yX11_again, cX11_again, 3, (some .int), 2, 11, 1, fun k => cond (Nat.blt k 78) (zt_282 k) none)
def ztL_283 : List (List (Option (Instr × Nat))) := [[some (.aload_n 0, 1), some (.iload_n 1, 1), some (.invokevirtual 49, 3), none, none, some (.astore_n 3, 1), some (.aload_n 0, 1), some (.iload_n 2, 1), some (.invokevirtual 49, 3), none, none, some (.astore 4, 2), none, some (.aload_n 3, 1), some (.ifnull 21, 3)], [none, some (.aload 4, 2), none, some (.ifnull 16, 3), none, none, some (.aload_n 3, 1), some (.aload 4, 2), none, some (.invokevirtual 228, 3), none, none, some (.ifCond .eq 7, 3), none, none, some (.iconst 1, 1)], [some (.goto 4, 3), none, none, some (.iconst 0, 1), some (.ireturn, 1)]]
def zt_283 : Nat → Option (Instr × Nat) := fun k => zlook 16 ztL_283 k
def zm_283 : zMe := (yX11_same, cX11_same, 5, (some .boolean), 2, 11, 1, fun k => cond (Nat.blt k 37) (zt_283 k) none)
def ztL_284 : List (List (Option (Instr × Nat))) := [[some (.iload_n 1, 1), some (.ifCond .lt 11, 3), none, none, some (.iload_n 1, 1), some (.aload_n 0, 1), some (.getfield 38, 3), none, none, some (.if_icmp .lt 7, 3), none, none, some (.aconst_null, 1), some (.goto 9, 3)], [some (.aload_n 0, 1), some (.getfield 15, 3), none, none, some (.iload_n 1, 1), some (.aaload, 1), some (.areturn, 1)]]
def zt_284 : Nat → Option (Instr × Nat) := fun k => zlook 16 ztL_284 k
def zm_284 : zMe := (yX11_systemOf, cX11_systemOf, 2, (some (.object "ForthHouse$Forth")), 1, 11, 1, fun k => cond (Nat.blt k 23) (zt_284 k) none)
def ztL_285 : List (List (Option (Instr × Nat))) := [[some (.aload_n 0, 1), some (.iload_n 1, 1), some (.invokevirtual 49, 3), none, none, some (.astore_n 3, 1), some (.aload_n 3, 1), some (.ifnull 12, 3), none, none, some (.iload_n 2, 1), some (.ifCond .lt 8, 3), none, none, some (.iload_n 2, 1), some (.iconst 4, 1)], [some (.if_icmp .lt 7, 3), none, none, some (.aconst_null, 1), some (.goto 9, 3), none, none, some (.aload_n 3, 1), some (.getfield 232, 3), none, none, some (.iload_n 2, 1), some (.aaload, 1), some (.areturn, 1)]]
def zt_285 : Nat → Option (Instr × Nat) := fun k => zlook 16 ztL_285 k
def zm_285 : zMe := (yX11_taskOf, cX11_taskOf, 4, (some (.object "ForthHouse$Task")), 2, 11, 1, fun k => cond (Nat.blt k 30) (zt_285 k) none)
def ztL_286 : List (List (Option (Instr × Nat))) := [[some (.iload_n 0, 1), some (.iconst 1, 1), some (.if_icmp .lt 14, 3), none, none, some (.iload_n 0, 1), some (.sipush 20000, 3), none, none, some (.if_icmp .gt 7, 3), none, none, some (.iconst 1, 1), some (.goto 4, 3)], [some (.iconst 0, 1), some (.ireturn, 1)]]
def zt_286 : Nat → Option (Instr × Nat) := fun k => zlook 16 ztL_286 k
def zm_286 : zMe := (yX11_stepsGood, cX11_stepsGood, 1, (some .boolean), 1, 11, 0, fun k => cond (Nat.blt k 18) (zt_286 k) none)
def ztL_0 : List (List (Option (Instr × Nat))) := [[some (.aload_n 0, 1), some (.invokespecial 3, 3), none, none, some (.aload_n 0, 1), some (.sipush 2000, 3), none, none, some (.newarray .int, 2), none, some (.putfield 9, 3), none, none, some (.aload_n 0, 1), some (.new 15, 3)], [none, some (.dup, 1), some (.invokespecial 17, 3), none, none, some (.putfield 18, 3), none, none, some (.aload_n 0, 1), some (.new 22, 3), none, none, some (.dup, 1), some (.aload_n 0, 1), some (.getfield 18, 3)], [none, some (.invokespecial 24, 3), none, none, some (.putfield 27, 3), none, none, some (.aload_n 0, 1), some (.sipush 4000, 3), none, none, some (.newarray .int, 2), none, some (.putfield 31, 3)], [some (.aload_n 0, 1), some (.sipush 360, 3), none, none, some (.newarray .int, 2), none, some (.putfield 34, 3), none, none, some (.aload_n 0, 1), some (.sipush 360, 3), none, none, some (.newarray .int, 2), none, some (.putfield 37, 3)], [none, none, some (.return_, 1)]]
def zt_0 : Nat → Option (Instr × Nat) := fun k => zlook 16 ztL_0 k
def zm_0 : zMe := (yX0_init, cX0_init, 1, none, 0, 0, 2, fun k => cond (Nat.blt k 67) (zt_0 k) none)
def ztL_1 : List (List (Option (Instr × Nat))) := [[some (.iload_n 1, 1), some (.ifCond .lt 15, 3), none, none, some (.iload_n 1, 1), some (.aload_n 0, 1), some (.getfield 40, 3), none, none, some (.if_icmp .ge 7, 3), none, none, some (.iconst 1, 1), some (.goto 4, 3)], [some (.iconst 0, 1), some (.ireturn, 1)]]
def zt_1 : Nat → Option (Instr × Nat) := fun k => zlook 16 ztL_1 k
def zm_1 : zMe := (yX0_holds, cX0_holds, 2, (some .boolean), 1, 0, 1, fun k => cond (Nat.blt k 18) (zt_1 k) none)
def ztL_11 : List (List (Option (Instr × Nat))) := [[some (.aload_n 0, 1), some (.getfield 47, 3), none, none, some (.iconst 1, 1), some (.if_icmp .eq 6, 3), none, none, some (.bipush (-3), 2), none, some (.ireturn, 1), some (.aload_n 0, 1), some (.getfield 27, 3), none, none, some (.getfield 146, 3)], [none, none, some (.bipush 64, 2), none, some (.if_icmp .lt 6, 3), none, none, some (.bipush (-4), 2), none, some (.ireturn, 1), some (.aload_n 0, 1), some (.getfield 27, 3), none, none, some (.iload_n 1, 1), some (.i2l, 1)], [some (.invokevirtual 149, 3), none, none, some (.pop, 1), some (.aload_n 0, 1), some (.getfield 27, 3), none, none, some (.getfield 146, 3), none, none, some (.ireturn, 1)]]
def zt_11 : Nat → Option (Instr × Nat) := fun k => zlook 16 ztL_11 k
def zm_11 : zMe := (yX0_receive, cX0_receive, 2, (some .int), 1, 0, 1, fun k => cond (Nat.blt k 44) (zt_11 k) none)
def ztL_12 : List (List (Option (Instr × Nat))) := [[some (.aload_n 0, 1), some (.getfield 47, 3), none, none, some (.ifCond .ne 6, 3), none, none, some (.bipush (-3), 2), none, some (.ireturn, 1), some (.iconst 0, 1), some (.istore_n 2, 1), some (.iload_n 2, 1), some (.iload_n 1, 1), some (.if_icmp .ge 74, 3)], [none, some (.aload_n 0, 1), some (.getfield 47, 3), none, none, some (.iconst 1, 1), some (.if_icmp .ne 66, 3), none, none, some (.aload_n 0, 1), some (.getfield 27, 3), none, none, some (.getfield 73, 3)], [some (.istore_n 3, 1), some (.aload_n 0, 1), some (.dup, 1), some (.getfield 53, 3), none, none, some (.iconst 1, 1), some (.iadd, 1), some (.putfield 53, 3), none, none, some (.aload_n 0, 1), some (.iload_n 3, 1), some (.invokevirtual 153, 3)], [some (.istore 4, 2), none, some (.iload 4, 2), none, some (.ifCond .eq 14, 3), none, none, some (.aload_n 0, 1), some (.iload 4, 2), none, some (.putfield 50, 3), none, none, some (.aload_n 0, 1), some (.iconst 3, 1), some (.putfield 47, 3)], [none, none, some (.aload_n 0, 1), some (.getfield 47, 3), none, none, some (.iconst 1, 1), some (.if_icmp .eq 11, 3), none, none, some (.aload_n 0, 1), some (.getfield 27, 3), none, none, some (.iload_n 3, 1), some (.putfield 73, 3)], [none, none, some (.iinc 2 1, 3), none, none, some (.goto (-73), 3), none, none, some (.aload_n 0, 1), some (.getfield 47, 3), none, none, some (.iconst 1, 1), some (.if_icmp .ne 7, 3)], [some (.iconst 1, 1), some (.goto 17, 3), none, none, some (.aload_n 0, 1), some (.getfield 47, 3), none, none, some (.iconst 2, 1), some (.if_icmp .ne 7, 3), none, none, some (.iconst 0, 1), some (.goto 5, 3)], [some (.bipush (-2), 2), none, some (.ireturn, 1)]]
def zt_12 : Nat → Option (Instr × Nat) := fun k => zlook 16 ztL_12 k
def zm_12 : zMe := (yX0_run, cX0_run, 5, (some .int), 1, 0, 1, fun k => cond (Nat.blt k 115) (zt_12 k) none)
def ztL_15 : List (List (Option (Instr × Nat))) := [[some (.iload_n 1, 1), some (.ifCond .lt 9, 3), none, none, some (.iload_n 1, 1), some (.bipush 7, 2), none, some (.if_icmp .le 6, 3), none, none, some (.bipush (-2), 2), none, some (.ireturn, 1), some (.aload_n 0, 1), some (.getfield 47, 3)], [none, some (.ifCond .ne 5, 3), none, none, some (.iconst 0, 1), some (.ireturn, 1), some (.iload_n 1, 1), some (.tableswitch 76 0 7 #[45, 76, 76, 76, 53, 58, 63, 68], 45)], [], [], [none, none, none, none, some (.aload_n 0, 1), some (.getfield 27, 3), none, none, some (.getfield 73, 3), none, none, some (.ireturn, 1), some (.aload_n 0, 1), some (.getfield 50, 3)], [some (.ireturn, 1), some (.aload_n 0, 1), some (.getfield 53, 3), none, none, some (.ireturn, 1), some (.aload_n 0, 1), some (.getfield 40, 3), none, none, some (.ireturn, 1), some (.aload_n 0, 1), some (.getfield 27, 3), none, none, some (.getfield 177, 3)], [none, none, some (.ireturn, 1), some (.aload_n 0, 1), some (.getfield 27, 3), none, none, some (.iload_n 1, 1), some (.iconst 1, 1), some (.isub, 1), some (.invokevirtual 196, 3), none, none, some (.ireturn, 1)]]
def zt_15 : Nat → Option (Instr × Nat) := fun k => zlook 16 ztL_15 k
def zm_15 : zMe := (yX0_tell, cX0_tell, 2, (some .int), 1, 0, 1, fun k => cond (Nat.blt k 110) (zt_15 k) none)
def ztL_158 : List (List (Option (Instr × Nat))) := [[some (.aload_n 0, 1), some (.invokespecial 3, 3), none, none, some (.aload_n 0, 1), some (.sipush 4096, 3), none, none, some (.newarray .byte, 2), none, some (.putfield 9, 3), none, none, some (.aload_n 0, 1), some (.sipush 256, 3)], [none, some (.putfield 15, 3), none, none, some (.aload_n 0, 1), some (.sipush 128, 3), none, none, some (.putfield 19, 3), none, none, some (.return_, 1)]]
def zt_158 : Nat → Option (Instr × Nat) := fun k => zlook 16 ztL_158 k
def zm_158 : zMe := (yX7_init, cX7_init, 1, none, 0, 7, 2, fun k => cond (Nat.blt k 28) (zt_158 k) none)
def ztL_175 : List (List (Option (Instr × Nat))) := [[some (.aload_n 0, 1), some (.invokespecial 3, 3), none, none, some (.aload_n 0, 1), some (.bipush 64, 2), none, some (.newarray .int, 2), none, some (.putfield 9, 3), none, none, some (.aload_n 0, 1), some (.bipush 64, 2), none, some (.newarray .int, 2)], [none, some (.putfield 15, 3), none, none, some (.aload_n 0, 1), some (.bipush 32, 2), none, some (.newarray .int, 2), none, some (.putfield 18, 3), none, none, some (.aload_n 0, 1), some (.bipush 64, 2), none, some (.newarray .int, 2)], [none, some (.putfield 21, 3), none, none, some (.aload_n 0, 1), some (.sipush 320, 3), none, none, some (.newarray .int, 2), none, some (.putfield 24, 3), none, none, some (.aload_n 0, 1), some (.iconst 4, 1), some (.newarray .int, 2)], [none, some (.putfield 27, 3), none, none, some (.aload_n 0, 1), some (.iconst (-1), 1), some (.putfield 30, 3), none, none, some (.aload_n 0, 1), some (.iconst (-1), 1), some (.putfield 34, 3), none, none, some (.aload_n 0, 1), some (.aload_n 1, 1)], [some (.putfield 37, 3), none, none, some (.return_, 1)]]
def zt_175 : Nat → Option (Instr × Nat) := fun k => zlook 16 ztL_175 k
def zm_175 : zMe := (yX8_init, cX8_init, 2, none, 1, 8, 2, fun k => cond (Nat.blt k 68) (zt_175 k) none)
def ztL_16 : List (List (Option (Instr × Nat))) := [[some (.aload_n 0, 1), some (.invokespecial 3, 3), none, none, some (.aload_n 0, 1), some (.new 9, 3), none, none, some (.dup, 1), some (.invokespecial 11, 3), none, none, some (.putfield 12, 3), none, none, some (.aload_n 0, 1)], [some (.new 18, 3), none, none, some (.dup, 1), some (.invokespecial 20, 3), none, none, some (.putfield 21, 3), none, none, some (.aload_n 0, 1), some (.new 25, 3), none, none, some (.dup, 1), some (.invokespecial 27, 3)], [none, none, some (.putfield 28, 3), none, none, some (.aload_n 0, 1), some (.new 32, 3), none, none, some (.dup, 1), some (.aload_n 0, 1), some (.getfield 12, 3), none, none, some (.invokespecial 34, 3)], [none, some (.putfield 37, 3), none, none, some (.aload_n 0, 1), some (.new 41, 3), none, none, some (.dup, 1), some (.aload_n 0, 1), some (.getfield 28, 3), none, none, some (.invokespecial 43, 3)], [some (.putfield 46, 3), none, none, some (.aload_n 0, 1), some (.new 50, 3), none, none, some (.dup, 1), some (.invokespecial 52, 3), none, none, some (.putfield 53, 3), none, none, some (.aload_n 0, 1), some (.new 57, 3)], [none, none, some (.dup, 1), some (.invokespecial 59, 3), none, none, some (.putfield 60, 3), none, none, some (.aload_n 0, 1), some (.new 64, 3), none, none, some (.dup, 1), some (.aload_n 0, 1), some (.getfield 21, 3)], [none, none, some (.aload_n 0, 1), some (.getfield 28, 3), none, none, some (.aload_n 0, 1), some (.getfield 12, 3), none, none, some (.invokespecial 66, 3), none, none, some (.putfield 69, 3)], [some (.aload_n 0, 1), some (.iconst 4, 1), some (.anewarray 73, 3), none, none, some (.putfield 75, 3), none, none, some (.aload_n 0, 1), some (.iconst (-1), 1), some (.putfield 79, 3), none, none, some (.aload_n 0, 1), some (.iconst (-1), 1), some (.putfield 83, 3)], [none, none, some (.iconst 0, 1), some (.istore_n 1, 1), some (.iload_n 1, 1), some (.iconst 4, 1), some (.if_icmp .ge 26, 3), none, none, some (.aload_n 0, 1), some (.getfield 75, 3), none, none, some (.iload_n 1, 1), some (.new 73, 3)], [none, some (.dup, 1), some (.aload_n 0, 1), some (.getfield 12, 3), none, none, some (.invokespecial 86, 3), none, none, some (.aastore, 1), some (.iinc 1 1, 3), none, none, some (.goto (-25), 3)], [some (.aload_n 0, 1), some (.getfield 75, 3), none, none, some (.iconst 0, 1), some (.aaload, 1), some (.iconst 1, 1), some (.putfield 87, 3), none, none, some (.return_, 1)]]
def zt_16 : Nat → Option (Instr × Nat) := fun k => zlook 16 ztL_16 k
def zm_16 : zMe := (yX1_init, cX1_init, 2, none, 0, 1, 2, fun k => cond (Nat.blt k 171) (zt_16 k) none)
def ztL_238 : List (List (Option (Instr × Nat))) := [[some (.aload_n 0, 1), some (.invokespecial 3, 3), none, none, some (.aload_n 0, 1), some (.sipush 360, 3), none, none, some (.newarray .byte, 2), none, some (.putfield 9, 3), none, none, some (.aload_n 0, 1), some (.sipush 360, 3)], [none, some (.newarray .byte, 2), none, some (.putfield 15, 3), none, none, some (.aload_n 0, 1), some (.sipush 360, 3), none, none, some (.newarray .byte, 2), none, some (.putfield 18, 3), none, none, some (.aload_n 0, 1)], [some (.sipush 360, 3), none, none, some (.newarray .int, 2), none, some (.putfield 21, 3), none, none, some (.aload_n 0, 1), some (.sipush 360, 3), none, none, some (.newarray .int, 2), none, some (.putfield 25, 3)], [none, some (.aload_n 0, 1), some (.sipush 360, 3), none, none, some (.newarray .int, 2), none, some (.putfield 28, 3), none, none, some (.aload_n 0, 1), some (.sipush 360, 3), none, none, some (.newarray .byte, 2)], [some (.putfield 31, 3), none, none, some (.aload_n 0, 1), some (.sipush 8640, 3), none, none, some (.newarray .byte, 2), none, some (.putfield 34, 3), none, none, some (.aload_n 0, 1), some (.sipush 360, 3)], [some (.newarray .byte, 2), none, some (.putfield 37, 3), none, none, some (.aload_n 0, 1), some (.sipush 360, 3), none, none, some (.newarray .int, 2), none, some (.putfield 40, 3), none, none, some (.aload_n 0, 1), some (.sipush 360, 3)], [none, none, some (.newarray .int, 2), none, some (.putfield 43, 3), none, none, some (.aload_n 0, 1), some (.sipush 360, 3), none, none, some (.newarray .int, 2), none, some (.putfield 46, 3)], [some (.aload_n 0, 1), some (.iconst (-1), 1), some (.putfield 49, 3), none, none, some (.aload_n 0, 1), some (.ldc 53, 2), none, some (.invokevirtual 55, 3), none, none, some (.aload_n 0, 1), some (.ldc 59, 2), none, some (.invokevirtual 55, 3)], [none, some (.aload_n 0, 1), some (.ldc 61, 2), none, some (.invokevirtual 55, 3), none, none, some (.aload_n 0, 1), some (.ldc 63, 2), none, some (.invokevirtual 55, 3), none, none, some (.aload_n 0, 1), some (.ldc 65, 2)], [some (.invokevirtual 55, 3), none, none, some (.aload_n 0, 1), some (.ldc 67, 2), none, some (.invokevirtual 55, 3), none, none, some (.aload_n 0, 1), some (.ldc 69, 2), none, some (.invokevirtual 55, 3), none, none, some (.aload_n 0, 1)], [some (.ldc 71, 2), none, some (.invokevirtual 55, 3), none, none, some (.aload_n 0, 1), some (.ldc 73, 2), none, some (.invokevirtual 55, 3), none, none, some (.return_, 1)]]
def zt_238 : Nat → Option (Instr × Nat) := fun k => zlook 16 ztL_238 k
def zm_238 : zMe := (yX10_init, cX10_init, 1, none, 0, 10, 2, fun k => cond (Nat.blt k 172) (zt_238 k) none)
def ztL_79 : List (List (Option (Instr × Nat))) := [[some (.aload_n 0, 1), some (.invokespecial 3, 3), none, none, some (.aload_n 0, 1), some (.sipush 4000, 3), none, none, some (.newarray .byte, 2), none, some (.putfield 9, 3), none, none, some (.aload_n 0, 1), some (.sipush 4000, 3)], [none, some (.newarray .int, 2), none, some (.putfield 15, 3), none, none, some (.return_, 1)]]
def zt_79 : Nat → Option (Instr × Nat) := fun k => zlook 16 ztL_79 k
def zm_79 : zMe := (yX2_init, cX2_init, 1, none, 0, 2, 2, fun k => cond (Nat.blt k 23) (zt_79 k) none)
def ztL_225 : List (List (Option (Instr × Nat))) := [[some (.aload_n 0, 1), some (.invokespecial 3, 3), none, none, some (.aload_n 0, 1), some (.sipush 1024, 3), none, none, some (.newarray .byte, 2), none, some (.putfield 9, 3), none, none, some (.aload_n 0, 1), some (.sipush 4096, 3)], [none, some (.newarray .byte, 2), none, some (.putfield 15, 3), none, none, some (.aload_n 0, 1), some (.iconst 5, 1), some (.newarray .int, 2), none, some (.putfield 18, 3), none, none, some (.aload_n 0, 1), some (.iconst 5, 1), some (.newarray .int, 2)], [none, some (.putfield 22, 3), none, none, some (.aload_n 0, 1), some (.iconst 5, 1), some (.newarray .int, 2), none, some (.putfield 25, 3), none, none, some (.aload_n 0, 1), some (.iconst 5, 1), some (.newarray .int, 2), none, some (.putfield 28, 3)], [none, none, some (.aload_n 0, 1), some (.sipush 4096, 3), none, none, some (.newarray .byte, 2), none, some (.putfield 31, 3), none, none, some (.aload_n 0, 1), some (.aload_n 1, 1), some (.putfield 34, 3)], [some (.aload_n 0, 1), some (.getfield 15, 3), none, none, some (.bipush 32, 2), none, some (.invokestatic 38, 3), none, none, some (.aload_n 0, 1), some (.aload_n 0, 1), some (.getfield 9, 3), none, none, some (.putfield 44, 3)], [none, some (.return_, 1)]]
def zt_225 : Nat → Option (Instr × Nat) := fun k => zlook 16 ztL_225 k
def zm_225 : zMe := (yX9_init, cX9_init, 2, none, 1, 9, 2, fun k => cond (Nat.blt k 82) (zt_225 k) none)
def ztL_120 : List (List (Option (Instr × Nat))) := [[some (.aload_n 0, 1), some (.invokespecial 3, 3), none, none, some (.aload_n 0, 1), some (.iconst 5, 1), some (.newarray .int, 2), none, some (.putfield 9, 3), none, none, some (.aload_n 0, 1), some (.iconst 5, 1), some (.newarray .int, 2), none, some (.putfield 15, 3)], [none, none, some (.aload_n 0, 1), some (.iconst 5, 1), some (.newarray .int, 2), none, some (.putfield 18, 3), none, none, some (.aload_n 0, 1), some (.iconst 5, 1), some (.newarray .int, 2), none, some (.putfield 21, 3)], [some (.aload_n 0, 1), some (.iconst 5, 1), some (.newarray .int, 2), none, some (.putfield 24, 3), none, none, some (.aload_n 0, 1), some (.bipush 40, 2), none, some (.newarray .byte, 2), none, some (.putfield 27, 3), none, none, some (.aload_n 0, 1)], [some (.sipush 960, 3), none, none, some (.newarray .byte, 2), none, some (.putfield 31, 3), none, none, some (.aload_n 0, 1), some (.bipush 32, 2), none, some (.newarray .int, 2), none, some (.putfield 34, 3)], [some (.aload_n 0, 1), some (.bipush 32, 2), none, some (.newarray .int, 2), none, some (.putfield 37, 3), none, none, some (.aload_n 0, 1), some (.aload_n 1, 1), some (.putfield 40, 3), none, none, some (.return_, 1)]]
def zt_120 : Nat → Option (Instr × Nat) := fun k => zlook 16 ztL_120 k
def zm_120 : zMe := (yX5_init, cX5_init, 2, none, 1, 5, 2, fun k => cond (Nat.blt k 78) (zt_120 k) none)
def ztL_111 : List (List (Option (Instr × Nat))) := [[some (.aload_n 0, 1), some (.invokespecial 3, 3), none, none, some (.aload_n 0, 1), some (.bipush 8, 2), none, some (.newarray .int, 2), none, some (.putfield 9, 3), none, none, some (.aload_n 0, 1), some (.iconst 1, 1), some (.putfield 15, 3)], [none, some (.aload_n 0, 1), some (.iconst 1, 1), some (.putfield 19, 3), none, none, some (.aload_n 0, 1), some (.iconst 1, 1), some (.putfield 22, 3), none, none, some (.aload_n 0, 1), some (.bipush 32, 2), none, some (.newarray .int, 2)], [some (.putfield 25, 3), none, none, some (.aload_n 0, 1), some (.bipush 32, 2), none, some (.newarray .int, 2), none, some (.putfield 28, 3), none, none, some (.aload_n 0, 1), some (.bipush 32, 2), none, some (.newarray .int, 2)], [some (.putfield 31, 3), none, none, some (.aload_n 0, 1), some (.bipush 32, 2), none, some (.newarray .int, 2), none, some (.putfield 34, 3), none, none, some (.aload_n 0, 1), some (.bipush 32, 2), none, some (.newarray .int, 2)], [some (.putfield 37, 3), none, none, some (.aload_n 0, 1), some (.bipush 32, 2), none, some (.newarray .int, 2), none, some (.putfield 40, 3), none, none, some (.aload_n 0, 1), some (.sipush 256, 3), none, none, some (.newarray .int, 2)], [none, some (.putfield 43, 3), none, none, some (.aload_n 0, 1), some (.getfield 9, 3), none, none, some (.iconst 0, 1), some (.iconst 1, 1), some (.iastore, 1), some (.return_, 1)]]
def zt_111 : Nat → Option (Instr × Nat) := fun k => zlook 16 ztL_111 k
def zm_111 : zMe := (yX4_init, cX4_init, 1, none, 0, 4, 2, fun k => cond (Nat.blt k 92) (zt_111 k) none)
def ztL_147 : List (List (Option (Instr × Nat))) := [[some (.aload_n 0, 1), some (.invokespecial 3, 3), none, none, some (.aload_n 0, 1), some (.sipush 3000, 3), none, none, some (.newarray .byte, 2), none, some (.putfield 9, 3), none, none, some (.aload_n 0, 1), some (.bipush 64, 2)], [some (.newarray .byte, 2), none, some (.putfield 15, 3), none, none, some (.aload_n 0, 1), some (.bipush 64, 2), none, some (.newarray .int, 2), none, some (.putfield 18, 3), none, none, some (.return_, 1)]]
def zt_147 : Nat → Option (Instr × Nat) := fun k => zlook 16 ztL_147 k
def zm_147 : zMe := (yX6_init, cX6_init, 1, none, 0, 6, 2, fun k => cond (Nat.blt k 30) (zt_147 k) none)
def ztL_89 : List (List (Option (Instr × Nat))) := [[some (.aload_n 0, 1), some (.invokespecial 3, 3), none, none, some (.aload_n 0, 1), some (.sipush 4000, 3), none, none, some (.newarray .int, 2), none, some (.putfield 9, 3), none, none, some (.aload_n 0, 1), some (.sipush 4000, 3)], [none, some (.newarray .int, 2), none, some (.putfield 15, 3), none, none, some (.aload_n 0, 1), some (.sipush 4000, 3), none, none, some (.newarray .int, 2), none, some (.putfield 18, 3), none, none, some (.aload_n 0, 1)], [some (.sipush 4000, 3), none, none, some (.newarray .byte, 2), none, some (.putfield 21, 3), none, none, some (.aload_n 0, 1), some (.aload_n 1, 1), some (.putfield 25, 3), none, none, some (.aload_n 0, 1), some (.aload_n 2, 1), some (.putfield 29, 3)], [none, none, some (.aload_n 0, 1), some (.new 33, 3), none, none, some (.dup, 1), some (.aload_n 3, 1), some (.invokespecial 35, 3), none, none, some (.putfield 38, 3), none, none, some (.return_, 1)]]
def zt_89 : Nat → Option (Instr × Nat) := fun k => zlook 16 ztL_89 k
def zm_89 : zMe := (yX3_init, cX3_init, 4, none, 3, 3, 2, fun k => cond (Nat.blt k 63) (zt_89 k) none)
def ztL_239 : List (List (Option (Instr × Nat))) := [[some (.iconst 0, 1), some (.istore_n 2, 1), some (.iload_n 2, 1), some (.aload_n 1, 1), some (.invokevirtual 75, 3), none, none, some (.if_icmp .ge 114, 3), none, none, some (.aload_n 1, 1), some (.iload_n 2, 1), some (.invokevirtual 81, 3), none, none, some (.bipush 32, 2)], [none, some (.if_icmp .ne 56, 3), none, none, some (.aload_n 0, 1), some (.getfield 18, 3), none, none, some (.aload_n 0, 1), some (.getfield 85, 3), none, none, some (.iconst 1, 1), some (.bastore, 1), some (.aload_n 0, 1), some (.getfield 28, 3)], [none, none, some (.aload_n 0, 1), some (.getfield 85, 3), none, none, some (.iconst (-1), 1), some (.iastore, 1), some (.aload_n 0, 1), some (.getfield 15, 3), none, none, some (.aload_n 0, 1), some (.getfield 85, 3)], [some (.getstatic 88, 3), none, none, some (.aload_n 0, 1), some (.getfield 85, 3), none, none, some (.baload, 1), some (.iconst 1, 1), some (.iand, 1), some (.i2b, 1), some (.bastore, 1), some (.aload_n 0, 1), some (.dup, 1), some (.getfield 85, 3)], [none, some (.iconst 1, 1), some (.iadd, 1), some (.putfield 85, 3), none, none, some (.goto 45, 3), none, none, some (.aload_n 0, 1), some (.getfield 34, 3), none, none, some (.aload_n 0, 1), some (.getfield 85, 3)], [none, some (.bipush 24, 2), none, some (.imul, 1), some (.aload_n 0, 1), some (.getfield 31, 3), none, none, some (.aload_n 0, 1), some (.getfield 85, 3), none, none, some (.baload, 1), some (.iadd, 1), some (.aload_n 1, 1), some (.iload_n 2, 1)], [some (.invokevirtual 81, 3), none, none, some (.i2b, 1), some (.bastore, 1), some (.aload_n 0, 1), some (.getfield 31, 3), none, none, some (.aload_n 0, 1), some (.getfield 85, 3), none, none, some (.dup2, 1), some (.baload, 1), some (.iconst 1, 1)], [some (.iadd, 1), some (.i2b, 1), some (.bastore, 1), some (.iinc 2 1, 3), none, none, some (.goto (-116), 3), none, none, some (.return_, 1)]]
def zt_239 : Nat → Option (Instr × Nat) := fun k => zlook 16 ztL_239 k
def zm_239 : zMe := (yX10_addLine, cX10_addLine, 3, none, 1, 10, 1, fun k => cond (Nat.blt k 122) (zt_239 k) none)
def ztL_17 : List (List (Option (Instr × Nat))) := [[some (.aload_n 0, 1), some (.getfield 12, 3), none, none, some (.iload_n 1, 1), some (.putfield 90, 3), none, none, some (.aload_n 0, 1), some (.getfield 12, 3), none, none, some (.iload_n 2, 1), some (.putfield 93, 3)], [some (.aload_n 0, 1), some (.getfield 12, 3), none, none, some (.iconst 0, 1), some (.bipush 10, 2), none, some (.invokevirtual 96, 3), none, none, some (.return_, 1)]]
def zt_17 : Nat → Option (Instr × Nat) := fun k => zlook 16 ztL_17 k
def zm_17 : zMe := (yX1_begin, cX1_begin, 3, none, 2, 1, 1, fun k => cond (Nat.blt k 27) (zt_17 k) none)
def ztL_169 : List (List (Option (Instr × Nat))) := [[some (.iload_n 1, 1), some (.ifCond .lt 15, 3), none, none, some (.iload_n 1, 1), some (.sipush 4096, 3), none, none, some (.aload_n 0, 1), some (.getfield 26, 3), none, none, some (.isub, 1), some (.if_icmp .le 4, 3)], [some (.return_, 1), some (.iconst 0, 1), some (.istore_n 3, 1), some (.iload_n 3, 1), some (.aload_n 0, 1), some (.getfield 26, 3), none, none, some (.if_icmp .ge 50, 3), none, none, some (.aload_n 0, 1), some (.getfield 29, 3), none, none, some (.iconst 4, 1)], [some (.iand, 1), some (.ifCond .eq 16, 3), none, none, some (.iload_n 1, 1), some (.aload_n 0, 1), some (.getfield 26, 3), none, none, some (.iadd, 1), some (.iconst 1, 1), some (.isub, 1), some (.iload_n 3, 1), some (.isub, 1), some (.goto 6, 3)], [none, some (.iload_n 1, 1), some (.iload_n 3, 1), some (.iadd, 1), some (.istore 4, 2), none, some (.aload_n 0, 1), some (.getfield 9, 3), none, none, some (.iload 4, 2), none, some (.iload_n 2, 1), some (.bipush 8, 2), none, some (.iload_n 3, 1)], [some (.imul, 1), some (.ishr, 1), some (.i2b, 1), some (.bastore, 1), some (.iinc 3 1, 3), none, none, some (.goto (-52), 3), none, none, some (.return_, 1)]]
def zt_169 : Nat → Option (Instr × Nat) := fun k => zlook 16 ztL_169 k
def zm_169 : zMe := (yX7_layCell, cX7_layCell, 5, none, 2, 7, 1, fun k => cond (Nat.blt k 75) (zt_169 k) none)
def ztL_180 : List (List (Option (Instr × Nat))) := [[some (.iload_n 1, 1), some (.tableswitch 185 0 5 #[39, 69, 99, 139, 185, 162], 39)], [], [none, none, none, none, none, none, none, none, some (.iload_n 2, 1), some (.ifCond .lt 11, 3), none, none, some (.iload_n 2, 1), some (.aload_n 0, 1), some (.getfield 45, 3)], [none, some (.if_icmp .lt 7, 3), none, none, some (.iconst 0, 1), some (.goto 16, 3), none, none, some (.aload_n 0, 1), some (.getfield 9, 3), none, none, some (.aload_n 0, 1), some (.getfield 45, 3)], [some (.iconst 1, 1), some (.isub, 1), some (.iload_n 2, 1), some (.isub, 1), some (.iaload, 1), some (.ireturn, 1), some (.iload_n 2, 1), some (.ifCond .lt 11, 3), none, none, some (.iload_n 2, 1), some (.aload_n 0, 1), some (.getfield 48, 3), none, none, some (.if_icmp .lt 7, 3)], [none, none, some (.iconst 0, 1), some (.goto 16, 3), none, none, some (.aload_n 0, 1), some (.getfield 15, 3), none, none, some (.aload_n 0, 1), some (.getfield 48, 3), none, none, some (.iconst 1, 1), some (.isub, 1)], [some (.iload_n 2, 1), some (.isub, 1), some (.iaload, 1), some (.ireturn, 1), some (.iload_n 2, 1), some (.ifCond .lt 13, 3), none, none, some (.iload_n 2, 1), some (.iconst 2, 1), some (.aload_n 0, 1), some (.getfield 51, 3), none, none, some (.imul, 1), some (.if_icmp .lt 7, 3)], [none, none, some (.iconst 0, 1), some (.goto 24, 3), none, none, some (.aload_n 0, 1), some (.getfield 18, 3), none, none, some (.iconst 2, 1), some (.aload_n 0, 1), some (.getfield 51, 3), none, none, some (.iconst 1, 1)], [some (.isub, 1), some (.iload_n 2, 1), some (.iconst 2, 1), some (.idiv, 1), some (.isub, 1), some (.imul, 1), some (.iload_n 2, 1), some (.iconst 2, 1), some (.irem, 1), some (.iadd, 1), some (.iaload, 1), some (.ireturn, 1), some (.iload_n 2, 1), some (.ifCond .lt 11, 3)], [some (.iload_n 2, 1), some (.aload_n 0, 1), some (.getfield 54, 3), none, none, some (.if_icmp .lt 7, 3), none, none, some (.iconst 0, 1), some (.goto 9, 3), none, none, some (.aload_n 0, 1), some (.getfield 21, 3)], [some (.iload_n 2, 1), some (.iaload, 1), some (.ireturn, 1), some (.iload_n 2, 1), some (.ifCond .lt 11, 3), none, none, some (.iload_n 2, 1), some (.aload_n 0, 1), some (.getfield 60, 3), none, none, some (.if_icmp .lt 7, 3), none, none, some (.iconst 0, 1)], [some (.goto 9, 3), none, none, some (.aload_n 0, 1), some (.getfield 27, 3), none, none, some (.iload_n 2, 1), some (.iaload, 1), some (.ireturn, 1), some (.bipush (-2), 2), none, some (.ireturn, 1)]]
def zt_180 : Nat → Option (Instr × Nat) := fun k => zlook 16 ztL_180 k
def zm_180 : zMe := (yX8_cellOf, cX8_cellOf, 3, (some .int), 2, 8, 1, fun k => cond (Nat.blt k 189) (zt_180 k) none)
def ztL_513 : List (List (Option (Instr × Nat))) := [[some (.iconst 0, 1), some (.istore_n 2, 1), some (.aload_n 0, 1), some (.arraylength, 1), some (.istore_n 3, 1), some (.iload_n 2, 1), some (.iload_n 3, 1), some (.if_icmp .ge 13, 3), none, none, some (.aload_n 0, 1), some (.iload_n 2, 1), some (.iload_n 1, 1), some (.bastore, 1), some (.iinc 2 1, 3)], [none, some (.goto (-12), 3), none, none, some (.return_, 1)]]
def zt_513 : Nat → Option (Instr × Nat) := fun k => zlook 16 ztL_513 k
def zm_513 : zMe := (yJ7_fill_031fb, cJ7_fill_031fb, 4, none, 2, 15, 0, fun k => cond (Nat.blt k 21) (zt_513 k) none)
def ztL_501 : List (List (Option (Instr × Nat))) := [[some (.aload_n 0, 1), some (.getfield 9, 3), none, none, some (.arraylength, 1), some (.aload_n 0, 1), some (.invokevirtual 335, 3), none, none, some (.ishr, 1), some (.ireturn, 1)]]
def zt_501 : Nat → Option (Instr × Nat) := fun k => zlook 16 ztL_501 k
def zm_501 : zMe := (yJ0_length_8abf5, cJ0_length_8abf5, 1, (some .int), 0, 16, 1, fun k => cond (Nat.blt k 11) (zt_501 k) none)
def ztL_502 : List (List (Option (Instr × Nat))) := [[some (.aload_n 0, 1), some (.invokevirtual 492, 3), none, none, some (.ifCond .eq 12, 3), none, none, some (.aload_n 0, 1), some (.getfield 9, 3), none, none, some (.iload_n 1, 1), some (.invokestatic 495, 3), none, none, some (.ireturn, 1)], [some (.aload_n 0, 1), some (.getfield 9, 3), none, none, some (.iload_n 1, 1), some (.invokestatic 498, 3), none, none, some (.ireturn, 1)]]
def zt_502 : Nat → Option (Instr × Nat) := fun k => zlook 16 ztL_502 k
def zm_502 : zMe := (yJ0_charAt_5068e, cJ0_charAt_5068e, 2, (some .char), 1, 16, 1, fun k => cond (Nat.blt k 25) (zt_502 k) none)
def ztL_503 : List (List (Option (Instr × Nat))) := [[some (.getstatic 38, 3), none, none, some (.ifCond .eq 10, 3), none, none, some (.aload_n 0, 1), some (.getfield 15, 3), none, none, some (.goto 4, 3), none, none, some (.iconst 1, 1), some (.ireturn, 1)]]
def zt_503 : Nat → Option (Instr × Nat) := fun k => zlook 16 ztL_503 k
def zm_503 : zMe := (yJ0_coder_7d493, cJ0_coder_7d493, 1, (some .byte), 0, 16, 1, fun k => cond (Nat.blt k 15) (zt_503 k) none)
def ztL_504 : List (List (Option (Instr × Nat))) := [[some (.getstatic 38, 3), none, none, some (.ifCond .eq 14, 3), none, none, some (.aload_n 0, 1), some (.getfield 15, 3), none, none, some (.ifCond .ne 7, 3), none, none, some (.iconst 1, 1), some (.goto 4, 3)], [none, some (.iconst 0, 1), some (.ireturn, 1)]]
def zt_504 : Nat → Option (Instr × Nat) := fun k => zlook 16 ztL_504 k
def zm_504 : zMe := (yJ0_isLatin1_aae02, cJ0_isLatin1_aae02, 1, (some .boolean), 0, 16, 1, fun k => cond (Nat.blt k 19) (zt_504 k) none)
def ztL_505 : List (List (Option (Instr × Nat))) := [[some (.iload_n 0, 1), some (.iload_n 1, 1), some (.getstatic 1053, 3), none, none, some (.invokestatic 1059, 3), none, none, some (.pop, 1), some (.return_, 1)]]
def zt_505 : Nat → Option (Instr × Nat) := fun k => zlook 16 ztL_505 k
def zm_505 : zMe := (yJ0_checkIndex_df160, cJ0_checkIndex_df160, 2, none, 2, 16, 0, fun k => cond (Nat.blt k 10) (zt_505 k) none)
def ztL_506 : List (List (Option (Instr × Nat))) := [[some (.iload_n 1, 1), some (.aload_n 0, 1), some (.arraylength, 1), some (.invokestatic 9, 3), none, none, some (.aload_n 0, 1), some (.iload_n 1, 1), some (.baload, 1), some (.sipush 255, 3), none, none, some (.iand, 1), some (.i2c, 1), some (.ireturn, 1)]]
def zt_506 : Nat → Option (Instr × Nat) := fun k => zlook 16 ztL_506 k
def zm_506 : zMe := (yJ1_charAt_3b067, cJ1_charAt_3b067, 2, (some .char), 2, 17, 0, fun k => cond (Nat.blt k 15) (zt_506 k) none)
def ztL_515 : List (List (Option (Instr × Nat))) := [[some (.iload_n 0, 1), some (.ifCond .lt 8, 3), none, none, some (.iload_n 0, 1), some (.iload_n 1, 1), some (.if_icmp .lt 10, 3), none, none, some (.aload_n 2, 1), some (.iload_n 0, 1), some (.iload_n 1, 1), some (.invokestatic 95, 3), none, none, some (.athrow, 1)], [some (.iload_n 0, 1), some (.ireturn, 1)]]
def zt_515 : Nat → Option (Instr × Nat) := fun k => zlook 16 ztL_515 k
def zm_515 : zMe := (yJ3_checkIndex_8e157, cJ3_checkIndex_8e157, 3, (some .int), 3, 19, 0, fun k => cond (Nat.blt k 18) (zt_515 k) none)
def zw_q0 : List Cond := [.selects RX10 yX10_addLine yX10_addLine, .selects RX11 yX11_systemOf yX11_systemOf, .selects RX11 yX11_taskOf yX11_taskOf, .initialized RX11, .initialized RX0, .initialized RX7, .initialized RX8, .initialized RX1, .initialized RX10, .initialized RJ0, .initialized RJ1, .initialized RJ3, .initialized RX2, .initialized RX9, .initialized RJ7, .initialized RX5, .initialized RX4, .initialized RX6, .initialized RX3, .instanceMethod yX11_init, .code yX11_init cX11_init 2 none, .instanceMethod yX0_init, .code yX0_init cX0_init 1 none, .instanceMethod yX7_init, .code yX7_init cX7_init 1 none, .instanceMethod yX8_init, .code yX8_init cX8_init 2 none, .instanceMethod yX1_init, .code yX1_init cX1_init 2 none, .instanceMethod yX10_init, .code yX10_init cX10_init 1 none, .instanceMethod yX10_addLine, .code yX10_addLine cX10_addLine 3 none, .instanceMethod yJ0_length_8abf5, .selects RJ0 yJ0_length_8abf5 yJ0_length_8abf5, .code yJ0_length_8abf5 cJ0_length_8abf5 1 (some .int), .instanceMethod yJ0_coder_7d493, .selects RJ0 yJ0_coder_7d493 yJ0_coder_7d493, .code yJ0_coder_7d493 cJ0_coder_7d493 1 (some .byte), .instanceMethod yJ0_charAt_5068e, .selects RJ0 yJ0_charAt_5068e yJ0_charAt_5068e, .code yJ0_charAt_5068e cJ0_charAt_5068e 2 (some .char), .instanceMethod yJ0_isLatin1_aae02, .selects RJ0 yJ0_isLatin1_aae02 yJ0_isLatin1_aae02, .code yJ0_isLatin1_aae02 cJ0_isLatin1_aae02 1 (some .boolean), .static yJ1_charAt_3b067, .code yJ1_charAt_3b067 cJ1_charAt_3b067 2 (some .char), .static yJ0_checkIndex_df160, .code yJ0_checkIndex_df160 cJ0_checkIndex_df160 2 none, .static yJ3_checkIndex_8e157, .code yJ3_checkIndex_8e157 cJ3_checkIndex_8e157 3 (some .int), .instanceMethod yX2_init, .code yX2_init cX2_init 1 none, .instanceMethod yX9_init, .code yX9_init cX9_init 2 none, .static yJ7_fill_031fb, .code yJ7_fill_031fb cJ7_fill_031fb 4 none, .instanceMethod yX5_init, .code yX5_init cX5_init 2 none, .instanceMethod yX4_init, .code yX4_init cX4_init 1 none, .instanceMethod yX6_init, .code yX6_init cX6_init 1 none, .instanceMethod yX3_init, .code yX3_init cX3_init 4 none, .instanceMethod yX11_type, .selects RX11 yX11_type yX11_type, .code yX11_type cX11_type 5 (some .int), .instanceMethod yX11_wipe, .selects RX11 yX11_wipe yX11_wipe, .code yX11_wipe cX11_wipe 2 (some .int), .instanceMethod yX11_system, .selects RX11 yX11_system yX11_system, .code yX11_system cX11_system 3 (some .int), .instanceMethod yX1_begin, .selects RX1 yX1_begin yX1_begin, .code yX1_begin cX1_begin 3 none, .instanceMethod yX7_layCell, .selects RX7 yX7_layCell yX7_layCell, .code yX7_layCell cX7_layCell 5 none, .instanceMethod yX11_evaluate, .selects RX11 yX11_evaluate yX11_evaluate, .code yX11_evaluate cX11_evaluate 5 (some .int), .instanceMethod yX11_systemOf, .code yX11_systemOf cX11_systemOf 2 (some (.object "ForthHouse$Forth")), .static yX11_stepsGood, .code yX11_stepsGood cX11_stepsGood 1 (some .boolean), .instanceMethod yX11_go, .selects RX11 yX11_go yX11_go, .code yX11_go cX11_go 4 (some .int), .instanceMethod yX11_out, .selects RX11 yX11_out yX11_out, .code yX11_out cX11_out 4 (some .int), .instanceMethod yX11_count, .selects RX11 yX11_count yX11_count, .code yX11_count cX11_count 4 (some .int), .instanceMethod yX11_thrown, .selects RX11 yX11_thrown yX11_thrown, .code yX11_thrown cX11_thrown 4 (some .int), .instanceMethod yX11_depth, .selects RX11 yX11_depth yX11_depth, .code yX11_depth cX11_depth 5 (some .int), .instanceMethod yX11_taskOf, .code yX11_taskOf cX11_taskOf 4 (some (.object "ForthHouse$Task")), .instanceMethod yX11_cell, .selects RX11 yX11_cell yX11_cell, .code yX11_cell cX11_cell 6 (some .int), .instanceMethod yX8_cellOf, .selects RX8 yX8_cellOf yX8_cellOf, .code yX8_cellOf cX8_cellOf 3 (some .int), .instanceMethod yX11_task, .selects RX11 yX11_task yX11_task, .code yX11_task cX11_task 4 (some .int), .instanceMethod yX11_fetch, .selects RX11 yX11_fetch yX11_fetch, .code yX11_fetch cX11_fetch 6 (some .int), .instanceMethod yX11_find, .selects RX11 yX11_find yX11_find, .code yX11_find cX11_find 4 (some .int), .instanceMethod yX11_word, .selects RX11 yX11_word yX11_word, .code yX11_word cX11_word 5 (some .int), .instanceMethod yX11_name, .selects RX11 yX11_name yX11_name, .code yX11_name cX11_name 5 (some .int), .instanceMethod yX11_item, .selects RX11 yX11_item yX11_item, .code yX11_item cX11_item 5 (some .int), .instanceMethod yX11_effect, .selects RX11 yX11_effect yX11_effect, .code yX11_effect cX11_effect 4 (some .int), .instanceMethod yX11_effectOf, .selects RX11 yX11_effectOf yX11_effectOf, .code yX11_effectOf cX11_effectOf 5 (some .int), .instanceMethod yX11_lean, .selects RX11 yX11_lean yX11_lean, .code yX11_lean cX11_lean 4 (some .int), .instanceMethod yX11_chip, .selects RX11 yX11_chip yX11_chip, .code yX11_chip cX11_chip 4 (some .int), .instanceMethod yX11_chipWord, .selects RX11 yX11_chipWord yX11_chipWord, .code yX11_chipWord cX11_chipWord 2 (some .int), .instanceMethod yX0_holds, .selects RX0 yX0_holds yX0_holds, .code yX0_holds cX0_holds 2 (some .boolean), .instanceMethod yX11_chipPut, .selects RX11 yX11_chipPut yX11_chipPut, .code yX11_chipPut cX11_chipPut 2 (some .int), .instanceMethod yX0_receive, .selects RX0 yX0_receive yX0_receive, .code yX0_receive cX0_receive 2 (some .int), .instanceMethod yX11_chipGo, .selects RX11 yX11_chipGo yX11_chipGo, .code yX11_chipGo cX11_chipGo 2 (some .int), .instanceMethod yX0_run, .selects RX0 yX0_run yX0_run, .code yX0_run cX0_run 5 (some .int), .instanceMethod yX11_chipTold, .selects RX11 yX11_chipTold yX11_chipTold, .code yX11_chipTold cX11_chipTold 2 (some .int), .instanceMethod yX0_tell, .selects RX0 yX0_tell yX0_tell, .code yX0_tell cX0_tell 2 (some .int), .instanceMethod yX11_chipCell, .selects RX11 yX11_chipCell yX11_chipCell, .code yX11_chipCell cX11_chipCell 2 (some .int), .instanceMethod yX11_chipByte, .selects RX11 yX11_chipByte yX11_chipByte, .code yX11_chipByte cX11_chipByte 2 (some .int), .instanceMethod yX11_put, .selects RX11 yX11_put yX11_put, .code yX11_put cX11_put 6 (some .int), .instanceMethod yX11_keep, .selects RX11 yX11_keep yX11_keep, .code yX11_keep cX11_keep 4 (some .int), .instanceMethod yX11_again, .selects RX11 yX11_again yX11_again, .code yX11_again cX11_again 3 (some .int), .instanceMethod yX11_same, .selects RX11 yX11_same yX11_same, .code yX11_same cX11_same 5 (some .boolean)]
set_option maxRecDepth 100000 in
theorem zw_q0_ok : ∀ w ∈ zw_q0, w ∈ zW := zw_gen _ [0, 1, 82, 262, 263, 264, 265, 266, 267, 268, 269, 270, 272, 273, 274, 275, 276, 277, 278, 285, 286, 295, 296, 301, 302, 336, 337, 454, 455, 462, 463, 468, 469, 471, 472, 473, 475, 476, 477, 481, 482, 483, 485, 486, 487, 489, 490, 492, 493, 497, 498, 594, 595, 622, 623, 626, 627, 684, 685, 743, 744, 794, 795, 829, 830, 989, 990, 991, 993, 994, 995, 997, 998, 999, 1001, 1002, 1003, 1005, 1006, 1007, 1009, 1010, 1011, 1015, 1016, 1018, 1019, 1867, 1868, 1869, 1871, 1872, 1873, 1879, 1880, 1881, 1887, 1888, 1889, 1891, 1892, 1893, 1896, 1897, 1903, 1904, 1905, 1907, 1908, 1909, 1911, 1912, 1913, 1915, 1916, 1917, 1922, 1923, 1924, 1927, 1928, 1929, 1935, 1936, 1937, 1943, 1944, 1945, 1948, 1949, 1950, 1953, 1954, 1955, 1957, 1958, 1959, 2014, 2015, 2016, 2073, 2074, 2075, 2077, 2078, 2079, 2081, 2082, 2083, 2085, 2086, 2087, 2090, 2091, 2092, 2094, 2095, 2096, 2114, 2115, 2116, 2118, 2119, 2120, 2123, 2124, 2125, 2127, 2128, 2129, 2131, 2132, 2133, 2135, 2136, 2137, 2186, 2187, 2188, 2190, 2191, 2192] rfl (by decide +kernel)
set_option maxRecDepth 100000 in
theorem zm_253_ok : zOK zm_253 := ⟨zw_q0_ok _ (List.mem_of_getElem? (i := 20) rfl), zw_q0_ok _ (List.mem_of_getElem? (i := 3) rfl), ⟨by decide +kernel, by decide +kernel, by decide +kernel⟩, by decide +kernel, Nat.le_of_ble_eq_true rfl, ⟨Nat.le_of_ble_eq_true rfl, rfl⟩, fun h => absurd h (by decide +kernel), fun h => absurd h (by decide +kernel), fun _ => ⟨zw_q0_ok _ (List.mem_of_getElem? (i := 19) rfl), rfl, rfl⟩, zdecF cX11_init zt_253 [42, 183, 0, 1, 42, 17, 4, 0, 188, 8, 181, 0, 9, 42, 6, 189, 0, 13, 181, 0, 15, 42, 5, 189, 0, 13, 181, 0, 19, 42, 5, 188, 4, 181, 0, 22, 42, 187, 0, 26, 89, 183, 0, 28, 181, 0, 29, 3, 60, 27, 6, 162, 0, 22, 42, 180, 0, 15, 27, 187, 0, 13, 89, 183, 0, 33, 83, 132, 1, 1, 167, 255, 235, 3, 60, 27, 5, 162, 0, 22, 42, 180, 0, 19, 27, 187, 0, 13, 89, 183, 0, 33, 83, 132, 1, 1, 167, 255, 235, 177] 100 (by decide +kernel) (Nat.le_of_ble_eq_true rfl) (by decide +kernel)⟩
set_option maxRecDepth 100000 in
theorem zm_254_ok : zOK zm_254 := ⟨zw_q0_ok _ (List.mem_of_getElem? (i := 67) rfl), zw_q0_ok _ (List.mem_of_getElem? (i := 3) rfl), ⟨by decide +kernel, by decide +kernel, by decide +kernel⟩, by decide +kernel, Nat.le_of_ble_eq_true rfl, ⟨Nat.le_of_ble_eq_true rfl, rfl⟩, fun h => absurd h (by decide +kernel), fun _ => ⟨zw_q0_ok _ (List.mem_of_getElem? (i := 65) rfl), zw_q0_ok _ (List.mem_of_getElem? (i := 66) rfl)⟩, fun h => absurd h (by decide +kernel), zdecF cX11_type zt_254 [29, 4, 161, 0, 9, 29, 16, 8, 164, 0, 6, 16, 254, 172, 42, 180, 0, 34, 29, 96, 17, 4, 0, 164, 0, 6, 16, 252, 172, 3, 54, 4, 21, 4, 29, 162, 0, 30, 42, 180, 0, 9, 42, 180, 0, 34, 21, 4, 96, 31, 16, 8, 21, 4, 104, 123, 136, 145, 84, 132, 4, 1, 167, 255, 226, 42, 89, 180, 0, 34, 29, 96, 181, 0, 34, 42, 180, 0, 34, 172] 80 (by decide +kernel) (Nat.le_of_ble_eq_true rfl) (by decide +kernel)⟩
set_option maxRecDepth 100000 in
theorem zm_255_ok : zOK zm_255 := ⟨zw_q0_ok _ (List.mem_of_getElem? (i := 70) rfl), zw_q0_ok _ (List.mem_of_getElem? (i := 3) rfl), ⟨by decide +kernel, by decide +kernel, by decide +kernel⟩, by decide +kernel, Nat.le_of_ble_eq_true rfl, ⟨Nat.le_of_ble_eq_true rfl, rfl⟩, fun h => absurd h (by decide +kernel), fun _ => ⟨zw_q0_ok _ (List.mem_of_getElem? (i := 68) rfl), zw_q0_ok _ (List.mem_of_getElem? (i := 69) rfl)⟩, fun h => absurd h (by decide +kernel), zdecF cX11_wipe zt_255 [42, 180, 0, 34, 60, 42, 3, 181, 0, 34, 27, 172] 12 (by decide +kernel) (Nat.le_of_ble_eq_true rfl) (by decide +kernel)⟩
set_option maxRecDepth 100000 in
theorem zm_256_ok : zOK zm_256 := ⟨zw_q0_ok _ (List.mem_of_getElem? (i := 73) rfl), zw_q0_ok _ (List.mem_of_getElem? (i := 3) rfl), ⟨by decide +kernel, by decide +kernel, by decide +kernel⟩, by decide +kernel, Nat.le_of_ble_eq_true rfl, ⟨Nat.le_of_ble_eq_true rfl, rfl⟩, fun h => absurd h (by decide +kernel), fun _ => ⟨zw_q0_ok _ (List.mem_of_getElem? (i := 71) rfl), zw_q0_ok _ (List.mem_of_getElem? (i := 72) rfl)⟩, fun h => absurd h (by decide +kernel), zdecF cX11_system zt_256 [27, 5, 161, 0, 18, 27, 7, 163, 0, 13, 28, 155, 0, 9, 28, 16, 7, 164, 0, 6, 16, 254, 172, 42, 180, 0, 38, 6, 161, 0, 6, 16, 252, 172, 42, 180, 0, 15, 42, 180, 0, 38, 50, 27, 28, 182, 0, 41, 42, 89, 180, 0, 38, 90, 4, 96, 181, 0, 38, 172] 60 (by decide +kernel) (Nat.le_of_ble_eq_true rfl) (by decide +kernel)⟩
set_option maxRecDepth 100000 in
theorem zm_257_ok : zOK zm_257 := ⟨zw_q0_ok _ (List.mem_of_getElem? (i := 82) rfl), zw_q0_ok _ (List.mem_of_getElem? (i := 3) rfl), ⟨by decide +kernel, by decide +kernel, by decide +kernel⟩, by decide +kernel, Nat.le_of_ble_eq_true rfl, ⟨Nat.le_of_ble_eq_true rfl, rfl⟩, fun h => absurd h (by decide +kernel), fun _ => ⟨zw_q0_ok _ (List.mem_of_getElem? (i := 80) rfl), zw_q0_ok _ (List.mem_of_getElem? (i := 81) rfl)⟩, fun h => absurd h (by decide +kernel), zdecF cX11_evaluate zt_257 [42, 182, 0, 45, 62, 42, 27, 182, 0, 49, 58, 4, 25, 4, 198, 0, 10, 28, 184, 0, 53, 154, 0, 6, 16, 254, 172, 25, 4, 180, 0, 57, 180, 0, 61, 153, 0, 6, 16, 253, 172, 25, 4, 180, 0, 57, 42, 180, 0, 9, 29, 182, 0, 67, 25, 4, 28, 182, 0, 71, 172] 61 (by decide +kernel) (Nat.le_of_ble_eq_true rfl) (by decide +kernel)⟩
set_option maxRecDepth 100000 in
theorem zm_258_ok : zOK zm_258 := ⟨zw_q0_ok _ (List.mem_of_getElem? (i := 89) rfl), zw_q0_ok _ (List.mem_of_getElem? (i := 3) rfl), ⟨by decide +kernel, by decide +kernel, by decide +kernel⟩, by decide +kernel, Nat.le_of_ble_eq_true rfl, ⟨Nat.le_of_ble_eq_true rfl, rfl⟩, fun h => absurd h (by decide +kernel), fun _ => ⟨zw_q0_ok _ (List.mem_of_getElem? (i := 87) rfl), zw_q0_ok _ (List.mem_of_getElem? (i := 88) rfl)⟩, fun h => absurd h (by decide +kernel), zdecF cX11_go zt_258 [42, 27, 182, 0, 49, 78, 45, 198, 0, 10, 28, 184, 0, 53, 154, 0, 6, 16, 254, 172, 45, 180, 0, 57, 180, 0, 61, 153, 0, 11, 45, 28, 182, 0, 71, 167, 0, 5, 16, 253, 172] 41 (by decide +kernel) (Nat.le_of_ble_eq_true rfl) (by decide +kernel)⟩
set_option maxRecDepth 100000 in
theorem zm_259_ok : zOK zm_259 := ⟨zw_q0_ok _ (List.mem_of_getElem? (i := 92) rfl), zw_q0_ok _ (List.mem_of_getElem? (i := 3) rfl), ⟨by decide +kernel, by decide +kernel, by decide +kernel⟩, by decide +kernel, Nat.le_of_ble_eq_true rfl, ⟨Nat.le_of_ble_eq_true rfl, rfl⟩, fun h => absurd h (by decide +kernel), fun _ => ⟨zw_q0_ok _ (List.mem_of_getElem? (i := 90) rfl), zw_q0_ok _ (List.mem_of_getElem? (i := 91) rfl)⟩, fun h => absurd h (by decide +kernel), zdecF cX11_out zt_259 [42, 27, 182, 0, 49, 78, 45, 199, 0, 8, 16, 254, 167, 0, 11, 45, 180, 0, 75, 28, 182, 0, 79, 172] 24 (by decide +kernel) (Nat.le_of_ble_eq_true rfl) (by decide +kernel)⟩
set_option maxRecDepth 100000 in
theorem zm_260_ok : zOK zm_260 := ⟨zw_q0_ok _ (List.mem_of_getElem? (i := 95) rfl), zw_q0_ok _ (List.mem_of_getElem? (i := 3) rfl), ⟨by decide +kernel, by decide +kernel, by decide +kernel⟩, by decide +kernel, Nat.le_of_ble_eq_true rfl, ⟨Nat.le_of_ble_eq_true rfl, rfl⟩, fun h => absurd h (by decide +kernel), fun _ => ⟨zw_q0_ok _ (List.mem_of_getElem? (i := 93) rfl), zw_q0_ok _ (List.mem_of_getElem? (i := 94) rfl)⟩, fun h => absurd h (by decide +kernel), zdecF cX11_count zt_260 [42, 27, 182, 0, 49, 78, 45, 199, 0, 8, 16, 254, 167, 0, 8, 45, 28, 182, 0, 84, 172] 21 (by decide +kernel) (Nat.le_of_ble_eq_true rfl) (by decide +kernel)⟩
set_option maxRecDepth 100000 in
theorem zm_261_ok : zOK zm_261 := ⟨zw_q0_ok _ (List.mem_of_getElem? (i := 98) rfl), zw_q0_ok _ (List.mem_of_getElem? (i := 3) rfl), ⟨by decide +kernel, by decide +kernel, by decide +kernel⟩, by decide +kernel, Nat.le_of_ble_eq_true rfl, ⟨Nat.le_of_ble_eq_true rfl, rfl⟩, fun h => absurd h (by decide +kernel), fun _ => ⟨zw_q0_ok _ (List.mem_of_getElem? (i := 96) rfl), zw_q0_ok _ (List.mem_of_getElem? (i := 97) rfl)⟩, fun h => absurd h (by decide +kernel), zdecF cX11_thrown zt_261 [42, 27, 182, 0, 49, 78, 45, 199, 0, 6, 16, 254, 172, 28, 170, 0, 0, 0, 0, 41, 0, 0, 0, 0, 0, 0, 0, 2, 0, 0, 0, 26, 0, 0, 0, 31, 0, 0, 0, 36, 45, 180, 0, 87, 172, 45, 180, 0, 90, 172, 45, 180, 0, 93, 172, 16, 254, 172] 58 (by decide +kernel) (Nat.le_of_ble_eq_true rfl) (by decide +kernel)⟩
set_option maxRecDepth 100000 in
theorem zm_262_ok : zOK zm_262 := ⟨zw_q0_ok _ (List.mem_of_getElem? (i := 101) rfl), zw_q0_ok _ (List.mem_of_getElem? (i := 3) rfl), ⟨by decide +kernel, by decide +kernel, by decide +kernel⟩, by decide +kernel, Nat.le_of_ble_eq_true rfl, ⟨Nat.le_of_ble_eq_true rfl, rfl⟩, fun h => absurd h (by decide +kernel), fun _ => ⟨zw_q0_ok _ (List.mem_of_getElem? (i := 99) rfl), zw_q0_ok _ (List.mem_of_getElem? (i := 100) rfl)⟩, fun h => absurd h (by decide +kernel), zdecF cX11_depth zt_262 [42, 27, 28, 182, 0, 96, 58, 4, 25, 4, 199, 0, 8, 16, 254, 167, 0, 9, 25, 4, 29, 182, 0, 100, 172] 25 (by decide +kernel) (Nat.le_of_ble_eq_true rfl) (by decide +kernel)⟩
set_option maxRecDepth 100000 in
theorem zm_263_ok : zOK zm_263 := ⟨zw_q0_ok _ (List.mem_of_getElem? (i := 106) rfl), zw_q0_ok _ (List.mem_of_getElem? (i := 3) rfl), ⟨by decide +kernel, by decide +kernel, by decide +kernel⟩, by decide +kernel, Nat.le_of_ble_eq_true rfl, ⟨Nat.le_of_ble_eq_true rfl, rfl⟩, fun h => absurd h (by decide +kernel), fun _ => ⟨zw_q0_ok _ (List.mem_of_getElem? (i := 104) rfl), zw_q0_ok _ (List.mem_of_getElem? (i := 105) rfl)⟩, fun h => absurd h (by decide +kernel), zdecF cX11_cell zt_263 [42, 27, 28, 182, 0, 96, 58, 5, 25, 5, 199, 0, 8, 16, 254, 167, 0, 11, 25, 5, 29, 21, 4, 182, 0, 105, 172] 27 (by decide +kernel) (Nat.le_of_ble_eq_true rfl) (by decide +kernel)⟩
set_option maxRecDepth 100000 in
theorem zm_264_ok : zOK zm_264 := ⟨zw_q0_ok _ (List.mem_of_getElem? (i := 112) rfl), zw_q0_ok _ (List.mem_of_getElem? (i := 3) rfl), ⟨by decide +kernel, by decide +kernel, by decide +kernel⟩, by decide +kernel, Nat.le_of_ble_eq_true rfl, ⟨Nat.le_of_ble_eq_true rfl, rfl⟩, fun h => absurd h (by decide +kernel), fun _ => ⟨zw_q0_ok _ (List.mem_of_getElem? (i := 110) rfl), zw_q0_ok _ (List.mem_of_getElem? (i := 111) rfl)⟩, fun h => absurd h (by decide +kernel), zdecF cX11_task zt_264 [42, 27, 28, 182, 0, 96, 78, 45, 199, 0, 6, 16, 254, 172, 45, 180, 0, 109, 6, 160, 0, 15, 6, 16, 16, 45, 180, 0, 112, 104, 100, 167, 0, 7, 45, 180, 0, 109, 172] 39 (by decide +kernel) (Nat.le_of_ble_eq_true rfl) (by decide +kernel)⟩
set_option maxRecDepth 100000 in
theorem zm_265_ok : zOK zm_265 := ⟨zw_q0_ok _ (List.mem_of_getElem? (i := 115) rfl), zw_q0_ok _ (List.mem_of_getElem? (i := 3) rfl), ⟨by decide +kernel, by decide +kernel, by decide +kernel⟩, by decide +kernel, Nat.le_of_ble_eq_true rfl, ⟨Nat.le_of_ble_eq_true rfl, rfl⟩, fun h => absurd h (by decide +kernel), fun _ => ⟨zw_q0_ok _ (List.mem_of_getElem? (i := 113) rfl), zw_q0_ok _ (List.mem_of_getElem? (i := 114) rfl)⟩, fun h => absurd h (by decide +kernel), zdecF cX11_fetch zt_265 [42, 27, 182, 0, 49, 58, 4, 25, 4, 198, 0, 12, 29, 155, 0, 8, 29, 4, 164, 0, 6, 16, 254, 172, 29, 4, 160, 0, 7, 4, 167, 0, 11, 25, 4, 180, 0, 115, 180, 0, 119, 54, 5, 25, 4, 180, 0, 115, 28, 133, 21, 5, 133, 182, 0, 124, 154, 0, 6, 16, 254, 172, 29, 4, 160, 0, 15, 25, 4, 180, 0, 115, 28, 182, 0, 128, 167, 0, 12, 25, 4, 180, 0, 115, 28, 182, 0, 131, 172] 89 (by decide +kernel) (Nat.le_of_ble_eq_true rfl) (by decide +kernel)⟩
set_option maxRecDepth 100000 in
theorem zm_266_ok : zOK zm_266 := ⟨zw_q0_ok _ (List.mem_of_getElem? (i := 118) rfl), zw_q0_ok _ (List.mem_of_getElem? (i := 3) rfl), ⟨by decide +kernel, by decide +kernel, by decide +kernel⟩, by decide +kernel, Nat.le_of_ble_eq_true rfl, ⟨Nat.le_of_ble_eq_true rfl, rfl⟩, fun h => absurd h (by decide +kernel), fun _ => ⟨zw_q0_ok _ (List.mem_of_getElem? (i := 116) rfl), zw_q0_ok _ (List.mem_of_getElem? (i := 117) rfl)⟩, fun h => absurd h (by decide +kernel), zdecF cX11_find zt_266 [42, 182, 0, 45, 61, 42, 27, 182, 0, 49, 78, 45, 199, 0, 8, 16, 254, 167, 0, 12, 45, 42, 180, 0, 9, 28, 182, 0, 134, 172] 30 (by decide +kernel) (Nat.le_of_ble_eq_true rfl) (by decide +kernel)⟩
set_option maxRecDepth 100000 in
theorem zm_267_ok : zOK zm_267 := ⟨zw_q0_ok _ (List.mem_of_getElem? (i := 121) rfl), zw_q0_ok _ (List.mem_of_getElem? (i := 3) rfl), ⟨by decide +kernel, by decide +kernel, by decide +kernel⟩, by decide +kernel, Nat.le_of_ble_eq_true rfl, ⟨Nat.le_of_ble_eq_true rfl, rfl⟩, fun h => absurd h (by decide +kernel), fun _ => ⟨zw_q0_ok _ (List.mem_of_getElem? (i := 119) rfl), zw_q0_ok _ (List.mem_of_getElem? (i := 120) rfl)⟩, fun h => absurd h (by decide +kernel), zdecF cX11_word zt_267 [42, 27, 182, 0, 49, 58, 4, 25, 4, 199, 0, 8, 16, 254, 167, 0, 13, 25, 4, 180, 0, 138, 28, 29, 182, 0, 142, 172] 28 (by decide +kernel) (Nat.le_of_ble_eq_true rfl) (by decide +kernel)⟩
set_option maxRecDepth 100000 in
theorem zm_268_ok : zOK zm_268 := ⟨zw_q0_ok _ (List.mem_of_getElem? (i := 124) rfl), zw_q0_ok _ (List.mem_of_getElem? (i := 3) rfl), ⟨by decide +kernel, by decide +kernel, by decide +kernel⟩, by decide +kernel, Nat.le_of_ble_eq_true rfl, ⟨Nat.le_of_ble_eq_true rfl, rfl⟩, fun h => absurd h (by decide +kernel), fun _ => ⟨zw_q0_ok _ (List.mem_of_getElem? (i := 122) rfl), zw_q0_ok _ (List.mem_of_getElem? (i := 123) rfl)⟩, fun h => absurd h (by decide +kernel), zdecF cX11_name zt_268 [42, 27, 182, 0, 49, 58, 4, 25, 4, 199, 0, 8, 16, 254, 167, 0, 13, 25, 4, 180, 0, 138, 28, 29, 182, 0, 147, 172] 28 (by decide +kernel) (Nat.le_of_ble_eq_true rfl) (by decide +kernel)⟩
set_option maxRecDepth 100000 in
theorem zm_269_ok : zOK zm_269 := ⟨zw_q0_ok _ (List.mem_of_getElem? (i := 127) rfl), zw_q0_ok _ (List.mem_of_getElem? (i := 3) rfl), ⟨by decide +kernel, by decide +kernel, by decide +kernel⟩, by decide +kernel, Nat.le_of_ble_eq_true rfl, ⟨Nat.le_of_ble_eq_true rfl, rfl⟩, fun h => absurd h (by decide +kernel), fun _ => ⟨zw_q0_ok _ (List.mem_of_getElem? (i := 125) rfl), zw_q0_ok _ (List.mem_of_getElem? (i := 126) rfl)⟩, fun h => absurd h (by decide +kernel), zdecF cX11_item zt_269 [42, 27, 182, 0, 49, 58, 4, 25, 4, 198, 0, 24, 29, 155, 0, 20, 29, 4, 163, 0, 15, 25, 4, 180, 0, 150, 28, 182, 0, 154, 154, 0, 6, 16, 254, 172, 29, 154, 0, 16, 25, 4, 180, 0, 150, 180, 0, 158, 28, 51, 167, 0, 13, 25, 4, 180, 0, 150, 180, 0, 161, 28, 46, 172] 64 (by decide +kernel) (Nat.le_of_ble_eq_true rfl) (by decide +kernel)⟩
set_option maxRecDepth 100000 in
theorem zm_270_ok : zOK zm_270 := ⟨zw_q0_ok _ (List.mem_of_getElem? (i := 130) rfl), zw_q0_ok _ (List.mem_of_getElem? (i := 3) rfl), ⟨by decide +kernel, by decide +kernel, by decide +kernel⟩, by decide +kernel, Nat.le_of_ble_eq_true rfl, ⟨Nat.le_of_ble_eq_true rfl, rfl⟩, fun h => absurd h (by decide +kernel), fun _ => ⟨zw_q0_ok _ (List.mem_of_getElem? (i := 128) rfl), zw_q0_ok _ (List.mem_of_getElem? (i := 129) rfl)⟩, fun h => absurd h (by decide +kernel), zdecF cX11_effect zt_270 [42, 27, 182, 0, 49, 78, 45, 198, 0, 14, 45, 180, 0, 138, 28, 182, 0, 165, 154, 0, 6, 16, 254, 172, 45, 180, 0, 138, 180, 0, 168, 28, 51, 172] 34 (by decide +kernel) (Nat.le_of_ble_eq_true rfl) (by decide +kernel)⟩
set_option maxRecDepth 100000 in
theorem zm_271_ok : zOK zm_271 := ⟨zw_q0_ok _ (List.mem_of_getElem? (i := 133) rfl), zw_q0_ok _ (List.mem_of_getElem? (i := 3) rfl), ⟨by decide +kernel, by decide +kernel, by decide +kernel⟩, by decide +kernel, Nat.le_of_ble_eq_true rfl, ⟨Nat.le_of_ble_eq_true rfl, rfl⟩, fun h => absurd h (by decide +kernel), fun _ => ⟨zw_q0_ok _ (List.mem_of_getElem? (i := 131) rfl), zw_q0_ok _ (List.mem_of_getElem? (i := 132) rfl)⟩, fun h => absurd h (by decide +kernel), zdecF cX11_effectOf zt_271 [42, 27, 182, 0, 49, 58, 4, 25, 4, 198, 0, 15, 25, 4, 180, 0, 138, 28, 182, 0, 165, 154, 0, 6, 16, 254, 172, 29, 170, 0, 0, 0, 0, 0, 0, 61, 0, 0, 0, 0, 0, 0, 0, 2, 0, 0, 0, 28, 0, 0, 0, 39, 0, 0, 0, 50, 25, 4, 180, 0, 138, 180, 0, 171, 28, 46, 172, 25, 4, 180, 0, 138, 180, 0, 174, 28, 46, 172, 25, 4, 180, 0, 138, 180, 0, 177, 28, 46, 172, 16, 254, 172] 92 (by decide +kernel) (Nat.le_of_ble_eq_true rfl) (by decide +kernel)⟩
set_option maxRecDepth 100000 in
theorem zm_272_ok : zOK zm_272 := ⟨zw_q0_ok _ (List.mem_of_getElem? (i := 136) rfl), zw_q0_ok _ (List.mem_of_getElem? (i := 3) rfl), ⟨by decide +kernel, by decide +kernel, by decide +kernel⟩, by decide +kernel, Nat.le_of_ble_eq_true rfl, ⟨Nat.le_of_ble_eq_true rfl, rfl⟩, fun h => absurd h (by decide +kernel), fun _ => ⟨zw_q0_ok _ (List.mem_of_getElem? (i := 134) rfl), zw_q0_ok _ (List.mem_of_getElem? (i := 135) rfl)⟩, fun h => absurd h (by decide +kernel), zdecF cX11_lean zt_272 [42, 27, 182, 0, 49, 78, 45, 198, 0, 14, 45, 180, 0, 138, 28, 182, 0, 165, 154, 0, 6, 16, 254, 172, 45, 180, 0, 180, 28, 182, 0, 184, 154, 0, 6, 16, 254, 172, 45, 182, 0, 189, 154, 0, 6, 16, 253, 172, 45, 180, 0, 180, 28, 182, 0, 193, 172] 57 (by decide +kernel) (Nat.le_of_ble_eq_true rfl) (by decide +kernel)⟩
set_option maxRecDepth 100000 in
theorem zm_273_ok : zOK zm_273 := ⟨zw_q0_ok _ (List.mem_of_getElem? (i := 139) rfl), zw_q0_ok _ (List.mem_of_getElem? (i := 3) rfl), ⟨by decide +kernel, by decide +kernel, by decide +kernel⟩, by decide +kernel, Nat.le_of_ble_eq_true rfl, ⟨Nat.le_of_ble_eq_true rfl, rfl⟩, fun h => absurd h (by decide +kernel), fun _ => ⟨zw_q0_ok _ (List.mem_of_getElem? (i := 137) rfl), zw_q0_ok _ (List.mem_of_getElem? (i := 138) rfl)⟩, fun h => absurd h (by decide +kernel), zdecF cX11_chip zt_273 [42, 27, 182, 0, 49, 78, 45, 198, 0, 14, 45, 180, 0, 138, 28, 182, 0, 165, 154, 0, 6, 16, 254, 172, 42, 180, 0, 29, 45, 28, 182, 0, 196, 172] 34 (by decide +kernel) (Nat.le_of_ble_eq_true rfl) (by decide +kernel)⟩
set_option maxRecDepth 100000 in
theorem zm_274_ok : zOK zm_274 := ⟨zw_q0_ok _ (List.mem_of_getElem? (i := 142) rfl), zw_q0_ok _ (List.mem_of_getElem? (i := 3) rfl), ⟨by decide +kernel, by decide +kernel, by decide +kernel⟩, by decide +kernel, Nat.le_of_ble_eq_true rfl, ⟨Nat.le_of_ble_eq_true rfl, rfl⟩, fun h => absurd h (by decide +kernel), fun _ => ⟨zw_q0_ok _ (List.mem_of_getElem? (i := 140) rfl), zw_q0_ok _ (List.mem_of_getElem? (i := 141) rfl)⟩, fun h => absurd h (by decide +kernel), zdecF cX11_chipWord zt_274 [42, 180, 0, 29, 27, 182, 0, 200, 153, 0, 15, 42, 180, 0, 29, 180, 0, 201, 27, 46, 167, 0, 4, 2, 172] 25 (by decide +kernel) (Nat.le_of_ble_eq_true rfl) (by decide +kernel)⟩
set_option maxRecDepth 100000 in
theorem zm_275_ok : zOK zm_275 := ⟨zw_q0_ok _ (List.mem_of_getElem? (i := 148) rfl), zw_q0_ok _ (List.mem_of_getElem? (i := 3) rfl), ⟨by decide +kernel, by decide +kernel, by decide +kernel⟩, by decide +kernel, Nat.le_of_ble_eq_true rfl, ⟨Nat.le_of_ble_eq_true rfl, rfl⟩, fun h => absurd h (by decide +kernel), fun _ => ⟨zw_q0_ok _ (List.mem_of_getElem? (i := 146) rfl), zw_q0_ok _ (List.mem_of_getElem? (i := 147) rfl)⟩, fun h => absurd h (by decide +kernel), zdecF cX11_chipPut zt_275 [42, 180, 0, 29, 27, 182, 0, 203, 172] 9 (by decide +kernel) (Nat.le_of_ble_eq_true rfl) (by decide +kernel)⟩
set_option maxRecDepth 100000 in
theorem zm_276_ok : zOK zm_276 := ⟨zw_q0_ok _ (List.mem_of_getElem? (i := 154) rfl), zw_q0_ok _ (List.mem_of_getElem? (i := 3) rfl), ⟨by decide +kernel, by decide +kernel, by decide +kernel⟩, by decide +kernel, Nat.le_of_ble_eq_true rfl, ⟨Nat.le_of_ble_eq_true rfl, rfl⟩, fun h => absurd h (by decide +kernel), fun _ => ⟨zw_q0_ok _ (List.mem_of_getElem? (i := 152) rfl), zw_q0_ok _ (List.mem_of_getElem? (i := 153) rfl)⟩, fun h => absurd h (by decide +kernel), zdecF cX11_chipGo zt_276 [27, 184, 0, 53, 153, 0, 14, 42, 180, 0, 29, 27, 182, 0, 206, 167, 0, 5, 16, 254, 172] 21 (by decide +kernel) (Nat.le_of_ble_eq_true rfl) (by decide +kernel)⟩
set_option maxRecDepth 100000 in
theorem zm_277_ok : zOK zm_277 := ⟨zw_q0_ok _ (List.mem_of_getElem? (i := 160) rfl), zw_q0_ok _ (List.mem_of_getElem? (i := 3) rfl), ⟨by decide +kernel, by decide +kernel, by decide +kernel⟩, by decide +kernel, Nat.le_of_ble_eq_true rfl, ⟨Nat.le_of_ble_eq_true rfl, rfl⟩, fun h => absurd h (by decide +kernel), fun _ => ⟨zw_q0_ok _ (List.mem_of_getElem? (i := 158) rfl), zw_q0_ok _ (List.mem_of_getElem? (i := 159) rfl)⟩, fun h => absurd h (by decide +kernel), zdecF cX11_chipTold zt_277 [42, 180, 0, 29, 27, 182, 0, 207, 172] 9 (by decide +kernel) (Nat.le_of_ble_eq_true rfl) (by decide +kernel)⟩
set_option maxRecDepth 100000 in
theorem zm_278_ok : zOK zm_278 := ⟨zw_q0_ok _ (List.mem_of_getElem? (i := 166) rfl), zw_q0_ok _ (List.mem_of_getElem? (i := 3) rfl), ⟨by decide +kernel, by decide +kernel, by decide +kernel⟩, by decide +kernel, Nat.le_of_ble_eq_true rfl, ⟨Nat.le_of_ble_eq_true rfl, rfl⟩, fun h => absurd h (by decide +kernel), fun _ => ⟨zw_q0_ok _ (List.mem_of_getElem? (i := 164) rfl), zw_q0_ok _ (List.mem_of_getElem? (i := 165) rfl)⟩, fun h => absurd h (by decide +kernel), zdecF cX11_chipCell zt_278 [42, 180, 0, 29, 180, 0, 209, 3, 27, 182, 0, 105, 172] 13 (by decide +kernel) (Nat.le_of_ble_eq_true rfl) (by decide +kernel)⟩
set_option maxRecDepth 100000 in
theorem zm_279_ok : zOK zm_279 := ⟨zw_q0_ok _ (List.mem_of_getElem? (i := 169) rfl), zw_q0_ok _ (List.mem_of_getElem? (i := 3) rfl), ⟨by decide +kernel, by decide +kernel, by decide +kernel⟩, by decide +kernel, Nat.le_of_ble_eq_true rfl, ⟨Nat.le_of_ble_eq_true rfl, rfl⟩, fun h => absurd h (by decide +kernel), fun _ => ⟨zw_q0_ok _ (List.mem_of_getElem? (i := 167) rfl), zw_q0_ok _ (List.mem_of_getElem? (i := 168) rfl)⟩, fun h => absurd h (by decide +kernel), zdecF cX11_chipByte zt_279 [42, 180, 0, 29, 180, 0, 213, 153, 0, 19, 42, 180, 0, 29, 180, 0, 214, 27, 133, 10, 182, 0, 124, 154, 0, 5, 2, 172, 42, 180, 0, 29, 180, 0, 214, 27, 182, 0, 128, 172] 40 (by decide +kernel) (Nat.le_of_ble_eq_true rfl) (by decide +kernel)⟩
set_option maxRecDepth 100000 in
theorem zm_280_ok : zOK zm_280 := ⟨zw_q0_ok _ (List.mem_of_getElem? (i := 172) rfl), zw_q0_ok _ (List.mem_of_getElem? (i := 3) rfl), ⟨by decide +kernel, by decide +kernel, by decide +kernel⟩, by decide +kernel, Nat.le_of_ble_eq_true rfl, ⟨Nat.le_of_ble_eq_true rfl, rfl⟩, fun h => absurd h (by decide +kernel), fun _ => ⟨zw_q0_ok _ (List.mem_of_getElem? (i := 170) rfl), zw_q0_ok _ (List.mem_of_getElem? (i := 171) rfl)⟩, fun h => absurd h (by decide +kernel), zdecF cX11_put zt_280 [42, 182, 0, 45, 54, 4, 42, 27, 182, 0, 49, 58, 5, 25, 5, 198, 0, 13, 28, 155, 0, 9, 28, 16, 8, 161, 0, 6, 16, 254, 172, 29, 155, 0, 13, 29, 17, 2, 0, 21, 4, 100, 164, 0, 6, 16, 254, 172, 42, 180, 0, 9, 3, 25, 5, 180, 0, 57, 180, 0, 215, 28, 17, 2, 0, 104, 29, 96, 21, 4, 184, 0, 218, 21, 4, 172] 76 (by decide +kernel) (Nat.le_of_ble_eq_true rfl) (by decide +kernel)⟩
set_option maxRecDepth 100000 in
theorem zm_281_ok : zOK zm_281 := ⟨zw_q0_ok _ (List.mem_of_getElem? (i := 175) rfl), zw_q0_ok _ (List.mem_of_getElem? (i := 3) rfl), ⟨by decide +kernel, by decide +kernel, by decide +kernel⟩, by decide +kernel, Nat.le_of_ble_eq_true rfl, ⟨Nat.le_of_ble_eq_true rfl, rfl⟩, fun h => absurd h (by decide +kernel), fun _ => ⟨zw_q0_ok _ (List.mem_of_getElem? (i := 173) rfl), zw_q0_ok _ (List.mem_of_getElem? (i := 174) rfl)⟩, fun h => absurd h (by decide +kernel), zdecF cX11_keep zt_281 [42, 27, 182, 0, 49, 78, 45, 198, 0, 12, 28, 155, 0, 8, 28, 5, 161, 0, 6, 16, 254, 172, 42, 180, 0, 19, 28, 50, 45, 182, 0, 224, 42, 180, 0, 22, 28, 4, 84, 4, 172] 41 (by decide +kernel) (Nat.le_of_ble_eq_true rfl) (by decide +kernel)⟩
set_option maxRecDepth 100000 in
theorem zm_282_ok : zOK zm_282 := ⟨zw_q0_ok _ (List.mem_of_getElem? (i := 178) rfl), zw_q0_ok _ (List.mem_of_getElem? (i := 3) rfl), ⟨by decide +kernel, by decide +kernel, by decide +kernel⟩, by decide +kernel, Nat.le_of_ble_eq_true rfl, ⟨Nat.le_of_ble_eq_true rfl, rfl⟩, fun h => absurd h (by decide +kernel), fun _ => ⟨zw_q0_ok _ (List.mem_of_getElem? (i := 176) rfl), zw_q0_ok _ (List.mem_of_getElem? (i := 177) rfl)⟩, fun h => absurd h (by decide +kernel), zdecF cX11_again zt_282 [27, 155, 0, 20, 27, 42, 180, 0, 38, 163, 0, 12, 28, 155, 0, 8, 28, 5, 161, 0, 6, 16, 254, 172, 42, 180, 0, 22, 28, 51, 154, 0, 5, 2, 172, 27, 6, 161, 0, 6, 16, 252, 172, 27, 42, 180, 0, 38, 160, 0, 13, 42, 89, 180, 0, 38, 4, 96, 181, 0, 38, 42, 180, 0, 15, 27, 50, 42, 180, 0, 19, 28, 50, 182, 0, 224, 27, 172] 78 (by decide +kernel) (Nat.le_of_ble_eq_true rfl) (by decide +kernel)⟩
set_option maxRecDepth 100000 in
theorem zm_283_ok : zOK zm_283 := ⟨zw_q0_ok _ (List.mem_of_getElem? (i := 181) rfl), zw_q0_ok _ (List.mem_of_getElem? (i := 3) rfl), ⟨by decide +kernel, by decide +kernel, by decide +kernel⟩, by decide +kernel, Nat.le_of_ble_eq_true rfl, ⟨Nat.le_of_ble_eq_true rfl, rfl⟩, fun h => absurd h (by decide +kernel), fun _ => ⟨zw_q0_ok _ (List.mem_of_getElem? (i := 179) rfl), zw_q0_ok _ (List.mem_of_getElem? (i := 180) rfl)⟩, fun h => absurd h (by decide +kernel), zdecF cX11_same zt_283 [42, 27, 182, 0, 49, 78, 42, 28, 182, 0, 49, 58, 4, 45, 198, 0, 21, 25, 4, 198, 0, 16, 45, 25, 4, 182, 0, 228, 153, 0, 7, 4, 167, 0, 4, 3, 172] 37 (by decide +kernel) (Nat.le_of_ble_eq_true rfl) (by decide +kernel)⟩
set_option maxRecDepth 100000 in
theorem zm_284_ok : zOK zm_284 := ⟨zw_q0_ok _ (List.mem_of_getElem? (i := 84) rfl), zw_q0_ok _ (List.mem_of_getElem? (i := 3) rfl), ⟨by decide +kernel, by decide +kernel, by decide +kernel⟩, by decide +kernel, Nat.le_of_ble_eq_true rfl, ⟨Nat.le_of_ble_eq_true rfl, rfl⟩, fun h => absurd h (by decide +kernel), fun _ => ⟨zw_q0_ok _ (List.mem_of_getElem? (i := 83) rfl), zw_q0_ok _ (List.mem_of_getElem? (i := 1) rfl)⟩, fun h => absurd h (by decide +kernel), zdecF cX11_systemOf zt_284 [27, 155, 0, 11, 27, 42, 180, 0, 38, 161, 0, 7, 1, 167, 0, 9, 42, 180, 0, 15, 27, 50, 176] 23 (by decide +kernel) (Nat.le_of_ble_eq_true rfl) (by decide +kernel)⟩
set_option maxRecDepth 100000 in
theorem zm_285_ok : zOK zm_285 := ⟨zw_q0_ok _ (List.mem_of_getElem? (i := 103) rfl), zw_q0_ok _ (List.mem_of_getElem? (i := 3) rfl), ⟨by decide +kernel, by decide +kernel, by decide +kernel⟩, by decide +kernel, Nat.le_of_ble_eq_true rfl, ⟨Nat.le_of_ble_eq_true rfl, rfl⟩, fun h => absurd h (by decide +kernel), fun _ => ⟨zw_q0_ok _ (List.mem_of_getElem? (i := 102) rfl), zw_q0_ok _ (List.mem_of_getElem? (i := 2) rfl)⟩, fun h => absurd h (by decide +kernel), zdecF cX11_taskOf zt_285 [42, 27, 182, 0, 49, 78, 45, 198, 0, 12, 28, 155, 0, 8, 28, 7, 161, 0, 7, 1, 167, 0, 9, 45, 180, 0, 232, 28, 50, 176] 30 (by decide +kernel) (Nat.le_of_ble_eq_true rfl) (by decide +kernel)⟩
set_option maxRecDepth 100000 in
theorem zm_286_ok : zOK zm_286 := ⟨zw_q0_ok _ (List.mem_of_getElem? (i := 86) rfl), zw_q0_ok _ (List.mem_of_getElem? (i := 3) rfl), ⟨by decide +kernel, by decide +kernel, by decide +kernel⟩, by decide +kernel, Nat.le_of_ble_eq_true rfl, ⟨Nat.le_of_ble_eq_true rfl, rfl⟩, fun _ => zw_q0_ok _ (List.mem_of_getElem? (i := 85) rfl), fun h => absurd h (by decide +kernel), fun h => absurd h (by decide +kernel), zdecF cX11_stepsGood zt_286 [26, 4, 161, 0, 14, 26, 17, 78, 32, 163, 0, 7, 4, 167, 0, 4, 3, 172] 18 (by decide +kernel) (Nat.le_of_ble_eq_true rfl) (by decide +kernel)⟩
set_option maxRecDepth 100000 in
theorem zm_0_ok : zOK zm_0 := ⟨zw_q0_ok _ (List.mem_of_getElem? (i := 22) rfl), zw_q0_ok _ (List.mem_of_getElem? (i := 4) rfl), ⟨by decide +kernel, by decide +kernel, by decide +kernel⟩, by decide +kernel, Nat.le_of_ble_eq_true rfl, ⟨Nat.le_of_ble_eq_true rfl, rfl⟩, fun h => absurd h (by decide +kernel), fun h => absurd h (by decide +kernel), fun _ => ⟨zw_q0_ok _ (List.mem_of_getElem? (i := 21) rfl), rfl, rfl⟩, zdecF cX0_init zt_0 [42, 183, 0, 3, 42, 17, 7, 208, 188, 10, 181, 0, 9, 42, 187, 0, 15, 89, 183, 0, 17, 181, 0, 18, 42, 187, 0, 22, 89, 42, 180, 0, 18, 183, 0, 24, 181, 0, 27, 42, 17, 15, 160, 188, 10, 181, 0, 31, 42, 17, 1, 104, 188, 10, 181, 0, 34, 42, 17, 1, 104, 188, 10, 181, 0, 37, 177] 67 (by decide +kernel) (Nat.le_of_ble_eq_true rfl) (by decide +kernel)⟩
set_option maxRecDepth 100000 in
theorem zm_1_ok : zOK zm_1 := ⟨zw_q0_ok _ (List.mem_of_getElem? (i := 145) rfl), zw_q0_ok _ (List.mem_of_getElem? (i := 4) rfl), ⟨by decide +kernel, by decide +kernel, by decide +kernel⟩, by decide +kernel, Nat.le_of_ble_eq_true rfl, ⟨Nat.le_of_ble_eq_true rfl, rfl⟩, fun h => absurd h (by decide +kernel), fun _ => ⟨zw_q0_ok _ (List.mem_of_getElem? (i := 143) rfl), zw_q0_ok _ (List.mem_of_getElem? (i := 144) rfl)⟩, fun h => absurd h (by decide +kernel), zdecF cX0_holds zt_1 [27, 155, 0, 15, 27, 42, 180, 0, 40, 162, 0, 7, 4, 167, 0, 4, 3, 172] 18 (by decide +kernel) (Nat.le_of_ble_eq_true rfl) (by decide +kernel)⟩
set_option maxRecDepth 100000 in
theorem zm_11_ok : zOK zm_11 := ⟨zw_q0_ok _ (List.mem_of_getElem? (i := 151) rfl), zw_q0_ok _ (List.mem_of_getElem? (i := 4) rfl), ⟨by decide +kernel, by decide +kernel, by decide +kernel⟩, by decide +kernel, Nat.le_of_ble_eq_true rfl, ⟨Nat.le_of_ble_eq_true rfl, rfl⟩, fun h => absurd h (by decide +kernel), fun _ => ⟨zw_q0_ok _ (List.mem_of_getElem? (i := 149) rfl), zw_q0_ok _ (List.mem_of_getElem? (i := 150) rfl)⟩, fun h => absurd h (by decide +kernel), zdecF cX0_receive zt_11 [42, 180, 0, 47, 4, 159, 0, 6, 16, 253, 172, 42, 180, 0, 27, 180, 0, 146, 16, 64, 161, 0, 6, 16, 252, 172, 42, 180, 0, 27, 27, 133, 182, 0, 149, 87, 42, 180, 0, 27, 180, 0, 146, 172] 44 (by decide +kernel) (Nat.le_of_ble_eq_true rfl) (by decide +kernel)⟩
set_option maxRecDepth 100000 in
theorem zm_12_ok : zOK zm_12 := ⟨zw_q0_ok _ (List.mem_of_getElem? (i := 157) rfl), zw_q0_ok _ (List.mem_of_getElem? (i := 4) rfl), ⟨by decide +kernel, by decide +kernel, by decide +kernel⟩, by decide +kernel, Nat.le_of_ble_eq_true rfl, ⟨Nat.le_of_ble_eq_true rfl, rfl⟩, fun h => absurd h (by decide +kernel), fun _ => ⟨zw_q0_ok _ (List.mem_of_getElem? (i := 155) rfl), zw_q0_ok _ (List.mem_of_getElem? (i := 156) rfl)⟩, fun h => absurd h (by decide +kernel), zdecF cX0_run zt_12 [42, 180, 0, 47, 154, 0, 6, 16, 253, 172, 3, 61, 28, 27, 162, 0, 74, 42, 180, 0, 47, 4, 160, 0, 66, 42, 180, 0, 27, 180, 0, 73, 62, 42, 89, 180, 0, 53, 4, 96, 181, 0, 53, 42, 29, 182, 0, 153, 54, 4, 21, 4, 153, 0, 14, 42, 21, 4, 181, 0, 50, 42, 6, 181, 0, 47, 42, 180, 0, 47, 4, 159, 0, 11, 42, 180, 0, 27, 29, 181, 0, 73, 132, 2, 1, 167, 255, 183, 42, 180, 0, 47, 4, 160, 0, 7, 4, 167, 0, 17, 42, 180, 0, 47, 5, 160, 0, 7, 3, 167, 0, 5, 16, 254, 172] 115 (by decide +kernel) (Nat.le_of_ble_eq_true rfl) (by decide +kernel)⟩
set_option maxRecDepth 100000 in
theorem zm_15_ok : zOK zm_15 := ⟨zw_q0_ok _ (List.mem_of_getElem? (i := 163) rfl), zw_q0_ok _ (List.mem_of_getElem? (i := 4) rfl), ⟨by decide +kernel, by decide +kernel, by decide +kernel⟩, by decide +kernel, Nat.le_of_ble_eq_true rfl, ⟨Nat.le_of_ble_eq_true rfl, rfl⟩, fun h => absurd h (by decide +kernel), fun _ => ⟨zw_q0_ok _ (List.mem_of_getElem? (i := 161) rfl), zw_q0_ok _ (List.mem_of_getElem? (i := 162) rfl)⟩, fun h => absurd h (by decide +kernel), zdecF cX0_tell zt_15 [27, 155, 0, 9, 27, 16, 7, 164, 0, 6, 16, 254, 172, 42, 180, 0, 47, 154, 0, 5, 3, 172, 27, 170, 0, 0, 0, 76, 0, 0, 0, 0, 0, 0, 0, 7, 0, 0, 0, 45, 0, 0, 0, 76, 0, 0, 0, 76, 0, 0, 0, 76, 0, 0, 0, 53, 0, 0, 0, 58, 0, 0, 0, 63, 0, 0, 0, 68, 42, 180, 0, 27, 180, 0, 73, 172, 42, 180, 0, 50, 172, 42, 180, 0, 53, 172, 42, 180, 0, 40, 172, 42, 180, 0, 27, 180, 0, 177, 172, 42, 180, 0, 27, 27, 4, 100, 182, 0, 196, 172] 110 (by decide +kernel) (Nat.le_of_ble_eq_true rfl) (by decide +kernel)⟩
set_option maxRecDepth 100000 in
theorem zm_158_ok : zOK zm_158 := ⟨zw_q0_ok _ (List.mem_of_getElem? (i := 24) rfl), zw_q0_ok _ (List.mem_of_getElem? (i := 5) rfl), ⟨by decide +kernel, by decide +kernel, by decide +kernel⟩, by decide +kernel, Nat.le_of_ble_eq_true rfl, ⟨Nat.le_of_ble_eq_true rfl, rfl⟩, fun h => absurd h (by decide +kernel), fun h => absurd h (by decide +kernel), fun _ => ⟨zw_q0_ok _ (List.mem_of_getElem? (i := 23) rfl), rfl, rfl⟩, zdecF cX7_init zt_158 [42, 183, 0, 3, 42, 17, 16, 0, 188, 8, 181, 0, 9, 42, 17, 1, 0, 181, 0, 15, 42, 17, 0, 128, 181, 0, 19, 177] 28 (by decide +kernel) (Nat.le_of_ble_eq_true rfl) (by decide +kernel)⟩
set_option maxRecDepth 100000 in
theorem zm_175_ok : zOK zm_175 := ⟨zw_q0_ok _ (List.mem_of_getElem? (i := 26) rfl), zw_q0_ok _ (List.mem_of_getElem? (i := 6) rfl), ⟨by decide +kernel, by decide +kernel, by decide +kernel⟩, by decide +kernel, Nat.le_of_ble_eq_true rfl, ⟨Nat.le_of_ble_eq_true rfl, rfl⟩, fun h => absurd h (by decide +kernel), fun h => absurd h (by decide +kernel), fun _ => ⟨zw_q0_ok _ (List.mem_of_getElem? (i := 25) rfl), rfl, rfl⟩, zdecF cX8_init zt_175 [42, 183, 0, 3, 42, 16, 64, 188, 10, 181, 0, 9, 42, 16, 64, 188, 10, 181, 0, 15, 42, 16, 32, 188, 10, 181, 0, 18, 42, 16, 64, 188, 10, 181, 0, 21, 42, 17, 1, 64, 188, 10, 181, 0, 24, 42, 7, 188, 10, 181, 0, 27, 42, 2, 181, 0, 30, 42, 2, 181, 0, 34, 42, 43, 181, 0, 37, 177] 68 (by decide +kernel) (Nat.le_of_ble_eq_true rfl) (by decide +kernel)⟩
set_option maxRecDepth 100000 in
theorem zm_16_ok : zOK zm_16 := ⟨zw_q0_ok _ (List.mem_of_getElem? (i := 28) rfl), zw_q0_ok _ (List.mem_of_getElem? (i := 7) rfl), ⟨by decide +kernel, by decide +kernel, by decide +kernel⟩, by decide +kernel, Nat.le_of_ble_eq_true rfl, ⟨Nat.le_of_ble_eq_true rfl, rfl⟩, fun h => absurd h (by decide +kernel), fun h => absurd h (by decide +kernel), fun _ => ⟨zw_q0_ok _ (List.mem_of_getElem? (i := 27) rfl), rfl, rfl⟩, zdecF cX1_init zt_16 [42, 183, 0, 3, 42, 187, 0, 9, 89, 183, 0, 11, 181, 0, 12, 42, 187, 0, 18, 89, 183, 0, 20, 181, 0, 21, 42, 187, 0, 25, 89, 183, 0, 27, 181, 0, 28, 42, 187, 0, 32, 89, 42, 180, 0, 12, 183, 0, 34, 181, 0, 37, 42, 187, 0, 41, 89, 42, 180, 0, 28, 183, 0, 43, 181, 0, 46, 42, 187, 0, 50, 89, 183, 0, 52, 181, 0, 53, 42, 187, 0, 57, 89, 183, 0, 59, 181, 0, 60, 42, 187, 0, 64, 89, 42, 180, 0, 21, 42, 180, 0, 28, 42, 180, 0, 12, 183, 0, 66, 181, 0, 69, 42, 7, 189, 0, 73, 181, 0, 75, 42, 2, 181, 0, 79, 42, 2, 181, 0, 83, 3, 60, 27, 7, 162, 0, 26, 42, 180, 0, 75, 27, 187, 0, 73, 89, 42, 180, 0, 12, 183, 0, 86, 83, 132, 1, 1, 167, 255, 231, 42, 180, 0, 75, 3, 50, 4, 181, 0, 87, 177] 171 (by decide +kernel) (Nat.le_of_ble_eq_true rfl) (by decide +kernel)⟩
set_option maxRecDepth 100000 in
theorem zm_238_ok : zOK zm_238 := ⟨zw_q0_ok _ (List.mem_of_getElem? (i := 30) rfl), zw_q0_ok _ (List.mem_of_getElem? (i := 8) rfl), ⟨by decide +kernel, by decide +kernel, by decide +kernel⟩, by decide +kernel, Nat.le_of_ble_eq_true rfl, ⟨Nat.le_of_ble_eq_true rfl, rfl⟩, fun h => absurd h (by decide +kernel), fun h => absurd h (by decide +kernel), fun _ => ⟨zw_q0_ok _ (List.mem_of_getElem? (i := 29) rfl), rfl, rfl⟩, zdecF cX10_init zt_238 [42, 183, 0, 3, 42, 17, 1, 104, 188, 8, 181, 0, 9, 42, 17, 1, 104, 188, 8, 181, 0, 15, 42, 17, 1, 104, 188, 8, 181, 0, 18, 42, 17, 1, 104, 188, 10, 181, 0, 21, 42, 17, 1, 104, 188, 10, 181, 0, 25, 42, 17, 1, 104, 188, 10, 181, 0, 28, 42, 17, 1, 104, 188, 8, 181, 0, 31, 42, 17, 33, 192, 188, 8, 181, 0, 34, 42, 17, 1, 104, 188, 8, 181, 0, 37, 42, 17, 1, 104, 188, 10, 181, 0, 40, 42, 17, 1, 104, 188, 10, 181, 0, 43, 42, 17, 1, 104, 188, 10, 181, 0, 46, 42, 2, 181, 0, 49, 42, 18, 53, 182, 0, 55, 42, 18, 59, 182, 0, 55, 42, 18, 61, 182, 0, 55, 42, 18, 63, 182, 0, 55, 42, 18, 65, 182, 0, 55, 42, 18, 67, 182, 0, 55, 42, 18, 69, 182, 0, 55, 42, 18, 71, 182, 0, 55, 42, 18, 73, 182, 0, 55, 177] 172 (by decide +kernel) (Nat.le_of_ble_eq_true rfl) (by decide +kernel)⟩
set_option maxRecDepth 100000 in
theorem zm_79_ok : zOK zm_79 := ⟨zw_q0_ok _ (List.mem_of_getElem? (i := 52) rfl), zw_q0_ok _ (List.mem_of_getElem? (i := 12) rfl), ⟨by decide +kernel, by decide +kernel, by decide +kernel⟩, by decide +kernel, Nat.le_of_ble_eq_true rfl, ⟨Nat.le_of_ble_eq_true rfl, rfl⟩, fun h => absurd h (by decide +kernel), fun h => absurd h (by decide +kernel), fun _ => ⟨zw_q0_ok _ (List.mem_of_getElem? (i := 51) rfl), rfl, rfl⟩, zdecF cX2_init zt_79 [42, 183, 0, 3, 42, 17, 15, 160, 188, 8, 181, 0, 9, 42, 17, 15, 160, 188, 10, 181, 0, 15, 177] 23 (by decide +kernel) (Nat.le_of_ble_eq_true rfl) (by decide +kernel)⟩
set_option maxRecDepth 100000 in
theorem zm_225_ok : zOK zm_225 := ⟨zw_q0_ok _ (List.mem_of_getElem? (i := 54) rfl), zw_q0_ok _ (List.mem_of_getElem? (i := 13) rfl), ⟨by decide +kernel, by decide +kernel, by decide +kernel⟩, by decide +kernel, Nat.le_of_ble_eq_true rfl, ⟨Nat.le_of_ble_eq_true rfl, rfl⟩, fun h => absurd h (by decide +kernel), fun h => absurd h (by decide +kernel), fun _ => ⟨zw_q0_ok _ (List.mem_of_getElem? (i := 53) rfl), rfl, rfl⟩, zdecF cX9_init zt_225 [42, 183, 0, 3, 42, 17, 4, 0, 188, 8, 181, 0, 9, 42, 17, 16, 0, 188, 8, 181, 0, 15, 42, 8, 188, 10, 181, 0, 18, 42, 8, 188, 10, 181, 0, 22, 42, 8, 188, 10, 181, 0, 25, 42, 8, 188, 10, 181, 0, 28, 42, 17, 16, 0, 188, 8, 181, 0, 31, 42, 43, 181, 0, 34, 42, 180, 0, 15, 16, 32, 184, 0, 38, 42, 42, 180, 0, 9, 181, 0, 44, 177] 82 (by decide +kernel) (Nat.le_of_ble_eq_true rfl) (by decide +kernel)⟩
set_option maxRecDepth 100000 in
theorem zm_120_ok : zOK zm_120 := ⟨zw_q0_ok _ (List.mem_of_getElem? (i := 58) rfl), zw_q0_ok _ (List.mem_of_getElem? (i := 15) rfl), ⟨by decide +kernel, by decide +kernel, by decide +kernel⟩, by decide +kernel, Nat.le_of_ble_eq_true rfl, ⟨Nat.le_of_ble_eq_true rfl, rfl⟩, fun h => absurd h (by decide +kernel), fun h => absurd h (by decide +kernel), fun _ => ⟨zw_q0_ok _ (List.mem_of_getElem? (i := 57) rfl), rfl, rfl⟩, zdecF cX5_init zt_120 [42, 183, 0, 3, 42, 8, 188, 10, 181, 0, 9, 42, 8, 188, 10, 181, 0, 15, 42, 8, 188, 10, 181, 0, 18, 42, 8, 188, 10, 181, 0, 21, 42, 8, 188, 10, 181, 0, 24, 42, 16, 40, 188, 8, 181, 0, 27, 42, 17, 3, 192, 188, 8, 181, 0, 31, 42, 16, 32, 188, 10, 181, 0, 34, 42, 16, 32, 188, 10, 181, 0, 37, 42, 43, 181, 0, 40, 177] 78 (by decide +kernel) (Nat.le_of_ble_eq_true rfl) (by decide +kernel)⟩
set_option maxRecDepth 100000 in
theorem zm_111_ok : zOK zm_111 := ⟨zw_q0_ok _ (List.mem_of_getElem? (i := 60) rfl), zw_q0_ok _ (List.mem_of_getElem? (i := 16) rfl), ⟨by decide +kernel, by decide +kernel, by decide +kernel⟩, by decide +kernel, Nat.le_of_ble_eq_true rfl, ⟨Nat.le_of_ble_eq_true rfl, rfl⟩, fun h => absurd h (by decide +kernel), fun h => absurd h (by decide +kernel), fun _ => ⟨zw_q0_ok _ (List.mem_of_getElem? (i := 59) rfl), rfl, rfl⟩, zdecF cX4_init zt_111 [42, 183, 0, 3, 42, 16, 8, 188, 10, 181, 0, 9, 42, 4, 181, 0, 15, 42, 4, 181, 0, 19, 42, 4, 181, 0, 22, 42, 16, 32, 188, 10, 181, 0, 25, 42, 16, 32, 188, 10, 181, 0, 28, 42, 16, 32, 188, 10, 181, 0, 31, 42, 16, 32, 188, 10, 181, 0, 34, 42, 16, 32, 188, 10, 181, 0, 37, 42, 16, 32, 188, 10, 181, 0, 40, 42, 17, 1, 0, 188, 10, 181, 0, 43, 42, 180, 0, 9, 3, 4, 79, 177] 92 (by decide +kernel) (Nat.le_of_ble_eq_true rfl) (by decide +kernel)⟩
set_option maxRecDepth 100000 in
theorem zm_147_ok : zOK zm_147 := ⟨zw_q0_ok _ (List.mem_of_getElem? (i := 62) rfl), zw_q0_ok _ (List.mem_of_getElem? (i := 17) rfl), ⟨by decide +kernel, by decide +kernel, by decide +kernel⟩, by decide +kernel, Nat.le_of_ble_eq_true rfl, ⟨Nat.le_of_ble_eq_true rfl, rfl⟩, fun h => absurd h (by decide +kernel), fun h => absurd h (by decide +kernel), fun _ => ⟨zw_q0_ok _ (List.mem_of_getElem? (i := 61) rfl), rfl, rfl⟩, zdecF cX6_init zt_147 [42, 183, 0, 3, 42, 17, 11, 184, 188, 8, 181, 0, 9, 42, 16, 64, 188, 8, 181, 0, 15, 42, 16, 64, 188, 10, 181, 0, 18, 177] 30 (by decide +kernel) (Nat.le_of_ble_eq_true rfl) (by decide +kernel)⟩
set_option maxRecDepth 100000 in
theorem zm_89_ok : zOK zm_89 := ⟨zw_q0_ok _ (List.mem_of_getElem? (i := 64) rfl), zw_q0_ok _ (List.mem_of_getElem? (i := 18) rfl), ⟨by decide +kernel, by decide +kernel, by decide +kernel⟩, by decide +kernel, Nat.le_of_ble_eq_true rfl, ⟨Nat.le_of_ble_eq_true rfl, rfl⟩, fun h => absurd h (by decide +kernel), fun h => absurd h (by decide +kernel), fun _ => ⟨zw_q0_ok _ (List.mem_of_getElem? (i := 63) rfl), rfl, rfl⟩, zdecF cX3_init zt_89 [42, 183, 0, 3, 42, 17, 15, 160, 188, 10, 181, 0, 9, 42, 17, 15, 160, 188, 10, 181, 0, 15, 42, 17, 15, 160, 188, 10, 181, 0, 18, 42, 17, 15, 160, 188, 8, 181, 0, 21, 42, 43, 181, 0, 25, 42, 44, 181, 0, 29, 42, 187, 0, 33, 89, 45, 183, 0, 35, 181, 0, 38, 177] 63 (by decide +kernel) (Nat.le_of_ble_eq_true rfl) (by decide +kernel)⟩
set_option maxRecDepth 100000 in
theorem zm_239_ok : zOK zm_239 := ⟨zw_q0_ok _ (List.mem_of_getElem? (i := 32) rfl), zw_q0_ok _ (List.mem_of_getElem? (i := 8) rfl), ⟨by decide +kernel, by decide +kernel, by decide +kernel⟩, by decide +kernel, Nat.le_of_ble_eq_true rfl, ⟨Nat.le_of_ble_eq_true rfl, rfl⟩, fun h => absurd h (by decide +kernel), fun _ => ⟨zw_q0_ok _ (List.mem_of_getElem? (i := 31) rfl), zw_q0_ok _ (List.mem_of_getElem? (i := 0) rfl)⟩, fun h => absurd h (by decide +kernel), zdecF cX10_addLine zt_239 [3, 61, 28, 43, 182, 0, 75, 162, 0, 114, 43, 28, 182, 0, 81, 16, 32, 160, 0, 56, 42, 180, 0, 18, 42, 180, 0, 85, 4, 84, 42, 180, 0, 28, 42, 180, 0, 85, 2, 79, 42, 180, 0, 15, 42, 180, 0, 85, 178, 0, 88, 42, 180, 0, 85, 51, 4, 126, 145, 84, 42, 89, 180, 0, 85, 4, 96, 181, 0, 85, 167, 0, 45, 42, 180, 0, 34, 42, 180, 0, 85, 16, 24, 104, 42, 180, 0, 31, 42, 180, 0, 85, 51, 96, 43, 28, 182, 0, 81, 145, 84, 42, 180, 0, 31, 42, 180, 0, 85, 92, 51, 4, 96, 145, 84, 132, 2, 1, 167, 255, 140, 177] 122 (by decide +kernel) (Nat.le_of_ble_eq_true rfl) (by decide +kernel)⟩
set_option maxRecDepth 100000 in
theorem zm_17_ok : zOK zm_17 := ⟨zw_q0_ok _ (List.mem_of_getElem? (i := 76) rfl), zw_q0_ok _ (List.mem_of_getElem? (i := 7) rfl), ⟨by decide +kernel, by decide +kernel, by decide +kernel⟩, by decide +kernel, Nat.le_of_ble_eq_true rfl, ⟨Nat.le_of_ble_eq_true rfl, rfl⟩, fun h => absurd h (by decide +kernel), fun _ => ⟨zw_q0_ok _ (List.mem_of_getElem? (i := 74) rfl), zw_q0_ok _ (List.mem_of_getElem? (i := 75) rfl)⟩, fun h => absurd h (by decide +kernel), zdecF cX1_begin zt_17 [42, 180, 0, 12, 27, 181, 0, 90, 42, 180, 0, 12, 28, 181, 0, 93, 42, 180, 0, 12, 3, 16, 10, 182, 0, 96, 177] 27 (by decide +kernel) (Nat.le_of_ble_eq_true rfl) (by decide +kernel)⟩
set_option maxRecDepth 100000 in
theorem zm_169_ok : zOK zm_169 := ⟨zw_q0_ok _ (List.mem_of_getElem? (i := 79) rfl), zw_q0_ok _ (List.mem_of_getElem? (i := 5) rfl), ⟨by decide +kernel, by decide +kernel, by decide +kernel⟩, by decide +kernel, Nat.le_of_ble_eq_true rfl, ⟨Nat.le_of_ble_eq_true rfl, rfl⟩, fun h => absurd h (by decide +kernel), fun _ => ⟨zw_q0_ok _ (List.mem_of_getElem? (i := 77) rfl), zw_q0_ok _ (List.mem_of_getElem? (i := 78) rfl)⟩, fun h => absurd h (by decide +kernel), zdecF cX7_layCell zt_169 [27, 155, 0, 15, 27, 17, 16, 0, 42, 180, 0, 26, 100, 164, 0, 4, 177, 3, 62, 29, 42, 180, 0, 26, 162, 0, 50, 42, 180, 0, 29, 7, 126, 153, 0, 16, 27, 42, 180, 0, 26, 96, 4, 100, 29, 100, 167, 0, 6, 27, 29, 96, 54, 4, 42, 180, 0, 9, 21, 4, 28, 16, 8, 29, 104, 122, 145, 84, 132, 3, 1, 167, 255, 204, 177] 75 (by decide +kernel) (Nat.le_of_ble_eq_true rfl) (by decide +kernel)⟩
set_option maxRecDepth 100000 in
theorem zm_180_ok : zOK zm_180 := ⟨zw_q0_ok _ (List.mem_of_getElem? (i := 109) rfl), zw_q0_ok _ (List.mem_of_getElem? (i := 6) rfl), ⟨by decide +kernel, by decide +kernel, by decide +kernel⟩, by decide +kernel, Nat.le_of_ble_eq_true rfl, ⟨Nat.le_of_ble_eq_true rfl, rfl⟩, fun h => absurd h (by decide +kernel), fun _ => ⟨zw_q0_ok _ (List.mem_of_getElem? (i := 107) rfl), zw_q0_ok _ (List.mem_of_getElem? (i := 108) rfl)⟩, fun h => absurd h (by decide +kernel), zdecF cX8_cellOf zt_180 [27, 170, 0, 0, 0, 0, 0, 185, 0, 0, 0, 0, 0, 0, 0, 5, 0, 0, 0, 39, 0, 0, 0, 69, 0, 0, 0, 99, 0, 0, 0, 139, 0, 0, 0, 185, 0, 0, 0, 162, 28, 155, 0, 11, 28, 42, 180, 0, 45, 161, 0, 7, 3, 167, 0, 16, 42, 180, 0, 9, 42, 180, 0, 45, 4, 100, 28, 100, 46, 172, 28, 155, 0, 11, 28, 42, 180, 0, 48, 161, 0, 7, 3, 167, 0, 16, 42, 180, 0, 15, 42, 180, 0, 48, 4, 100, 28, 100, 46, 172, 28, 155, 0, 13, 28, 5, 42, 180, 0, 51, 104, 161, 0, 7, 3, 167, 0, 24, 42, 180, 0, 18, 5, 42, 180, 0, 51, 4, 100, 28, 5, 108, 100, 104, 28, 5, 112, 96, 46, 172, 28, 155, 0, 11, 28, 42, 180, 0, 54, 161, 0, 7, 3, 167, 0, 9, 42, 180, 0, 21, 28, 46, 172, 28, 155, 0, 11, 28, 42, 180, 0, 60, 161, 0, 7, 3, 167, 0, 9, 42, 180, 0, 27, 28, 46, 172, 16, 254, 172] 189 (by decide +kernel) (Nat.le_of_ble_eq_true rfl) (by decide +kernel)⟩
set_option maxRecDepth 100000 in
theorem zm_513_ok : zOK zm_513 := ⟨zw_q0_ok _ (List.mem_of_getElem? (i := 56) rfl), zw_q0_ok _ (List.mem_of_getElem? (i := 14) rfl), ⟨by decide +kernel, by decide +kernel, by decide +kernel⟩, by decide +kernel, Nat.le_of_ble_eq_true rfl, ⟨Nat.le_of_ble_eq_true rfl, rfl⟩, fun _ => zw_q0_ok _ (List.mem_of_getElem? (i := 55) rfl), fun h => absurd h (by decide +kernel), fun h => absurd h (by decide +kernel), zdecF cJ7_fill_031fb zt_513 [3, 61, 42, 190, 62, 28, 29, 162, 0, 13, 42, 28, 27, 84, 132, 2, 1, 167, 255, 244, 177] 21 (by decide +kernel) (Nat.le_of_ble_eq_true rfl) (by decide +kernel)⟩
set_option maxRecDepth 100000 in
theorem zm_501_ok : zOK zm_501 := ⟨zw_q0_ok _ (List.mem_of_getElem? (i := 35) rfl), zw_q0_ok _ (List.mem_of_getElem? (i := 9) rfl), ⟨by decide +kernel, by decide +kernel, by decide +kernel⟩, by decide +kernel, Nat.le_of_ble_eq_true rfl, ⟨Nat.le_of_ble_eq_true rfl, rfl⟩, fun h => absurd h (by decide +kernel), fun _ => ⟨zw_q0_ok _ (List.mem_of_getElem? (i := 33) rfl), zw_q0_ok _ (List.mem_of_getElem? (i := 34) rfl)⟩, fun h => absurd h (by decide +kernel), zdecF cJ0_length_8abf5 zt_501 [42, 180, 0, 9, 190, 42, 182, 1, 79, 122, 172] 11 (by decide +kernel) (Nat.le_of_ble_eq_true rfl) (by decide +kernel)⟩
set_option maxRecDepth 100000 in
theorem zm_502_ok : zOK zm_502 := ⟨zw_q0_ok _ (List.mem_of_getElem? (i := 41) rfl), zw_q0_ok _ (List.mem_of_getElem? (i := 9) rfl), ⟨by decide +kernel, by decide +kernel, by decide +kernel⟩, by decide +kernel, Nat.le_of_ble_eq_true rfl, ⟨Nat.le_of_ble_eq_true rfl, rfl⟩, fun h => absurd h (by decide +kernel), fun _ => ⟨zw_q0_ok _ (List.mem_of_getElem? (i := 39) rfl), zw_q0_ok _ (List.mem_of_getElem? (i := 40) rfl)⟩, fun h => absurd h (by decide +kernel), zdecF cJ0_charAt_5068e zt_502 [42, 182, 1, 236, 153, 0, 12, 42, 180, 0, 9, 27, 184, 1, 239, 172, 42, 180, 0, 9, 27, 184, 1, 242, 172] 25 (by decide +kernel) (Nat.le_of_ble_eq_true rfl) (by decide +kernel)⟩
set_option maxRecDepth 100000 in
theorem zm_503_ok : zOK zm_503 := ⟨zw_q0_ok _ (List.mem_of_getElem? (i := 38) rfl), zw_q0_ok _ (List.mem_of_getElem? (i := 9) rfl), ⟨by decide +kernel, by decide +kernel, by decide +kernel⟩, by decide +kernel, Nat.le_of_ble_eq_true rfl, ⟨Nat.le_of_ble_eq_true rfl, rfl⟩, fun h => absurd h (by decide +kernel), fun _ => ⟨zw_q0_ok _ (List.mem_of_getElem? (i := 36) rfl), zw_q0_ok _ (List.mem_of_getElem? (i := 37) rfl)⟩, fun h => absurd h (by decide +kernel), zdecF cJ0_coder_7d493 zt_503 [178, 0, 38, 153, 0, 10, 42, 180, 0, 15, 167, 0, 4, 4, 172] 15 (by decide +kernel) (Nat.le_of_ble_eq_true rfl) (by decide +kernel)⟩
set_option maxRecDepth 100000 in
theorem zm_504_ok : zOK zm_504 := ⟨zw_q0_ok _ (List.mem_of_getElem? (i := 44) rfl), zw_q0_ok _ (List.mem_of_getElem? (i := 9) rfl), ⟨by decide +kernel, by decide +kernel, by decide +kernel⟩, by decide +kernel, Nat.le_of_ble_eq_true rfl, ⟨Nat.le_of_ble_eq_true rfl, rfl⟩, fun h => absurd h (by decide +kernel), fun _ => ⟨zw_q0_ok _ (List.mem_of_getElem? (i := 42) rfl), zw_q0_ok _ (List.mem_of_getElem? (i := 43) rfl)⟩, fun h => absurd h (by decide +kernel), zdecF cJ0_isLatin1_aae02 zt_504 [178, 0, 38, 153, 0, 14, 42, 180, 0, 15, 154, 0, 7, 4, 167, 0, 4, 3, 172] 19 (by decide +kernel) (Nat.le_of_ble_eq_true rfl) (by decide +kernel)⟩
set_option maxRecDepth 100000 in
theorem zm_505_ok : zOK zm_505 := ⟨zw_q0_ok _ (List.mem_of_getElem? (i := 48) rfl), zw_q0_ok _ (List.mem_of_getElem? (i := 9) rfl), ⟨by decide +kernel, by decide +kernel, by decide +kernel⟩, by decide +kernel, Nat.le_of_ble_eq_true rfl, ⟨Nat.le_of_ble_eq_true rfl, rfl⟩, fun _ => zw_q0_ok _ (List.mem_of_getElem? (i := 47) rfl), fun h => absurd h (by decide +kernel), fun h => absurd h (by decide +kernel), zdecF cJ0_checkIndex_df160 zt_505 [26, 27, 178, 4, 29, 184, 4, 35, 87, 177] 10 (by decide +kernel) (Nat.le_of_ble_eq_true rfl) (by decide +kernel)⟩
set_option maxRecDepth 100000 in
theorem zm_506_ok : zOK zm_506 := ⟨zw_q0_ok _ (List.mem_of_getElem? (i := 46) rfl), zw_q0_ok _ (List.mem_of_getElem? (i := 10) rfl), ⟨by decide +kernel, by decide +kernel, by decide +kernel⟩, by decide +kernel, Nat.le_of_ble_eq_true rfl, ⟨Nat.le_of_ble_eq_true rfl, rfl⟩, fun _ => zw_q0_ok _ (List.mem_of_getElem? (i := 45) rfl), fun h => absurd h (by decide +kernel), fun h => absurd h (by decide +kernel), zdecF cJ1_charAt_3b067 zt_506 [27, 42, 190, 184, 0, 9, 42, 27, 51, 17, 0, 255, 126, 146, 172] 15 (by decide +kernel) (Nat.le_of_ble_eq_true rfl) (by decide +kernel)⟩
set_option maxRecDepth 100000 in
theorem zm_515_ok : zOK zm_515 := ⟨zw_q0_ok _ (List.mem_of_getElem? (i := 50) rfl), zw_q0_ok _ (List.mem_of_getElem? (i := 11) rfl), ⟨by decide +kernel, by decide +kernel, by decide +kernel⟩, by decide +kernel, Nat.le_of_ble_eq_true rfl, ⟨Nat.le_of_ble_eq_true rfl, rfl⟩, fun _ => zw_q0_ok _ (List.mem_of_getElem? (i := 49) rfl), fun h => absurd h (by decide +kernel), fun h => absurd h (by decide +kernel), zdecF cJ3_checkIndex_8e157 zt_515 [26, 155, 0, 8, 26, 27, 161, 0, 10, 44, 26, 27, 184, 0, 95, 191, 26, 172] 18 (by decide +kernel) (Nat.le_of_ble_eq_true rfl) (by decide +kernel)⟩
end
section
def ztL_455 : List (List (Option (Instr × Nat))) := [[some (.aload_n 0, 1), some (.invokespecial 664, 3), none, none, some (.aload_n 0, 1), some (.ldc_w 669, 3), none, none, some (.newarray .int, 2), none, some (.putfield 28, 3), none, none, some (.aload_n 0, 1), some (.sipush 1024, 3)], [none, some (.newarray .byte, 2), none, some (.putfield 670, 3), none, none, some (.aload_n 0, 1), some (.sipush 4000, 3), none, none, some (.newarray .int, 2), none, some (.putfield 634, 3), none, none, some (.aload_n 0, 1)], [some (.sipush 172, 3), none, none, some (.newarray .int, 2), none, some (.dup, 1), some (.iconst 0, 1), some (.bipush 12, 2), none, some (.iastore, 1), some (.dup, 1), some (.iconst 1, 1), some (.bipush 10, 2), none, some (.iastore, 1), some (.dup, 1)], [some (.iconst 2, 1), some (.bipush 22, 2), none, some (.iastore, 1), some (.dup, 1), some (.iconst 3, 1), some (.bipush 23, 2), none, some (.iastore, 1), some (.dup, 1), some (.iconst 4, 1), some (.bipush 33, 2), none, some (.iastore, 1), some (.dup, 1), some (.iconst 5, 1)], [some (.bipush 33, 2), none, some (.iastore, 1), some (.dup, 1), some (.bipush 6, 2), none, some (.bipush 21, 2), none, some (.iastore, 1), some (.dup, 1), some (.bipush 7, 2), none, some (.bipush 23, 2), none, some (.iastore, 1), some (.dup, 1)], [some (.bipush 8, 2), none, some (.bipush 99, 2), none, some (.iastore, 1), some (.dup, 1), some (.bipush 9, 2), none, some (.bipush 24, 2), none, some (.iastore, 1), some (.dup, 1), some (.bipush 10, 2), none, some (.bipush 20, 2)], [some (.iastore, 1), some (.dup, 1), some (.bipush 11, 2), none, some (.bipush 44, 2), none, some (.iastore, 1), some (.dup, 1), some (.bipush 12, 2), none, some (.bipush 46, 2), none, some (.iastore, 1), some (.dup, 1), some (.bipush 13, 2)], [some (.bipush 99, 2), none, some (.iastore, 1), some (.dup, 1), some (.bipush 14, 2), none, some (.bipush 99, 2), none, some (.iastore, 1), some (.dup, 1), some (.bipush 15, 2), none, some (.iconst 1, 1), some (.iastore, 1), some (.dup, 1), some (.bipush 16, 2)], [none, some (.bipush 10, 2), none, some (.iastore, 1), some (.dup, 1), some (.bipush 17, 2), none, some (.iconst 1, 1), some (.iastore, 1), some (.dup, 1), some (.bipush 18, 2), none, some (.iconst 1, 1), some (.iastore, 1), some (.dup, 1), some (.bipush 19, 2)], [none, some (.bipush 20, 2), none, some (.iastore, 1), some (.dup, 1), some (.bipush 20, 2), none, some (.iconst 2, 1), some (.iastore, 1), some (.dup, 1), some (.bipush 21, 2), none, some (.bipush 21, 2), none, some (.iastore, 1), some (.dup, 1)], [some (.bipush 22, 2), none, some (.bipush 21, 2), none, some (.iastore, 1), some (.dup, 1), some (.bipush 23, 2), none, some (.bipush 21, 2), none, some (.iastore, 1), some (.dup, 1), some (.bipush 24, 2), none, some (.bipush 21, 2)], [some (.iastore, 1), some (.dup, 1), some (.bipush 25, 2), none, some (.bipush 21, 2), none, some (.iastore, 1), some (.dup, 1), some (.bipush 26, 2), none, some (.bipush 22, 2), none, some (.iastore, 1), some (.dup, 1), some (.bipush 27, 2)], [some (.bipush 31, 2), none, some (.iastore, 1), some (.dup, 1), some (.bipush 28, 2), none, some (.bipush 32, 2), none, some (.iastore, 1), some (.dup, 1), some (.bipush 29, 2), none, some (.bipush 11, 2), none, some (.iastore, 1), some (.dup, 1)], [some (.bipush 30, 2), none, some (.bipush 11, 2), none, some (.iastore, 1), some (.dup, 1), some (.bipush 31, 2), none, some (.bipush 11, 2), none, some (.iastore, 1), some (.dup, 1), some (.bipush 32, 2), none, some (.bipush 11, 2)], [some (.iastore, 1), some (.dup, 1), some (.bipush 33, 2), none, some (.bipush 11, 2), none, some (.iastore, 1), some (.dup, 1), some (.bipush 34, 2), none, some (.bipush 11, 2), none, some (.iastore, 1), some (.dup, 1), some (.bipush 35, 2)], [some (.bipush 21, 2), none, some (.iastore, 1), some (.dup, 1), some (.bipush 36, 2), none, some (.bipush 21, 2), none, some (.iastore, 1), some (.dup, 1), some (.bipush 37, 2), none, some (.bipush 22, 2), none, some (.iastore, 1), some (.dup, 1)], [some (.bipush 38, 2), none, some (.bipush 32, 2), none, some (.iastore, 1), some (.dup, 1), some (.bipush 39, 2), none, some (.bipush 22, 2), none, some (.iastore, 1), some (.dup, 1), some (.bipush 40, 2), none, some (.bipush 32, 2)], [some (.iastore, 1), some (.dup, 1), some (.bipush 41, 2), none, some (.bipush 32, 2), none, some (.iastore, 1), some (.dup, 1), some (.bipush 42, 2), none, some (.bipush 12, 2), none, some (.iastore, 1), some (.dup, 1), some (.bipush 43, 2)], [some (.bipush 42, 2), none, some (.iastore, 1), some (.dup, 1), some (.bipush 44, 2), none, some (.bipush 22, 2), none, some (.iastore, 1), some (.dup, 1), some (.bipush 45, 2), none, some (.bipush 21, 2), none, some (.iastore, 1), some (.dup, 1)], [some (.bipush 46, 2), none, some (.bipush 21, 2), none, some (.iastore, 1), some (.dup, 1), some (.bipush 47, 2), none, some (.bipush 21, 2), none, some (.iastore, 1), some (.dup, 1), some (.bipush 48, 2), none, some (.bipush 21, 2)], [some (.iastore, 1), some (.dup, 1), some (.bipush 49, 2), none, some (.bipush 21, 2), none, some (.iastore, 1), some (.dup, 1), some (.bipush 50, 2), none, some (.bipush 11, 2), none, some (.iastore, 1), some (.dup, 1), some (.bipush 51, 2)], [some (.bipush 11, 2), none, some (.iastore, 1), some (.dup, 1), some (.bipush 52, 2), none, some (.bipush 11, 2), none, some (.iastore, 1), some (.dup, 1), some (.bipush 53, 2), none, some (.bipush 11, 2), none, some (.iastore, 1), some (.dup, 1)], [some (.bipush 54, 2), none, some (.bipush 21, 2), none, some (.iastore, 1), some (.dup, 1), some (.bipush 55, 2), none, some (.bipush 21, 2), none, some (.iastore, 1), some (.dup, 1), some (.bipush 56, 2), none, some (.bipush 21, 2)], [some (.iastore, 1), some (.dup, 1), some (.bipush 57, 2), none, some (.bipush 11, 2), none, some (.iastore, 1), some (.dup, 1), some (.bipush 58, 2), none, some (.bipush 21, 2), none, some (.iastore, 1), some (.dup, 1), some (.bipush 59, 2)], [some (.bipush 21, 2), none, some (.iastore, 1), some (.dup, 1), some (.bipush 60, 2), none, some (.bipush 31, 2), none, some (.iastore, 1), some (.dup, 1), some (.bipush 61, 2), none, some (.iconst 1, 1), some (.iastore, 1), some (.dup, 1), some (.bipush 62, 2)], [none, some (.iconst 1, 1), some (.iastore, 1), some (.dup, 1), some (.bipush 63, 2), none, some (.bipush 20, 2), none, some (.iastore, 1), some (.dup, 1), some (.bipush 64, 2), none, some (.bipush 11, 2), none, some (.iastore, 1), some (.dup, 1)], [some (.bipush 65, 2), none, some (.bipush 20, 2), none, some (.iastore, 1), some (.dup, 1), some (.bipush 66, 2), none, some (.bipush 11, 2), none, some (.iastore, 1), some (.dup, 1), some (.bipush 67, 2), none, some (.bipush 20, 2)], [some (.iastore, 1), some (.dup, 1), some (.bipush 68, 2), none, some (.bipush 30, 2), none, some (.iastore, 1), some (.dup, 1), some (.bipush 69, 2), none, some (.bipush 12, 2), none, some (.iastore, 1), some (.dup, 1), some (.bipush 70, 2)], [some (.iconst 1, 1), some (.iastore, 1), some (.dup, 1), some (.bipush 71, 2), none, some (.bipush 10, 2), none, some (.iastore, 1), some (.dup, 1), some (.bipush 72, 2), none, some (.bipush 10, 2), none, some (.iastore, 1), some (.dup, 1), some (.bipush 73, 2)], [none, some (.bipush 10, 2), none, some (.iastore, 1), some (.dup, 1), some (.bipush 74, 2), none, some (.iconst 0, 1), some (.iastore, 1), some (.dup, 1), some (.bipush 75, 2), none, some (.bipush 11, 2), none, some (.iastore, 1), some (.dup, 1)], [some (.bipush 76, 2), none, some (.bipush 11, 2), none, some (.iastore, 1), some (.dup, 1), some (.bipush 77, 2), none, some (.bipush 11, 2), none, some (.iastore, 1), some (.dup, 1), some (.bipush 78, 2), none, some (.bipush 11, 2)], [some (.iastore, 1), some (.dup, 1), some (.bipush 79, 2), none, some (.bipush 11, 2), none, some (.iastore, 1), some (.dup, 1), some (.bipush 80, 2), none, some (.bipush 30, 2), none, some (.iastore, 1), some (.dup, 1), some (.bipush 81, 2)], [some (.bipush 30, 2), none, some (.iastore, 1), some (.dup, 1), some (.bipush 82, 2), none, some (.bipush 12, 2), none, some (.iastore, 1), some (.dup, 1), some (.bipush 83, 2), none, some (.bipush 10, 2), none, some (.iastore, 1), some (.dup, 1)], [some (.bipush 84, 2), none, some (.bipush 10, 2), none, some (.iastore, 1), some (.dup, 1), some (.bipush 85, 2), none, some (.bipush 10, 2), none, some (.iastore, 1), some (.dup, 1), some (.bipush 86, 2), none, some (.iconst 0, 1), some (.iastore, 1)], [some (.dup, 1), some (.bipush 87, 2), none, some (.iconst 0, 1), some (.iastore, 1), some (.dup, 1), some (.bipush 88, 2), none, some (.bipush 10, 2), none, some (.iastore, 1), some (.dup, 1), some (.bipush 89, 2), none, some (.bipush 20, 2)], [some (.iastore, 1), some (.dup, 1), some (.bipush 90, 2), none, some (.iconst 0, 1), some (.iastore, 1), some (.dup, 1), some (.bipush 91, 2), none, some (.bipush 22, 2), none, some (.iastore, 1), some (.dup, 1), some (.bipush 92, 2), none, some (.bipush 22, 2)], [none, some (.iastore, 1), some (.dup, 1), some (.bipush 93, 2), none, some (.bipush 22, 2), none, some (.iastore, 1), some (.dup, 1), some (.bipush 94, 2), none, some (.bipush 10, 2), none, some (.iastore, 1), some (.dup, 1), some (.bipush 95, 2)], [none, some (.bipush 10, 2), none, some (.iastore, 1), some (.dup, 1), some (.bipush 96, 2), none, some (.iconst 1, 1), some (.iastore, 1), some (.dup, 1), some (.bipush 97, 2), none, some (.iconst 0, 1), some (.iastore, 1), some (.dup, 1), some (.bipush 98, 2)], [none, some (.iconst 0, 1), some (.iastore, 1), some (.dup, 1), some (.bipush 99, 2), none, some (.iconst 1, 1), some (.iastore, 1), some (.dup, 1), some (.bipush 100, 2), none, some (.bipush 99, 2), none, some (.iastore, 1), some (.dup, 1), some (.bipush 101, 2)], [none, some (.bipush 99, 2), none, some (.iastore, 1), some (.dup, 1), some (.bipush 102, 2), none, some (.bipush 99, 2), none, some (.iastore, 1), some (.dup, 1), some (.bipush 103, 2), none, some (.bipush 99, 2), none, some (.iastore, 1)], [some (.dup, 1), some (.bipush 104, 2), none, some (.bipush 99, 2), none, some (.iastore, 1), some (.dup, 1), some (.bipush 105, 2), none, some (.bipush 99, 2), none, some (.iastore, 1), some (.dup, 1), some (.bipush 106, 2), none, some (.bipush 99, 2)], [none, some (.iastore, 1), some (.dup, 1), some (.bipush 107, 2), none, some (.bipush 99, 2), none, some (.iastore, 1), some (.dup, 1), some (.bipush 108, 2), none, some (.bipush 99, 2), none, some (.iastore, 1), some (.dup, 1), some (.bipush 109, 2)], [none, some (.bipush 99, 2), none, some (.iastore, 1), some (.dup, 1), some (.bipush 110, 2), none, some (.bipush 99, 2), none, some (.iastore, 1), some (.dup, 1), some (.bipush 111, 2), none, some (.bipush 99, 2), none, some (.iastore, 1)], [some (.dup, 1), some (.bipush 112, 2), none, some (.bipush 99, 2), none, some (.iastore, 1), some (.dup, 1), some (.bipush 113, 2), none, some (.bipush 99, 2), none, some (.iastore, 1), some (.dup, 1), some (.bipush 114, 2), none, some (.bipush 99, 2)], [none, some (.iastore, 1), some (.dup, 1), some (.bipush 115, 2), none, some (.bipush 99, 2), none, some (.iastore, 1), some (.dup, 1), some (.bipush 116, 2), none, some (.bipush 99, 2), none, some (.iastore, 1), some (.dup, 1), some (.bipush 117, 2)], [none, some (.bipush 99, 2), none, some (.iastore, 1), some (.dup, 1), some (.bipush 118, 2), none, some (.bipush 99, 2), none, some (.iastore, 1), some (.dup, 1), some (.bipush 119, 2), none, some (.bipush 99, 2), none, some (.iastore, 1)], [some (.dup, 1), some (.bipush 120, 2), none, some (.bipush 99, 2), none, some (.iastore, 1), some (.dup, 1), some (.bipush 121, 2), none, some (.bipush 99, 2), none, some (.iastore, 1), some (.dup, 1), some (.bipush 122, 2), none, some (.bipush 99, 2)], [none, some (.iastore, 1), some (.dup, 1), some (.bipush 123, 2), none, some (.bipush 11, 2), none, some (.iastore, 1), some (.dup, 1), some (.bipush 124, 2), none, some (.bipush 99, 2), none, some (.iastore, 1), some (.dup, 1), some (.bipush 125, 2)], [none, some (.bipush 99, 2), none, some (.iastore, 1), some (.dup, 1), some (.bipush 126, 2), none, some (.bipush 99, 2), none, some (.iastore, 1), some (.dup, 1), some (.bipush 127, 2), none, some (.bipush 99, 2), none, some (.iastore, 1)], [some (.dup, 1), some (.sipush 128, 3), none, none, some (.bipush 99, 2), none, some (.iastore, 1), some (.dup, 1), some (.sipush 129, 3), none, none, some (.bipush 99, 2), none, some (.iastore, 1), some (.dup, 1), some (.sipush 130, 3)], [none, none, some (.bipush 99, 2), none, some (.iastore, 1), some (.dup, 1), some (.sipush 131, 3), none, none, some (.bipush 99, 2), none, some (.iastore, 1), some (.dup, 1), some (.sipush 132, 3)], [some (.bipush 99, 2), none, some (.iastore, 1), some (.dup, 1), some (.sipush 133, 3), none, none, some (.bipush 99, 2), none, some (.iastore, 1), some (.dup, 1), some (.sipush 134, 3), none, none, some (.bipush 99, 2)], [some (.iastore, 1), some (.dup, 1), some (.sipush 135, 3), none, none, some (.bipush 99, 2), none, some (.iastore, 1), some (.dup, 1), some (.sipush 136, 3), none, none, some (.bipush 99, 2), none, some (.iastore, 1), some (.dup, 1)], [some (.sipush 137, 3), none, none, some (.bipush 99, 2), none, some (.iastore, 1), some (.dup, 1), some (.sipush 138, 3), none, none, some (.bipush 99, 2), none, some (.iastore, 1), some (.dup, 1), some (.sipush 139, 3)], [none, some (.bipush 99, 2), none, some (.iastore, 1), some (.dup, 1), some (.sipush 140, 3), none, none, some (.bipush 99, 2), none, some (.iastore, 1), some (.dup, 1), some (.sipush 141, 3), none, none, some (.bipush 99, 2)], [none, some (.iastore, 1), some (.dup, 1), some (.sipush 142, 3), none, none, some (.bipush 99, 2), none, some (.iastore, 1), some (.dup, 1), some (.sipush 143, 3), none, none, some (.bipush 99, 2), none, some (.iastore, 1)], [some (.dup, 1), some (.sipush 144, 3), none, none, some (.bipush 99, 2), none, some (.iastore, 1), some (.dup, 1), some (.sipush 145, 3), none, none, some (.bipush 99, 2), none, some (.iastore, 1), some (.dup, 1), some (.sipush 146, 3)], [none, none, some (.bipush 99, 2), none, some (.iastore, 1), some (.dup, 1), some (.sipush 147, 3), none, none, some (.iconst 1, 1), some (.iastore, 1), some (.dup, 1), some (.sipush 148, 3), none, none, some (.iconst 1, 1)], [some (.iastore, 1), some (.dup, 1), some (.sipush 149, 3), none, none, some (.iconst 0, 1), some (.iastore, 1), some (.dup, 1), some (.sipush 150, 3), none, none, some (.iconst 0, 1), some (.iastore, 1), some (.dup, 1), some (.sipush 151, 3)], [none, some (.bipush 99, 2), none, some (.iastore, 1), some (.dup, 1), some (.sipush 152, 3), none, none, some (.bipush 99, 2), none, some (.iastore, 1), some (.dup, 1), some (.sipush 153, 3), none, none, some (.bipush 99, 2)], [none, some (.iastore, 1), some (.dup, 1), some (.sipush 154, 3), none, none, some (.bipush 99, 2), none, some (.iastore, 1), some (.dup, 1), some (.sipush 155, 3), none, none, some (.bipush 99, 2), none, some (.iastore, 1)], [some (.dup, 1), some (.sipush 156, 3), none, none, some (.bipush 10, 2), none, some (.iastore, 1), some (.dup, 1), some (.sipush 157, 3), none, none, some (.iconst 0, 1), some (.iastore, 1), some (.dup, 1), some (.sipush 158, 3)], [none, some (.iconst 1, 1), some (.iastore, 1), some (.dup, 1), some (.sipush 159, 3), none, none, some (.bipush 10, 2), none, some (.iastore, 1), some (.dup, 1), some (.sipush 160, 3), none, none, some (.iconst 0, 1), some (.iastore, 1)], [some (.dup, 1), some (.sipush 161, 3), none, none, some (.iconst 0, 1), some (.iastore, 1), some (.dup, 1), some (.sipush 162, 3), none, none, some (.iconst 0, 1), some (.iastore, 1), some (.dup, 1), some (.sipush 163, 3)], [some (.bipush 11, 2), none, some (.iastore, 1), some (.dup, 1), some (.sipush 164, 3), none, none, some (.iconst 0, 1), some (.iastore, 1), some (.dup, 1), some (.sipush 165, 3), none, none, some (.iconst 0, 1), some (.iastore, 1), some (.dup, 1)], [some (.sipush 166, 3), none, none, some (.bipush 21, 2), none, some (.iastore, 1), some (.dup, 1), some (.sipush 167, 3), none, none, some (.iconst 1, 1), some (.iastore, 1), some (.dup, 1), some (.sipush 168, 3)], [some (.bipush 99, 2), none, some (.iastore, 1), some (.dup, 1), some (.sipush 169, 3), none, none, some (.bipush 99, 2), none, some (.iastore, 1), some (.dup, 1), some (.sipush 170, 3), none, none, some (.bipush 99, 2)], [some (.iastore, 1), some (.dup, 1), some (.sipush 171, 3), none, none, some (.bipush 99, 2), none, some (.iastore, 1), some (.putfield 242, 3), none, none, some (.aload_n 0, 1), some (.sipush 4100, 3), none, none, some (.newarray .int, 2)], [none, some (.putfield 101, 3), none, none, some (.aload_n 0, 1), some (.sipush 12000, 3), none, none, some (.newarray .int, 2), none, some (.putfield 550, 3), none, none, some (.aload_n 0, 1), some (.sipush 4000, 3)], [none, some (.newarray .int, 2), none, some (.putfield 547, 3), none, none, some (.aload_n 0, 1), some (.sipush 4001, 3), none, none, some (.newarray .boolean, 2), none, some (.putfield 595, 3), none, none, some (.aload_n 0, 1)], [some (.sipush 2002, 3), none, none, some (.newarray .int, 2), none, some (.putfield 640, 3), none, none, some (.aload_n 0, 1), some (.sipush 360, 3), none, none, some (.newarray .int, 2), none, some (.putfield 622, 3)], [none, some (.aload_n 0, 1), some (.sipush 360, 3), none, none, some (.newarray .int, 2), none, some (.putfield 625, 3), none, none, some (.return_, 1)]]
def zt_455 : Nat → Option (Instr × Nat) := fun k => zlook 16 ztL_455 k
def zm_455 : zMe := (yX12_init, cX12_init, 1, none, 0, 12, 2, fun k => cond (Nat.blt k 1147) (zt_455 k) none)
def ztL_365 : List (List (Option (Instr × Nat))) := [[some (.lload_n 2, 1), some (.lconst 0, 1), some (.lcmp, 1), some (.ifCond .le 47, 3), none, none, some (.aload_n 0, 1), some (.iload_n 1, 1), some (.lload_n 2, 1), some (.invokevirtual 197, 3), none, none, some (.ifCond .eq 38, 3), none, none, some (.lconst 0, 1)], [some (.lstore 4, 2), none, some (.lload 4, 2), none, some (.lload_n 2, 1), some (.lcmp, 1), some (.ifCond .ge 28, 3), none, none, some (.aload_n 0, 1), some (.aload_n 0, 1), some (.aload_n 0, 1), some (.iload_n 1, 1), some (.invokevirtual 17, 3)], [some (.lload 4, 2), none, some (.ladd, 1), some (.invokevirtual 35, 3), none, none, some (.invokevirtual 226, 3), none, none, some (.lload 4, 2), none, some (.lconst 1, 1), some (.ladd, 1), some (.lstore 4, 2), none, some (.goto (-29), 3)], [none, none, some (.return_, 1)]]
def zt_365 : Nat → Option (Instr × Nat) := fun k => zlook 16 ztL_365 k
def zm_365 : zMe := (yX12_type, cX12_type, 6, none, 2, 12, 1, fun k => cond (Nat.blt k 51) (zt_365 k) none)
def ztL_458 : List (List (Option (Instr × Nat))) := [[some (.iload_n 3, 1), some (.iconst 1, 1), some (.bipush 8, 2), none, some (.invokestatic 599, 3), none, none, some (.ifCond .ne 6, 3), none, none, some (.bipush (-2), 2), none, some (.ireturn, 1), some (.aload_n 0, 1), some (.getfield 674, 3)], [none, some (.iload_n 3, 1), some (.iadd, 1), some (.sipush 1024, 3), none, none, some (.if_icmp .le 6, 3), none, none, some (.bipush (-4), 2), none, some (.ireturn, 1), some (.iconst 0, 1), some (.istore 4, 2), none, some (.iload 4, 2)], [none, some (.iload_n 3, 1), some (.if_icmp .ge 37, 3), none, none, some (.aload_n 0, 1), some (.getfield 670, 3), none, none, some (.aload_n 0, 1), some (.getfield 674, 3), none, none, some (.lload_n 1, 1), some (.bipush 8, 2)], [some (.iload 4, 2), none, some (.imul, 1), some (.lshr, 1), some (.l2i, 1), some (.i2b, 1), some (.bastore, 1), some (.aload_n 0, 1), some (.dup, 1), some (.getfield 674, 3), none, none, some (.iconst 1, 1), some (.iadd, 1), some (.putfield 674, 3)], [none, some (.iinc 4 1, 3), none, none, some (.goto (-37), 3), none, none, some (.aload_n 0, 1), some (.getfield 674, 3), none, none, some (.ireturn, 1)]]
def zt_458 : Nat → Option (Instr × Nat) := fun k => zlook 16 ztL_458 k
def zm_458 : zMe := (yX12_type_, cX12_type_, 5, (some .int), 2, 12, 1, fun k => cond (Nat.blt k 76) (zt_458 k) none)
def ztL_459 : List (List (Option (Instr × Nat))) := [[some (.aload_n 0, 1), some (.getfield 674, 3), none, none, some (.istore_n 1, 1), some (.aload_n 0, 1), some (.iconst 0, 1), some (.putfield 674, 3), none, none, some (.iload_n 1, 1), some (.ireturn, 1)]]
def zt_459 : Nat → Option (Instr × Nat) := fun k => zlook 16 ztL_459 k
def zm_459 : zMe := (yX12_wipe, cX12_wipe, 2, (some .int), 0, 12, 1, fun k => cond (Nat.blt k 12) (zt_459 k) none)
def ztL_462 : List (List (Option (Instr × Nat))) := [[some (.iload_n 1, 1), some (.iconst 2, 1), some (.iconst 4, 1), some (.invokestatic 599, 3), none, none, some (.ifCond .eq 13, 3), none, none, some (.iload_n 2, 1), some (.iconst 0, 1), some (.bipush 7, 2), none, some (.invokestatic 599, 3)], [some (.ifCond .ne 6, 3), none, none, some (.bipush (-2), 2), none, some (.ireturn, 1), some (.aload_n 0, 1), some (.invokevirtual 677, 3), none, none, some (.istore_n 3, 1), some (.iload_n 3, 1), some (.iconst 3, 1), some (.if_icmp .ne 6, 3)], [some (.bipush (-4), 2), none, some (.ireturn, 1), some (.aload_n 0, 1), some (.ldc_w 525, 3), none, none, some (.iload_n 3, 1), some (.imul, 1), some (.putfield 32, 3), none, none, some (.iconst 0, 1), some (.istore 4, 2), none, some (.iload 4, 2)], [none, some (.ldc_w 525, 3), none, none, some (.if_icmp .ge 22, 3), none, none, some (.aload_n 0, 1), some (.getfield 28, 3), none, none, some (.aload_n 0, 1), some (.getfield 32, 3), none, none, some (.iload 4, 2)], [none, some (.iadd, 1), some (.iconst 0, 1), some (.iastore, 1), some (.iinc 4 1, 3), none, none, some (.goto (-24), 3), none, none, some (.aload_n 0, 1), some (.getfield 28, 3), none, none, some (.aload_n 0, 1), some (.getfield 32, 3)], [none, none, some (.bipush 35, 2), none, some (.iadd, 1), some (.iconst 1, 1), some (.iastore, 1), some (.aload_n 0, 1), some (.getfield 28, 3), none, none, some (.aload_n 0, 1), some (.getfield 32, 3), none, none, some (.iconst 1, 1)], [some (.iadd, 1), some (.iload_n 1, 1), some (.iastore, 1), some (.aload_n 0, 1), some (.getfield 28, 3), none, none, some (.aload_n 0, 1), some (.getfield 32, 3), none, none, some (.iconst 2, 1), some (.iadd, 1), some (.iload_n 2, 1), some (.iastore, 1), some (.aload_n 0, 1)], [some (.getfield 28, 3), none, none, some (.aload_n 0, 1), some (.getfield 32, 3), none, none, some (.iconst 3, 1), some (.iadd, 1), some (.sipush 256, 3), none, none, some (.iastore, 1), some (.aload_n 0, 1), some (.getfield 28, 3)], [none, some (.aload_n 0, 1), some (.getfield 32, 3), none, none, some (.bipush 9, 2), none, some (.iadd, 1), some (.iconst 1, 1), some (.iastore, 1), some (.aload_n 0, 1), some (.getfield 28, 3), none, none, some (.aload_n 0, 1), some (.getfield 32, 3)], [none, none, some (.bipush 10, 2), none, some (.iadd, 1), some (.iconst 1, 1), some (.iastore, 1), some (.aload_n 0, 1), some (.getfield 28, 3), none, none, some (.aload_n 0, 1), some (.getfield 32, 3), none, none, some (.bipush 25, 2)], [none, some (.iadd, 1), some (.iconst 1, 1), some (.iastore, 1), some (.aload_n 0, 1), some (.getfield 28, 3), none, none, some (.aload_n 0, 1), some (.getfield 32, 3), none, none, some (.bipush 11, 2), none, some (.iadd, 1), some (.iconst 1, 1)], [some (.iastore, 1), some (.aload_n 0, 1), some (.getfield 28, 3), none, none, some (.aload_n 0, 1), some (.getfield 32, 3), none, none, some (.bipush 16, 2), none, some (.iadd, 1), some (.iconst (-1), 1), some (.iastore, 1), some (.aload_n 0, 1), some (.getfield 28, 3)], [none, none, some (.aload_n 0, 1), some (.getfield 32, 3), none, none, some (.bipush 33, 2), none, some (.iadd, 1), some (.sipush 128, 3), none, none, some (.iastore, 1), some (.aload_n 0, 1), some (.getfield 28, 3)], [none, some (.aload_n 0, 1), some (.getfield 32, 3), none, none, some (.sipush 30692, 3), none, none, some (.iadd, 1), some (.iconst 1, 1), some (.iastore, 1), some (.aload_n 0, 1), some (.iload_n 1, 1), some (.putfield 1, 3)], [some (.iconst 0, 1), some (.istore 4, 2), none, some (.iload 4, 2), none, some (.sipush 4096, 3), none, none, some (.if_icmp .ge 27, 3), none, none, some (.aload_n 0, 1), some (.getfield 28, 3), none, none, some (.aload_n 0, 1)], [some (.getfield 32, 3), none, none, some (.sipush 4196, 3), none, none, some (.iadd, 1), some (.iload 4, 2), none, some (.iadd, 1), some (.bipush 32, 2), none, some (.iastore, 1), some (.iinc 4 1, 3)], [some (.goto (-29), 3), none, none, some (.iconst 0, 1), some (.istore 4, 2), none, some (.iconst 0, 1), some (.istore 5, 2), none, some (.iload 5, 2), none, some (.sipush 172, 3), none, none, some (.if_icmp .ge 190, 3)], [none, some (.aload_n 0, 1), some (.iconst 0, 1), some (.putfield 87, 3), none, none, some (.ldc_w 680, 3), none, none, some (.iload 4, 2), none, some (.invokevirtual 284, 3), none, none, some (.bipush 32, 2)], [some (.if_icmp .eq 36, 3), none, none, some (.aload_n 0, 1), some (.getfield 101, 3), none, none, some (.aload_n 0, 1), some (.getfield 87, 3), none, none, some (.ldc_w 680, 3), none, none, some (.iload 4, 2)], [some (.invokevirtual 284, 3), none, none, some (.iastore, 1), some (.aload_n 0, 1), some (.dup, 1), some (.getfield 87, 3), none, none, some (.iconst 1, 1), some (.iadd, 1), some (.putfield 87, 3), none, none, some (.iinc 4 1, 3)], [none, some (.goto (-43), 3), none, none, some (.iinc 4 1, 3), none, none, some (.aload_n 0, 1), some (.iconst 0, 1), some (.iconst 1, 1), some (.invokevirtual 128, 3), none, none, some (.istore 6, 2), none, some (.iload 5, 2)], [none, some (.sipush 133, 3), none, none, some (.if_icmp .lt 27, 3), none, none, some (.iload 5, 2), none, some (.sipush 154, 3), none, none, some (.if_icmp .gt 19, 3), none, none, some (.iload 5, 2)], [none, some (.sipush 147, 3), none, none, some (.if_icmp .lt 68, 3), none, none, some (.iload 5, 2), none, some (.sipush 150, 3), none, none, some (.if_icmp .gt 60, 3), none, none, some (.iload 5, 2)], [none, some (.bipush 101, 2), none, some (.if_icmp .eq 53, 3), none, none, some (.iload 5, 2), none, some (.bipush 111, 2), none, some (.if_icmp .eq 46, 3), none, none, some (.iload 5, 2), none, some (.bipush 113, 2)], [none, some (.if_icmp .eq 39, 3), none, none, some (.iload 5, 2), none, some (.bipush 114, 2), none, some (.if_icmp .eq 32, 3), none, none, some (.iload 5, 2), none, some (.bipush 116, 2), none, some (.if_icmp .lt 10, 3)], [none, none, some (.iload 5, 2), none, some (.bipush 121, 2), none, some (.if_icmp .le 18, 3), none, none, some (.iload 5, 2), none, some (.bipush 125, 2), none, some (.if_icmp .lt 15, 3)], [some (.iload 5, 2), none, some (.sipush 132, 3), none, none, some (.if_icmp .gt 7, 3), none, none, some (.iconst 1, 1), some (.goto 4, 3), none, none, some (.iconst 0, 1), some (.istore 7, 2), none, some (.aload_n 0, 1)], [some (.getfield 28, 3), none, none, some (.aload_n 0, 1), some (.iload 5, 2), none, some (.invokevirtual 107, 3), none, none, some (.iconst 2, 1), some (.iadd, 1), some (.iload 7, 2), none, some (.ifCond .eq 7, 3)], [some (.iconst 1, 1), some (.goto 4, 3), none, none, some (.iconst 0, 1), some (.iastore, 1), some (.iinc 5 1, 3), none, none, some (.goto (-192), 3), none, none, some (.aload_n 0, 1), some (.getfield 28, 3)], [some (.aload_n 0, 1), some (.getfield 32, 3), none, none, some (.bipush 16, 2), none, some (.iadd, 1), some (.iconst (-1), 1), some (.iastore, 1), some (.aload_n 0, 1), some (.lconst 0, 1), some (.bipush 10, 2), none, some (.invokevirtual 90, 3)], [some (.iload_n 3, 1), some (.ireturn, 1)]]
def zt_462 : Nat → Option (Instr × Nat) := fun k => zlook 16 ztL_462 k
def zm_462 : zMe := (yX12_system, cX12_system, 8, (some .int), 2, 12, 1, fun k => cond (Nat.blt k 482) (zt_462 k) none)
def ztL_463 : List (List (Option (Instr × Nat))) := [[some (.aload_n 0, 1), some (.invokevirtual 682, 3), none, none, some (.aload_n 0, 1), some (.iload_n 1, 1), some (.invokevirtual 685, 3), none, none, some (.ifCond .eq 14, 3), none, none, some (.iload_n 2, 1), some (.iconst 1, 1), some (.sipush 20000, 3)], [none, some (.invokestatic 599, 3), none, none, some (.ifCond .ne 6, 3), none, none, some (.bipush (-2), 2), none, some (.ireturn, 1), some (.aload_n 0, 1), some (.iload_n 1, 1), some (.invokevirtual 526, 3), none, none, some (.aload_n 0, 1)], [some (.getfield 28, 3), none, none, some (.aload_n 0, 1), some (.getfield 32, 3), none, none, some (.bipush 15, 2), none, some (.iadd, 1), some (.iaload, 1), some (.iconst 1, 1), some (.if_icmp .ne 6, 3), none, none, some (.bipush (-3), 2)], [none, some (.ireturn, 1), some (.iconst 0, 1), some (.istore_n 3, 1), some (.iload_n 3, 1), some (.aload_n 0, 1), some (.getfield 87, 3), none, none, some (.if_icmp .ge 29, 3), none, none, some (.aload_n 0, 1), some (.getfield 28, 3)], [some (.aload_n 0, 1), some (.getfield 32, 3), none, none, some (.ldc 72, 2), none, some (.iadd, 1), some (.iload_n 3, 1), some (.iadd, 1), some (.aload_n 0, 1), some (.getfield 101, 3), none, none, some (.iload_n 3, 1), some (.iaload, 1), some (.iastore, 1)], [some (.iinc 3 1, 3), none, none, some (.goto (-31), 3), none, none, some (.aload_n 0, 1), some (.getfield 28, 3), none, none, some (.aload_n 0, 1), some (.getfield 32, 3), none, none, some (.bipush 34, 2)], [some (.iadd, 1), some (.aload_n 0, 1), some (.getfield 87, 3), none, none, some (.iastore, 1), some (.aload_n 0, 1), some (.getfield 28, 3), none, none, some (.aload_n 0, 1), some (.getfield 32, 3), none, none, some (.bipush 15, 2)], [some (.iadd, 1), some (.iconst 1, 1), some (.iastore, 1), some (.aload_n 0, 1), some (.ldc2_w 73, 3), none, none, some (.iconst 0, 1), some (.invokevirtual 90, 3), none, none, some (.aload_n 0, 1), some (.iload_n 1, 1), some (.iload_n 2, 1), some (.invokevirtual 688, 3)], [none, some (.ireturn, 1)]]
def zt_463 : Nat → Option (Instr × Nat) := fun k => zlook 16 ztL_463 k
def zm_463 : zMe := (yX12_evaluate, cX12_evaluate, 4, (some .int), 2, 12, 1, fun k => cond (Nat.blt k 130) (zt_463 k) none)
def ztL_464 : List (List (Option (Instr × Nat))) := [[some (.aload_n 0, 1), some (.iload_n 1, 1), some (.invokevirtual 685, 3), none, none, some (.ifCond .eq 14, 3), none, none, some (.iload_n 2, 1), some (.iconst 1, 1), some (.sipush 20000, 3), none, none, some (.invokestatic 599, 3)], [some (.ifCond .ne 6, 3), none, none, some (.bipush (-2), 2), none, some (.ireturn, 1), some (.aload_n 0, 1), some (.getfield 28, 3), none, none, some (.ldc_w 525, 3), none, none, some (.iload_n 1, 1), some (.imul, 1), some (.bipush 15, 2)], [none, some (.iadd, 1), some (.iaload, 1), some (.ifCond .ne 8, 3), none, none, some (.bipush (-3), 2), none, some (.goto 9, 3), none, none, some (.aload_n 0, 1), some (.iload_n 1, 1), some (.iload_n 2, 1), some (.invokevirtual 688, 3)], [none, some (.ireturn, 1)]]
def zt_464 : Nat → Option (Instr × Nat) := fun k => zlook 16 ztL_464 k
def zm_464 : zMe := (yX12_go, cX12_go, 3, (some .int), 2, 12, 1, fun k => cond (Nat.blt k 50) (zt_464 k) none)
def ztL_465 : List (List (Option (Instr × Nat))) := [[some (.aload_n 0, 1), some (.iload_n 1, 1), some (.invokevirtual 685, 3), none, none, some (.ifCond .ne 6, 3), none, none, some (.bipush (-2), 2), none, some (.ireturn, 1), some (.iload_n 2, 1), some (.ifCond .lt 45, 3), none, none, some (.iload_n 2, 1)], [some (.sipush 3000, 3), none, none, some (.if_icmp .ge 38, 3), none, none, some (.iload_n 2, 1), some (.aload_n 0, 1), some (.getfield 28, 3), none, none, some (.ldc_w 525, 3), none, none, some (.iload_n 1, 1), some (.imul, 1)], [some (.bipush 6, 2), none, some (.iadd, 1), some (.iaload, 1), some (.if_icmp .ge 21, 3), none, none, some (.aload_n 0, 1), some (.getfield 28, 3), none, none, some (.ldc_w 525, 3), none, none, some (.iload_n 1, 1), some (.imul, 1)], [some (.ldc 70, 2), none, some (.iadd, 1), some (.iload_n 2, 1), some (.iadd, 1), some (.iaload, 1), some (.goto 4, 3), none, none, some (.iconst (-1), 1), some (.ireturn, 1)]]
def zt_465 : Nat → Option (Instr × Nat) := fun k => zlook 16 ztL_465 k
def zm_465 : zMe := (yX12_out, cX12_out, 3, (some .int), 2, 12, 1, fun k => cond (Nat.blt k 59) (zt_465 k) none)
def ztL_466 : List (List (Option (Instr × Nat))) := [[some (.aload_n 0, 1), some (.iload_n 1, 1), some (.invokevirtual 685, 3), none, none, some (.ifCond .eq 13, 3), none, none, some (.iload_n 2, 1), some (.iconst 0, 1), some (.bipush 15, 2), none, some (.invokestatic 599, 3), none, none, some (.ifCond .ne 6, 3)], [none, none, some (.bipush (-2), 2), none, some (.ireturn, 1), some (.aload_n 0, 1), some (.iload_n 1, 1), some (.invokevirtual 526, 3), none, none, some (.iload_n 2, 1), some (.tableswitch 265 0 14 #[73, 85, 97, 109, 122, 135, 148, 161, 174, 187, 200, 213, 226, 239, 252], 73)], [], [], [], [], [none, none, none, none, some (.aload_n 0, 1), some (.getfield 28, 3), none, none, some (.aload_n 0, 1), some (.getfield 32, 3), none, none, some (.iconst 3, 1), some (.iadd, 1), some (.iaload, 1), some (.ireturn, 1)], [some (.aload_n 0, 1), some (.getfield 28, 3), none, none, some (.aload_n 0, 1), some (.getfield 32, 3), none, none, some (.iconst 4, 1), some (.iadd, 1), some (.iaload, 1), some (.ireturn, 1), some (.aload_n 0, 1), some (.getfield 28, 3)], [some (.aload_n 0, 1), some (.getfield 32, 3), none, none, some (.iconst 5, 1), some (.iadd, 1), some (.iaload, 1), some (.ireturn, 1), some (.aload_n 0, 1), some (.getfield 28, 3), none, none, some (.aload_n 0, 1), some (.getfield 32, 3)], [some (.bipush 6, 2), none, some (.iadd, 1), some (.iaload, 1), some (.ireturn, 1), some (.aload_n 0, 1), some (.getfield 28, 3), none, none, some (.aload_n 0, 1), some (.getfield 32, 3), none, none, some (.bipush 7, 2), none, some (.iadd, 1)], [some (.iaload, 1), some (.ireturn, 1), some (.aload_n 0, 1), some (.getfield 28, 3), none, none, some (.aload_n 0, 1), some (.getfield 32, 3), none, none, some (.bipush 8, 2), none, some (.iadd, 1), some (.iaload, 1), some (.ireturn, 1), some (.aload_n 0, 1)], [some (.getfield 28, 3), none, none, some (.aload_n 0, 1), some (.getfield 32, 3), none, none, some (.bipush 9, 2), none, some (.iadd, 1), some (.iaload, 1), some (.ireturn, 1), some (.aload_n 0, 1), some (.getfield 28, 3)], [some (.aload_n 0, 1), some (.getfield 32, 3), none, none, some (.bipush 10, 2), none, some (.iadd, 1), some (.iaload, 1), some (.ireturn, 1), some (.aload_n 0, 1), some (.getfield 28, 3), none, none, some (.aload_n 0, 1), some (.getfield 32, 3)], [none, some (.bipush 11, 2), none, some (.iadd, 1), some (.iaload, 1), some (.ireturn, 1), some (.aload_n 0, 1), some (.getfield 28, 3), none, none, some (.aload_n 0, 1), some (.getfield 32, 3), none, none, some (.bipush 12, 2)], [some (.iadd, 1), some (.iaload, 1), some (.ireturn, 1), some (.aload_n 0, 1), some (.getfield 28, 3), none, none, some (.aload_n 0, 1), some (.getfield 32, 3), none, none, some (.bipush 13, 2), none, some (.iadd, 1), some (.iaload, 1), some (.ireturn, 1)], [some (.aload_n 0, 1), some (.getfield 28, 3), none, none, some (.aload_n 0, 1), some (.getfield 32, 3), none, none, some (.bipush 14, 2), none, some (.iadd, 1), some (.iaload, 1), some (.ireturn, 1), some (.aload_n 0, 1), some (.getfield 28, 3)], [none, some (.aload_n 0, 1), some (.getfield 32, 3), none, none, some (.bipush 15, 2), none, some (.iadd, 1), some (.iaload, 1), some (.ireturn, 1), some (.aload_n 0, 1), some (.getfield 28, 3), none, none, some (.aload_n 0, 1), some (.getfield 32, 3)], [none, none, some (.bipush 16, 2), none, some (.iadd, 1), some (.iaload, 1), some (.ireturn, 1), some (.aload_n 0, 1), some (.getfield 28, 3), none, none, some (.aload_n 0, 1), some (.getfield 32, 3), none, none, some (.bipush 17, 2)], [none, some (.iadd, 1), some (.iaload, 1), some (.ireturn, 1), some (.aload_n 0, 1), some (.invokevirtual 435, 3), none, none, some (.ireturn, 1)]]
def zt_466 : Nat → Option (Instr × Nat) := fun k => zlook 16 ztL_466 k
def zm_466 : zMe := (yX12_count, cX12_count, 3, (some .int), 2, 12, 1, fun k => cond (Nat.blt k 297) (zt_466 k) none)
def ztL_422 : List (List (Option (Instr × Nat))) := [[some (.aload_n 0, 1), some (.getfield 25, 3), none, none, some (.istore_n 1, 1), some (.aload_n 0, 1), some (.iconst 0, 1), some (.putfield 25, 3), none, none, some (.aload_n 0, 1), some (.invokevirtual 63, 3), none, none, some (.iconst 1, 1), some (.isub, 1)], [some (.istore_n 2, 1), some (.iload_n 2, 1), some (.ifCond .lt 23, 3), none, none, some (.aload_n 0, 1), some (.getfield 28, 3), none, none, some (.aload_n 0, 1), some (.iload_n 2, 1), some (.invokevirtual 66, 3), none, none, some (.iaload, 1), some (.iconst 2, 1)], [some (.if_icmp .eq 9, 3), none, none, some (.iinc 2 (-1), 3), none, none, some (.goto (-21), 3), none, none, some (.iload_n 2, 1), some (.ifCond .lt 129, 3), none, none, some (.aload_n 0, 1), some (.iload_n 2, 1), some (.invokevirtual 66, 3)], [none, none, some (.istore_n 3, 1), some (.aload_n 0, 1), some (.invokevirtual 53, 3), none, none, some (.istore 4, 2), none, some (.iload 4, 2), none, some (.aload_n 0, 1), some (.getfield 28, 3), none, none, some (.iload_n 3, 1)], [some (.bipush 9, 2), none, some (.iadd, 1), some (.iaload, 1), some (.if_icmp .ge 25, 3), none, none, some (.aload_n 0, 1), some (.getfield 28, 3), none, none, some (.aload_n 0, 1), some (.getfield 50, 3), none, none, some (.bipush 20, 2)], [none, some (.iadd, 1), some (.iload 4, 2), none, some (.iadd, 1), some (.iconst 0, 1), some (.iastore, 1), some (.iinc 4 1, 3), none, none, some (.goto (-33), 3), none, none, some (.aload_n 0, 1), some (.getfield 28, 3)], [none, some (.aload_n 0, 1), some (.getfield 50, 3), none, none, some (.iconst 2, 1), some (.iadd, 1), some (.aload_n 0, 1), some (.getfield 28, 3), none, none, some (.iload_n 3, 1), some (.bipush 9, 2), none, some (.iadd, 1), some (.iaload, 1)], [some (.iastore, 1), some (.aload_n 0, 1), some (.iload_n 3, 1), some (.invokevirtual 487, 3), none, none, some (.aload_n 0, 1), some (.getfield 28, 3), none, none, some (.aload_n 0, 1), some (.getfield 32, 3), none, none, some (.bipush 12, 2)], [some (.iadd, 1), some (.iaload, 1), some (.ifCond .ne 19, 3), none, none, some (.aload_n 0, 1), some (.ldc2_w 73, 3), none, none, some (.aload_n 0, 1), some (.getfield 28, 3), none, none, some (.iload_n 3, 1), some (.bipush 8, 2)], [some (.iadd, 1), some (.iaload, 1), some (.invokevirtual 90, 3), none, none, some (.aload_n 0, 1), some (.getfield 28, 3), none, none, some (.aload_n 0, 1), some (.getfield 50, 3), none, none, some (.bipush 6, 2), none, some (.iadd, 1)], [some (.iload_n 2, 1), some (.iastore, 1), some (.aload_n 0, 1), some (.iload_n 1, 1), some (.i2l, 1), some (.invokevirtual 56, 3), none, none, some (.goto 31, 3), none, none, some (.aload_n 0, 1), some (.getfield 28, 3), none, none, some (.aload_n 0, 1)], [some (.getfield 32, 3), none, none, some (.bipush 12, 2), none, some (.iadd, 1), some (.iaload, 1), some (.ifCond .eq 11, 3), none, none, some (.aload_n 0, 1), some (.iload_n 1, 1), some (.invokevirtual 475, 3), none, none, some (.goto 8, 3)], [none, none, some (.aload_n 0, 1), some (.iload_n 1, 1), some (.invokevirtual 490, 3), none, none, some (.return_, 1)]]
def zt_422 : Nat → Option (Instr × Nat) := fun k => zlook 16 ztL_422 k
def zm_422 : zMe := (yX12_thrown, cX12_thrown, 5, none, 0, 12, 1, fun k => cond (Nat.blt k 200) (zt_422 k) none)
def ztL_467 : List (List (Option (Instr × Nat))) := [[some (.aload_n 0, 1), some (.iload_n 1, 1), some (.invokevirtual 685, 3), none, none, some (.ifCond .eq 12, 3), none, none, some (.iload_n 2, 1), some (.iconst 0, 1), some (.iconst 2, 1), some (.invokestatic 599, 3), none, none, some (.ifCond .ne 6, 3)], [none, some (.bipush (-2), 2), none, some (.ireturn, 1), some (.aload_n 0, 1), some (.getfield 28, 3), none, none, some (.ldc_w 525, 3), none, none, some (.iload_n 1, 1), some (.imul, 1), some (.bipush 19, 2), none, some (.iadd, 1)], [some (.iload_n 2, 1), some (.iadd, 1), some (.iaload, 1), some (.ireturn, 1)]]
def zt_467 : Nat → Option (Instr × Nat) := fun k => zlook 16 ztL_467 k
def zm_467 : zMe := (yX12_thrown_, cX12_thrown_, 3, (some .int), 2, 12, 1, fun k => cond (Nat.blt k 36) (zt_467 k) none)
def ztL_304 : List (List (Option (Instr × Nat))) := [[some (.aload_n 0, 1), some (.getfield 28, 3), none, none, some (.aload_n 0, 1), some (.getfield 50, 3), none, none, some (.iconst 2, 1), some (.iadd, 1), some (.iaload, 1), some (.ireturn, 1)]]
def zt_304 : Nat → Option (Instr × Nat) := fun k => zlook 16 ztL_304 k
def zm_304 : zMe := (yX12_depth, cX12_depth, 1, (some .int), 0, 12, 1, fun k => cond (Nat.blt k 12) (zt_304 k) none)
def ztL_468 : List (List (Option (Instr × Nat))) := [[some (.aload_n 0, 1), some (.iload_n 1, 1), some (.invokevirtual 685, 3), none, none, some (.ifCond .eq 21, 3), none, none, some (.iload_n 2, 1), some (.iconst 0, 1), some (.iconst 3, 1), some (.invokestatic 599, 3), none, none, some (.ifCond .eq 12, 3)], [none, some (.iload_n 3, 1), some (.iconst 0, 1), some (.iconst 5, 1), some (.invokestatic 599, 3), none, none, some (.ifCond .ne 6, 3), none, none, some (.bipush (-2), 2), none, some (.ireturn, 1), some (.aload_n 0, 1), some (.iload_n 1, 1), some (.invokevirtual 526, 3)], [none, none, some (.aload_n 0, 1), some (.getfield 28, 3), none, none, some (.aload_n 0, 1), some (.iload_n 2, 1), some (.invokevirtual 463, 3), none, none, some (.iconst 2, 1), some (.iadd, 1), some (.iload_n 3, 1), some (.iadd, 1), some (.iaload, 1)], [some (.ireturn, 1)]]
def zt_468 : Nat → Option (Instr × Nat) := fun k => zlook 16 ztL_468 k
def zm_468 : zMe := (yX12_depth_, cX12_depth_, 4, (some .int), 3, 12, 1, fun k => cond (Nat.blt k 49) (zt_468 k) none)
def ztL_469 : List (List (Option (Instr × Nat))) := [[some (.aload_n 0, 1), some (.iload_n 1, 1), some (.invokevirtual 685, 3), none, none, some (.ifCond .eq 26, 3), none, none, some (.iload_n 2, 1), some (.iconst 0, 1), some (.iconst 3, 1), some (.invokestatic 599, 3), none, none, some (.ifCond .eq 17, 3)], [none, some (.iload_n 3, 1), some (.iconst 0, 1), some (.iconst 5, 1), some (.invokestatic 599, 3), none, none, some (.ifCond .eq 8, 3), none, none, some (.iload_n 3, 1), some (.iconst 4, 1), some (.if_icmp .ne 6, 3), none, none, some (.bipush (-2), 2)], [none, some (.ireturn, 1), some (.aload_n 0, 1), some (.iload_n 1, 1), some (.invokevirtual 526, 3), none, none, some (.aload_n 0, 1), some (.iload_n 2, 1), some (.invokevirtual 463, 3), none, none, some (.istore 5, 2), none, some (.aload_n 0, 1), some (.getfield 28, 3)], [none, none, some (.iload 5, 2), none, some (.iconst 2, 1), some (.iadd, 1), some (.iload_n 3, 1), some (.iadd, 1), some (.iaload, 1), some (.iload_n 3, 1), some (.iconst 2, 1), some (.if_icmp .ne 7, 3), none, none, some (.iconst 2, 1), some (.goto 4, 3)], [none, none, some (.iconst 1, 1), some (.imul, 1), some (.istore 6, 2), none, some (.iload 4, 2), none, some (.iconst 0, 1), some (.iload 6, 2), none, some (.iconst 1, 1), some (.isub, 1), some (.invokestatic 599, 3)], [some (.ifCond .ne 5, 3), none, none, some (.iconst 0, 1), some (.ireturn, 1), some (.iload_n 3, 1), some (.tableswitch 112 0 3 #[30, 49, 68, 97], 30)], [], [none, none, none, none, some (.aload_n 0, 1), some (.getfield 28, 3), none, none, some (.iload 5, 2), none, some (.bipush 20, 2), none, some (.iadd, 1), some (.iload 6, 2), none, some (.iadd, 1)], [some (.iconst 1, 1), some (.isub, 1), some (.iload 4, 2), none, some (.isub, 1), some (.iaload, 1), some (.ireturn, 1), some (.aload_n 0, 1), some (.getfield 28, 3), none, none, some (.iload 5, 2), none, some (.bipush 84, 2), none, some (.iadd, 1)], [some (.iload 6, 2), none, some (.iadd, 1), some (.iconst 1, 1), some (.isub, 1), some (.iload 4, 2), none, some (.isub, 1), some (.iaload, 1), some (.ireturn, 1), some (.aload_n 0, 1), some (.getfield 28, 3), none, none, some (.iload 5, 2)], [some (.sipush 148, 3), none, none, some (.iadd, 1), some (.iload 6, 2), none, some (.iadd, 1), some (.iconst 2, 1), some (.isub, 1), some (.iload 4, 2), none, some (.iconst 2, 1), some (.idiv, 1), some (.iconst 2, 1), some (.imul, 1), some (.isub, 1)], [some (.iload 4, 2), none, some (.iconst 2, 1), some (.irem, 1), some (.iadd, 1), some (.iaload, 1), some (.ireturn, 1), some (.aload_n 0, 1), some (.getfield 28, 3), none, none, some (.iload 5, 2), none, some (.sipush 180, 3)], [some (.iadd, 1), some (.iload 4, 2), none, some (.iadd, 1), some (.iaload, 1), some (.ireturn, 1), some (.aload_n 0, 1), some (.getfield 28, 3), none, none, some (.iload 5, 2), none, some (.sipush 244, 3), none, none, some (.iadd, 1)], [some (.iload 4, 2), none, some (.iadd, 1), some (.iaload, 1), some (.ireturn, 1)]]
def zt_469 : Nat → Option (Instr × Nat) := fun k => zlook 16 ztL_469 k
def zm_469 : zMe := (yX12_cell, cX12_cell, 7, (some .int), 4, 12, 1, fun k => cond (Nat.blt k 213) (zt_469 k) none)
def ztL_470 : List (List (Option (Instr × Nat))) := [[some (.aload_n 0, 1), some (.iload_n 1, 1), some (.invokevirtual 685, 3), none, none, some (.ifCond .eq 12, 3), none, none, some (.iload_n 2, 1), some (.iconst 0, 1), some (.iconst 3, 1), some (.invokestatic 599, 3), none, none, some (.ifCond .ne 6, 3)], [none, some (.bipush (-2), 2), none, some (.ireturn, 1), some (.aload_n 0, 1), some (.iload_n 1, 1), some (.invokevirtual 526, 3), none, none, some (.aload_n 0, 1), some (.getfield 28, 3), none, none, some (.aload_n 0, 1), some (.iload_n 2, 1), some (.invokevirtual 463, 3)], [none, none, some (.iaload, 1), some (.bipush 16, 2), none, some (.aload_n 0, 1), some (.getfield 28, 3), none, none, some (.aload_n 0, 1), some (.iload_n 2, 1), some (.invokevirtual 463, 3), none, none, some (.iconst 1, 1), some (.iadd, 1)], [some (.iaload, 1), some (.imul, 1), some (.isub, 1), some (.ireturn, 1)]]
def zt_470 : Nat → Option (Instr × Nat) := fun k => zlook 16 ztL_470 k
def zm_470 : zMe := (yX12_task, cX12_task, 3, (some .int), 2, 12, 1, fun k => cond (Nat.blt k 52) (zt_470 k) none)
def ztL_471 : List (List (Option (Instr × Nat))) := [[some (.aload_n 0, 1), some (.iload_n 1, 1), some (.invokevirtual 685, 3), none, none, some (.ifCond .eq 12, 3), none, none, some (.iload_n 3, 1), some (.iconst 0, 1), some (.iconst 1, 1), some (.invokestatic 599, 3), none, none, some (.ifCond .ne 6, 3)], [none, some (.bipush (-2), 2), none, some (.ireturn, 1), some (.aload_n 0, 1), some (.iload_n 1, 1), some (.invokevirtual 526, 3), none, none, some (.aload_n 0, 1), some (.iload_n 2, 1), some (.i2l, 1), some (.iload_n 3, 1), some (.iconst 1, 1), some (.if_icmp .ne 7, 3)], [none, some (.lconst 1, 1), some (.goto 8, 3), none, none, some (.aload_n 0, 1), some (.getfield 1, 3), none, none, some (.i2l, 1), some (.invokevirtual 21, 3), none, none, some (.ifCond .ne 6, 3)], [some (.bipush (-2), 2), none, some (.ireturn, 1), some (.iload_n 3, 1), some (.iconst 1, 1), some (.if_icmp .ne 12, 3), none, none, some (.aload_n 0, 1), some (.iload_n 2, 1), some (.i2l, 1), some (.invokevirtual 35, 3), none, none, some (.goto 9, 3)], [none, some (.aload_n 0, 1), some (.iload_n 2, 1), some (.i2l, 1), some (.invokevirtual 75, 3), none, none, some (.ireturn, 1)]]
def zt_471 : Nat → Option (Instr × Nat) := fun k => zlook 16 ztL_471 k
def zm_471 : zMe := (yX12_fetch, cX12_fetch, 4, (some .int), 3, 12, 1, fun k => cond (Nat.blt k 72) (zt_471 k) none)
def ztL_472 : List (List (Option (Instr × Nat))) := [[some (.aload_n 0, 1), some (.invokevirtual 682, 3), none, none, some (.aload_n 0, 1), some (.iload_n 1, 1), some (.invokevirtual 685, 3), none, none, some (.ifCond .ne 6, 3), none, none, some (.bipush (-2), 2), none, some (.ireturn, 1), some (.aload_n 0, 1)], [some (.iload_n 1, 1), some (.invokevirtual 526, 3), none, none, some (.aload_n 0, 1), some (.invokevirtual 276, 3), none, none, some (.ireturn, 1)]]
def zt_472 : Nat → Option (Instr × Nat) := fun k => zlook 16 ztL_472 k
def zm_472 : zMe := (yX12_find, cX12_find, 2, (some .int), 1, 12, 1, fun k => cond (Nat.blt k 25) (zt_472 k) none)
def zw_q1 : List Cond := [.selects RX12 yX12_depth yX12_depth, .selects RX12 yX12_type yX12_type, .selects RX12 yX12_thrown yX12_thrown, .initialized RX12, .instanceMethod yX12_init, .code yX12_init cX12_init 1 none, .instanceMethod yX12_type_, .selects RX12 yX12_type_ yX12_type_, .code yX12_type_ cX12_type_ 5 (some .int), .instanceMethod yX12_wipe, .selects RX12 yX12_wipe yX12_wipe, .code yX12_wipe cX12_wipe 2 (some .int), .instanceMethod yX12_system, .selects RX12 yX12_system yX12_system, .code yX12_system cX12_system 8 (some .int), .instanceMethod yX12_evaluate, .selects RX12 yX12_evaluate yX12_evaluate, .code yX12_evaluate cX12_evaluate 4 (some .int), .instanceMethod yX12_depth, .code yX12_depth cX12_depth 1 (some .int), .instanceMethod yX12_type, .code yX12_type cX12_type 6 none, .instanceMethod yX12_thrown, .code yX12_thrown cX12_thrown 5 none, .instanceMethod yX12_go, .selects RX12 yX12_go yX12_go, .code yX12_go cX12_go 3 (some .int), .instanceMethod yX12_out, .selects RX12 yX12_out yX12_out, .code yX12_out cX12_out 3 (some .int), .instanceMethod yX12_count, .selects RX12 yX12_count yX12_count, .code yX12_count cX12_count 3 (some .int), .instanceMethod yX12_thrown_, .selects RX12 yX12_thrown_ yX12_thrown_, .code yX12_thrown_ cX12_thrown_ 3 (some .int), .instanceMethod yX12_depth_, .selects RX12 yX12_depth_ yX12_depth_, .code yX12_depth_ cX12_depth_ 4 (some .int), .instanceMethod yX12_cell, .selects RX12 yX12_cell yX12_cell, .code yX12_cell cX12_cell 7 (some .int), .instanceMethod yX12_task, .selects RX12 yX12_task yX12_task, .code yX12_task cX12_task 3 (some .int), .instanceMethod yX12_fetch, .selects RX12 yX12_fetch yX12_fetch, .code yX12_fetch cX12_fetch 4 (some .int), .instanceMethod yX12_find, .selects RX12 yX12_find yX12_find, .code yX12_find cX12_find 2 (some .int)]
set_option maxRecDepth 100000 in
theorem zw_q1_ok : ∀ w ∈ zw_q1, w ∈ zW := zw_gen _ [111, 155, 228, 279, 2240, 2241, 2351, 2352, 2353, 2358, 2359, 2360, 2362, 2363, 2364, 2393, 2394, 2395, 2432, 2433, 2623, 2624, 2927, 2928, 2999, 3000, 3001, 3003, 3004, 3005, 3007, 3008, 3009, 3011, 3012, 3013, 3015, 3016, 3017, 3019, 3020, 3021, 3023, 3024, 3025, 3027, 3028, 3029, 3031, 3032, 3033] rfl (by decide +kernel)
set_option maxRecDepth 100000 in
theorem zm_455_ok : zOK zm_455 := ⟨zw_q1_ok _ (List.mem_of_getElem? (i := 5) rfl), zw_q1_ok _ (List.mem_of_getElem? (i := 3) rfl), ⟨by decide +kernel, by decide +kernel, by decide +kernel⟩, by decide +kernel, Nat.le_of_ble_eq_true rfl, ⟨Nat.le_of_ble_eq_true rfl, rfl⟩, fun h => absurd h (by decide +kernel), fun h => absurd h (by decide +kernel), fun _ => ⟨zw_q1_ok _ (List.mem_of_getElem? (i := 4) rfl), rfl, rfl⟩, zdecF cX12_init zt_455 [42, 183, 2, 152, 42, 19, 2, 157, 188, 10, 181, 0, 28, 42, 17, 4, 0, 188, 8, 181, 2, 158, 42, 17, 15, 160, 188, 10, 181, 2, 122, 42, 17, 0, 172, 188, 10, 89, 3, 16, 12, 79, 89, 4, 16, 10, 79, 89, 5, 16, 22, 79, 89, 6, 16, 23, 79, 89, 7, 16, 33, 79, 89, 8, 16, 33, 79, 89, 16, 6, 16, 21, 79, 89, 16, 7, 16, 23, 79, 89, 16, 8, 16, 99, 79, 89, 16, 9, 16, 24, 79, 89, 16, 10, 16, 20, 79, 89, 16, 11, 16, 44, 79, 89, 16, 12, 16, 46, 79, 89, 16, 13, 16, 99, 79, 89, 16, 14, 16, 99, 79, 89, 16, 15, 4, 79, 89, 16, 16, 16, 10, 79, 89, 16, 17, 4, 79, 89, 16, 18, 4, 79, 89, 16, 19, 16, 20, 79, 89, 16, 20, 5, 79, 89, 16, 21, 16, 21, 79, 89, 16, 22, 16, 21, 79, 89, 16, 23, 16, 21, 79, 89, 16, 24, 16, 21, 79, 89, 16, 25, 16, 21, 79, 89, 16, 26, 16, 22, 79, 89, 16, 27, 16, 31, 79, 89, 16, 28, 16, 32, 79, 89, 16, 29, 16, 11, 79, 89, 16, 30, 16, 11, 79, 89, 16, 31, 16, 11, 79, 89, 16, 32, 16, 11, 79, 89, 16, 33, 16, 11, 79, 89, 16, 34, 16, 11, 79, 89, 16, 35, 16, 21, 79, 89, 16, 36, 16, 21, 79, 89, 16, 37, 16, 22, 79, 89, 16, 38, 16, 32, 79, 89, 16, 39, 16, 22, 79, 89, 16, 40, 16, 32, 79, 89, 16, 41, 16, 32, 79, 89, 16, 42, 16, 12, 79, 89, 16, 43, 16, 42, 79, 89, 16, 44, 16, 22, 79, 89, 16, 45, 16, 21, 79, 89, 16, 46, 16, 21, 79, 89, 16, 47, 16, 21, 79, 89, 16, 48, 16, 21, 79, 89, 16, 49, 16, 21, 79, 89, 16, 50, 16, 11, 79, 89, 16, 51, 16, 11, 79, 89, 16, 52, 16, 11, 79, 89, 16, 53, 16, 11, 79, 89, 16, 54, 16, 21, 79, 89, 16, 55, 16, 21, 79, 89, 16, 56, 16, 21, 79, 89, 16, 57, 16, 11, 79, 89, 16, 58, 16, 21, 79, 89, 16, 59, 16, 21, 79, 89, 16, 60, 16, 31, 79, 89, 16, 61, 4, 79, 89, 16, 62, 4, 79, 89, 16, 63, 16, 20, 79, 89, 16, 64, 16, 11, 79, 89, 16, 65, 16, 20, 79, 89, 16, 66, 16, 11, 79, 89, 16, 67, 16, 20, 79, 89, 16, 68, 16, 30, 79, 89, 16, 69, 16, 12, 79, 89, 16, 70, 4, 79, 89, 16, 71, 16, 10, 79, 89, 16, 72, 16, 10, 79, 89, 16, 73, 16, 10, 79, 89, 16, 74, 3, 79, 89, 16, 75, 16, 11, 79, 89, 16, 76, 16, 11, 79, 89, 16, 77, 16, 11, 79, 89, 16, 78, 16, 11, 79, 89, 16, 79, 16, 11, 79, 89, 16, 80, 16, 30, 79, 89, 16, 81, 16, 30, 79, 89, 16, 82, 16, 12, 79, 89, 16, 83, 16, 10, 79, 89, 16, 84, 16, 10, 79, 89, 16, 85, 16, 10, 79, 89, 16, 86, 3, 79, 89, 16, 87, 3, 79, 89, 16, 88, 16, 10, 79, 89, 16, 89, 16, 20, 79, 89, 16, 90, 3, 79, 89, 16, 91, 16, 22, 79, 89, 16, 92, 16, 22, 79, 89, 16, 93, 16, 22, 79, 89, 16, 94, 16, 10, 79, 89, 16, 95, 16, 10, 79, 89, 16, 96, 4, 79, 89, 16, 97, 3, 79, 89, 16, 98, 3, 79, 89, 16, 99, 4, 79, 89, 16, 100, 16, 99, 79, 89, 16, 101, 16, 99, 79, 89, 16, 102, 16, 99, 79, 89, 16, 103, 16, 99, 79, 89, 16, 104, 16, 99, 79, 89, 16, 105, 16, 99, 79, 89, 16, 106, 16, 99, 79, 89, 16, 107, 16, 99, 79, 89, 16, 108, 16, 99, 79, 89, 16, 109, 16, 99, 79, 89, 16, 110, 16, 99, 79, 89, 16, 111, 16, 99, 79, 89, 16, 112, 16, 99, 79, 89, 16, 113, 16, 99, 79, 89, 16, 114, 16, 99, 79, 89, 16, 115, 16, 99, 79, 89, 16, 116, 16, 99, 79, 89, 16, 117, 16, 99, 79, 89, 16, 118, 16, 99, 79, 89, 16, 119, 16, 99, 79, 89, 16, 120, 16, 99, 79, 89, 16, 121, 16, 99, 79, 89, 16, 122, 16, 99, 79, 89, 16, 123, 16, 11, 79, 89, 16, 124, 16, 99, 79, 89, 16, 125, 16, 99, 79, 89, 16, 126, 16, 99, 79, 89, 16, 127, 16, 99, 79, 89, 17, 0, 128, 16, 99, 79, 89, 17, 0, 129, 16, 99, 79, 89, 17, 0, 130, 16, 99, 79, 89, 17, 0, 131, 16, 99, 79, 89, 17, 0, 132, 16, 99, 79, 89, 17, 0, 133, 16, 99, 79, 89, 17, 0, 134, 16, 99, 79, 89, 17, 0, 135, 16, 99, 79, 89, 17, 0, 136, 16, 99, 79, 89, 17, 0, 137, 16, 99, 79, 89, 17, 0, 138, 16, 99, 79, 89, 17, 0, 139, 16, 99, 79, 89, 17, 0, 140, 16, 99, 79, 89, 17, 0, 141, 16, 99, 79, 89, 17, 0, 142, 16, 99, 79, 89, 17, 0, 143, 16, 99, 79, 89, 17, 0, 144, 16, 99, 79, 89, 17, 0, 145, 16, 99, 79, 89, 17, 0, 146, 16, 99, 79, 89, 17, 0, 147, 4, 79, 89, 17, 0, 148, 4, 79, 89, 17, 0, 149, 3, 79, 89, 17, 0, 150, 3, 79, 89, 17, 0, 151, 16, 99, 79, 89, 17, 0, 152, 16, 99, 79, 89, 17, 0, 153, 16, 99, 79, 89, 17, 0, 154, 16, 99, 79, 89, 17, 0, 155, 16, 99, 79, 89, 17, 0, 156, 16, 10, 79, 89, 17, 0, 157, 3, 79, 89, 17, 0, 158, 4, 79, 89, 17, 0, 159, 16, 10, 79, 89, 17, 0, 160, 3, 79, 89, 17, 0, 161, 3, 79, 89, 17, 0, 162, 3, 79, 89, 17, 0, 163, 16, 11, 79, 89, 17, 0, 164, 3, 79, 89, 17, 0, 165, 3, 79, 89, 17, 0, 166, 16, 21, 79, 89, 17, 0, 167, 4, 79, 89, 17, 0, 168, 16, 99, 79, 89, 17, 0, 169, 16, 99, 79, 89, 17, 0, 170, 16, 99, 79, 89, 17, 0, 171, 16, 99, 79, 181, 0, 242, 42, 17, 16, 4, 188, 10, 181, 0, 101, 42, 17, 46, 224, 188, 10, 181, 2, 38, 42, 17, 15, 160, 188, 10, 181, 2, 35, 42, 17, 15, 161, 188, 4, 181, 2, 83, 42, 17, 7, 210, 188, 10, 181, 2, 128, 42, 17, 1, 104, 188, 10, 181, 2, 110, 42, 17, 1, 104, 188, 10, 181, 2, 113, 177] 1147 (by decide +kernel) (Nat.le_of_ble_eq_true rfl) (by decide +kernel)⟩
set_option maxRecDepth 100000 in
theorem zm_365_ok : zOK zm_365 := ⟨zw_q1_ok _ (List.mem_of_getElem? (i := 21) rfl), zw_q1_ok _ (List.mem_of_getElem? (i := 3) rfl), ⟨by decide +kernel, by decide +kernel, by decide +kernel⟩, by decide +kernel, Nat.le_of_ble_eq_true rfl, ⟨Nat.le_of_ble_eq_true rfl, rfl⟩, fun h => absurd h (by decide +kernel), fun _ => ⟨zw_q1_ok _ (List.mem_of_getElem? (i := 20) rfl), zw_q1_ok _ (List.mem_of_getElem? (i := 1) rfl)⟩, fun h => absurd h (by decide +kernel), zdecF cX12_type zt_365 [32, 9, 148, 158, 0, 47, 42, 27, 32, 182, 0, 197, 153, 0, 38, 9, 55, 4, 22, 4, 32, 148, 156, 0, 28, 42, 42, 42, 27, 182, 0, 17, 22, 4, 97, 182, 0, 35, 182, 0, 226, 22, 4, 10, 97, 55, 4, 167, 255, 227, 177] 51 (by decide +kernel) (Nat.le_of_ble_eq_true rfl) (by decide +kernel)⟩
set_option maxRecDepth 100000 in
theorem zm_458_ok : zOK zm_458 := ⟨zw_q1_ok _ (List.mem_of_getElem? (i := 8) rfl), zw_q1_ok _ (List.mem_of_getElem? (i := 3) rfl), ⟨by decide +kernel, by decide +kernel, by decide +kernel⟩, by decide +kernel, Nat.le_of_ble_eq_true rfl, ⟨Nat.le_of_ble_eq_true rfl, rfl⟩, fun h => absurd h (by decide +kernel), fun _ => ⟨zw_q1_ok _ (List.mem_of_getElem? (i := 6) rfl), zw_q1_ok _ (List.mem_of_getElem? (i := 7) rfl)⟩, fun h => absurd h (by decide +kernel), zdecF cX12_type_ zt_458 [29, 4, 16, 8, 184, 2, 87, 154, 0, 6, 16, 254, 172, 42, 180, 2, 162, 29, 96, 17, 4, 0, 164, 0, 6, 16, 252, 172, 3, 54, 4, 21, 4, 29, 162, 0, 37, 42, 180, 2, 158, 42, 180, 2, 162, 31, 16, 8, 21, 4, 104, 123, 136, 145, 84, 42, 89, 180, 2, 162, 4, 96, 181, 2, 162, 132, 4, 1, 167, 255, 219, 42, 180, 2, 162, 172] 76 (by decide +kernel) (Nat.le_of_ble_eq_true rfl) (by decide +kernel)⟩
set_option maxRecDepth 100000 in
theorem zm_459_ok : zOK zm_459 := ⟨zw_q1_ok _ (List.mem_of_getElem? (i := 11) rfl), zw_q1_ok _ (List.mem_of_getElem? (i := 3) rfl), ⟨by decide +kernel, by decide +kernel, by decide +kernel⟩, by decide +kernel, Nat.le_of_ble_eq_true rfl, ⟨Nat.le_of_ble_eq_true rfl, rfl⟩, fun h => absurd h (by decide +kernel), fun _ => ⟨zw_q1_ok _ (List.mem_of_getElem? (i := 9) rfl), zw_q1_ok _ (List.mem_of_getElem? (i := 10) rfl)⟩, fun h => absurd h (by decide +kernel), zdecF cX12_wipe zt_459 [42, 180, 2, 162, 60, 42, 3, 181, 2, 162, 27, 172] 12 (by decide +kernel) (Nat.le_of_ble_eq_true rfl) (by decide +kernel)⟩
set_option maxRecDepth 100000 in
theorem zm_462_ok : zOK zm_462 := ⟨zw_q1_ok _ (List.mem_of_getElem? (i := 14) rfl), zw_q1_ok _ (List.mem_of_getElem? (i := 3) rfl), ⟨by decide +kernel, by decide +kernel, by decide +kernel⟩, by decide +kernel, Nat.le_of_ble_eq_true rfl, ⟨Nat.le_of_ble_eq_true rfl, rfl⟩, fun h => absurd h (by decide +kernel), fun _ => ⟨zw_q1_ok _ (List.mem_of_getElem? (i := 12) rfl), zw_q1_ok _ (List.mem_of_getElem? (i := 13) rfl)⟩, fun h => absurd h (by decide +kernel), zdecF cX12_system zt_462 [27, 5, 7, 184, 2, 87, 153, 0, 13, 28, 3, 16, 7, 184, 2, 87, 154, 0, 6, 16, 254, 172, 42, 182, 2, 165, 62, 29, 6, 160, 0, 6, 16, 252, 172, 42, 19, 2, 13, 29, 104, 181, 0, 32, 3, 54, 4, 21, 4, 19, 2, 13, 162, 0, 22, 42, 180, 0, 28, 42, 180, 0, 32, 21, 4, 96, 3, 79, 132, 4, 1, 167, 255, 232, 42, 180, 0, 28, 42, 180, 0, 32, 16, 35, 96, 4, 79, 42, 180, 0, 28, 42, 180, 0, 32, 4, 96, 27, 79, 42, 180, 0, 28, 42, 180, 0, 32, 5, 96, 28, 79, 42, 180, 0, 28, 42, 180, 0, 32, 6, 96, 17, 1, 0, 79, 42, 180, 0, 28, 42, 180, 0, 32, 16, 9, 96, 4, 79, 42, 180, 0, 28, 42, 180, 0, 32, 16, 10, 96, 4, 79, 42, 180, 0, 28, 42, 180, 0, 32, 16, 25, 96, 4, 79, 42, 180, 0, 28, 42, 180, 0, 32, 16, 11, 96, 4, 79, 42, 180, 0, 28, 42, 180, 0, 32, 16, 16, 96, 2, 79, 42, 180, 0, 28, 42, 180, 0, 32, 16, 33, 96, 17, 0, 128, 79, 42, 180, 0, 28, 42, 180, 0, 32, 17, 119, 228, 96, 4, 79, 42, 27, 181, 0, 1, 3, 54, 4, 21, 4, 17, 16, 0, 162, 0, 27, 42, 180, 0, 28, 42, 180, 0, 32, 17, 16, 100, 96, 21, 4, 96, 16, 32, 79, 132, 4, 1, 167, 255, 227, 3, 54, 4, 3, 54, 5, 21, 5, 17, 0, 172, 162, 0, 190, 42, 3, 181, 0, 87, 19, 2, 168, 21, 4, 182, 1, 28, 16, 32, 159, 0, 36, 42, 180, 0, 101, 42, 180, 0, 87, 19, 2, 168, 21, 4, 182, 1, 28, 79, 42, 89, 180, 0, 87, 4, 96, 181, 0, 87, 132, 4, 1, 167, 255, 213, 132, 4, 1, 42, 3, 4, 182, 0, 128, 54, 6, 21, 5, 17, 0, 133, 161, 0, 27, 21, 5, 17, 0, 154, 163, 0, 19, 21, 5, 17, 0, 147, 161, 0, 68, 21, 5, 17, 0, 150, 163, 0, 60, 21, 5, 16, 101, 159, 0, 53, 21, 5, 16, 111, 159, 0, 46, 21, 5, 16, 113, 159, 0, 39, 21, 5, 16, 114, 159, 0, 32, 21, 5, 16, 116, 161, 0, 10, 21, 5, 16, 121, 164, 0, 18, 21, 5, 16, 125, 161, 0, 15, 21, 5, 17, 0, 132, 163, 0, 7, 4, 167, 0, 4, 3, 54, 7, 42, 180, 0, 28, 42, 21, 5, 182, 0, 107, 5, 96, 21, 7, 153, 0, 7, 4, 167, 0, 4, 3, 79, 132, 5, 1, 167, 255, 64, 42, 180, 0, 28, 42, 180, 0, 32, 16, 16, 96, 2, 79, 42, 9, 16, 10, 182, 0, 90, 29, 172] 482 (by decide +kernel) (Nat.le_of_ble_eq_true rfl) (by decide +kernel)⟩
set_option maxRecDepth 100000 in
theorem zm_463_ok : zOK zm_463 := ⟨zw_q1_ok _ (List.mem_of_getElem? (i := 17) rfl), zw_q1_ok _ (List.mem_of_getElem? (i := 3) rfl), ⟨by decide +kernel, by decide +kernel, by decide +kernel⟩, by decide +kernel, Nat.le_of_ble_eq_true rfl, ⟨Nat.le_of_ble_eq_true rfl, rfl⟩, fun h => absurd h (by decide +kernel), fun _ => ⟨zw_q1_ok _ (List.mem_of_getElem? (i := 15) rfl), zw_q1_ok _ (List.mem_of_getElem? (i := 16) rfl)⟩, fun h => absurd h (by decide +kernel), zdecF cX12_evaluate zt_463 [42, 182, 2, 170, 42, 27, 182, 2, 173, 153, 0, 14, 28, 4, 17, 78, 32, 184, 2, 87, 154, 0, 6, 16, 254, 172, 42, 27, 182, 2, 14, 42, 180, 0, 28, 42, 180, 0, 32, 16, 15, 96, 46, 4, 160, 0, 6, 16, 253, 172, 3, 62, 29, 42, 180, 0, 87, 162, 0, 29, 42, 180, 0, 28, 42, 180, 0, 32, 18, 72, 96, 29, 96, 42, 180, 0, 101, 29, 46, 79, 132, 3, 1, 167, 255, 225, 42, 180, 0, 28, 42, 180, 0, 32, 16, 34, 96, 42, 180, 0, 87, 79, 42, 180, 0, 28, 42, 180, 0, 32, 16, 15, 96, 4, 79, 42, 20, 0, 73, 3, 182, 0, 90, 42, 27, 28, 182, 2, 176, 172] 130 (by decide +kernel) (Nat.le_of_ble_eq_true rfl) (by decide +kernel)⟩
set_option maxRecDepth 100000 in
theorem zm_464_ok : zOK zm_464 := ⟨zw_q1_ok _ (List.mem_of_getElem? (i := 26) rfl), zw_q1_ok _ (List.mem_of_getElem? (i := 3) rfl), ⟨by decide +kernel, by decide +kernel, by decide +kernel⟩, by decide +kernel, Nat.le_of_ble_eq_true rfl, ⟨Nat.le_of_ble_eq_true rfl, rfl⟩, fun h => absurd h (by decide +kernel), fun _ => ⟨zw_q1_ok _ (List.mem_of_getElem? (i := 24) rfl), zw_q1_ok _ (List.mem_of_getElem? (i := 25) rfl)⟩, fun h => absurd h (by decide +kernel), zdecF cX12_go zt_464 [42, 27, 182, 2, 173, 153, 0, 14, 28, 4, 17, 78, 32, 184, 2, 87, 154, 0, 6, 16, 254, 172, 42, 180, 0, 28, 19, 2, 13, 27, 104, 16, 15, 96, 46, 154, 0, 8, 16, 253, 167, 0, 9, 42, 27, 28, 182, 2, 176, 172] 50 (by decide +kernel) (Nat.le_of_ble_eq_true rfl) (by decide +kernel)⟩
set_option maxRecDepth 100000 in
theorem zm_465_ok : zOK zm_465 := ⟨zw_q1_ok _ (List.mem_of_getElem? (i := 29) rfl), zw_q1_ok _ (List.mem_of_getElem? (i := 3) rfl), ⟨by decide +kernel, by decide +kernel, by decide +kernel⟩, by decide +kernel, Nat.le_of_ble_eq_true rfl, ⟨Nat.le_of_ble_eq_true rfl, rfl⟩, fun h => absurd h (by decide +kernel), fun _ => ⟨zw_q1_ok _ (List.mem_of_getElem? (i := 27) rfl), zw_q1_ok _ (List.mem_of_getElem? (i := 28) rfl)⟩, fun h => absurd h (by decide +kernel), zdecF cX12_out zt_465 [42, 27, 182, 2, 173, 154, 0, 6, 16, 254, 172, 28, 155, 0, 45, 28, 17, 11, 184, 162, 0, 38, 28, 42, 180, 0, 28, 19, 2, 13, 27, 104, 16, 6, 96, 46, 162, 0, 21, 42, 180, 0, 28, 19, 2, 13, 27, 104, 18, 70, 96, 28, 96, 46, 167, 0, 4, 2, 172] 59 (by decide +kernel) (Nat.le_of_ble_eq_true rfl) (by decide +kernel)⟩
set_option maxRecDepth 100000 in
theorem zm_466_ok : zOK zm_466 := ⟨zw_q1_ok _ (List.mem_of_getElem? (i := 32) rfl), zw_q1_ok _ (List.mem_of_getElem? (i := 3) rfl), ⟨by decide +kernel, by decide +kernel, by decide +kernel⟩, by decide +kernel, Nat.le_of_ble_eq_true rfl, ⟨Nat.le_of_ble_eq_true rfl, rfl⟩, fun h => absurd h (by decide +kernel), fun _ => ⟨zw_q1_ok _ (List.mem_of_getElem? (i := 30) rfl), zw_q1_ok _ (List.mem_of_getElem? (i := 31) rfl)⟩, fun h => absurd h (by decide +kernel), zdecF cX12_count zt_466 [42, 27, 182, 2, 173, 153, 0, 13, 28, 3, 16, 15, 184, 2, 87, 154, 0, 6, 16, 254, 172, 42, 27, 182, 2, 14, 28, 170, 0, 0, 1, 9, 0, 0, 0, 0, 0, 0, 0, 14, 0, 0, 0, 73, 0, 0, 0, 85, 0, 0, 0, 97, 0, 0, 0, 109, 0, 0, 0, 122, 0, 0, 0, 135, 0, 0, 0, 148, 0, 0, 0, 161, 0, 0, 0, 174, 0, 0, 0, 187, 0, 0, 0, 200, 0, 0, 0, 213, 0, 0, 0, 226, 0, 0, 0, 239, 0, 0, 0, 252, 42, 180, 0, 28, 42, 180, 0, 32, 6, 96, 46, 172, 42, 180, 0, 28, 42, 180, 0, 32, 7, 96, 46, 172, 42, 180, 0, 28, 42, 180, 0, 32, 8, 96, 46, 172, 42, 180, 0, 28, 42, 180, 0, 32, 16, 6, 96, 46, 172, 42, 180, 0, 28, 42, 180, 0, 32, 16, 7, 96, 46, 172, 42, 180, 0, 28, 42, 180, 0, 32, 16, 8, 96, 46, 172, 42, 180, 0, 28, 42, 180, 0, 32, 16, 9, 96, 46, 172, 42, 180, 0, 28, 42, 180, 0, 32, 16, 10, 96, 46, 172, 42, 180, 0, 28, 42, 180, 0, 32, 16, 11, 96, 46, 172, 42, 180, 0, 28, 42, 180, 0, 32, 16, 12, 96, 46, 172, 42, 180, 0, 28, 42, 180, 0, 32, 16, 13, 96, 46, 172, 42, 180, 0, 28, 42, 180, 0, 32, 16, 14, 96, 46, 172, 42, 180, 0, 28, 42, 180, 0, 32, 16, 15, 96, 46, 172, 42, 180, 0, 28, 42, 180, 0, 32, 16, 16, 96, 46, 172, 42, 180, 0, 28, 42, 180, 0, 32, 16, 17, 96, 46, 172, 42, 182, 1, 179, 172] 297 (by decide +kernel) (Nat.le_of_ble_eq_true rfl) (by decide +kernel)⟩
set_option maxRecDepth 100000 in
theorem zm_422_ok : zOK zm_422 := ⟨zw_q1_ok _ (List.mem_of_getElem? (i := 23) rfl), zw_q1_ok _ (List.mem_of_getElem? (i := 3) rfl), ⟨by decide +kernel, by decide +kernel, by decide +kernel⟩, by decide +kernel, Nat.le_of_ble_eq_true rfl, ⟨Nat.le_of_ble_eq_true rfl, rfl⟩, fun h => absurd h (by decide +kernel), fun _ => ⟨zw_q1_ok _ (List.mem_of_getElem? (i := 22) rfl), zw_q1_ok _ (List.mem_of_getElem? (i := 2) rfl)⟩, fun h => absurd h (by decide +kernel), zdecF cX12_thrown zt_422 [42, 180, 0, 25, 60, 42, 3, 181, 0, 25, 42, 182, 0, 63, 4, 100, 61, 28, 155, 0, 23, 42, 180, 0, 28, 42, 28, 182, 0, 66, 46, 5, 159, 0, 9, 132, 2, 255, 167, 255, 235, 28, 155, 0, 129, 42, 28, 182, 0, 66, 62, 42, 182, 0, 53, 54, 4, 21, 4, 42, 180, 0, 28, 29, 16, 9, 96, 46, 162, 0, 25, 42, 180, 0, 28, 42, 180, 0, 50, 16, 20, 96, 21, 4, 96, 3, 79, 132, 4, 1, 167, 255, 223, 42, 180, 0, 28, 42, 180, 0, 50, 5, 96, 42, 180, 0, 28, 29, 16, 9, 96, 46, 79, 42, 29, 182, 1, 231, 42, 180, 0, 28, 42, 180, 0, 32, 16, 12, 96, 46, 154, 0, 19, 42, 20, 0, 73, 42, 180, 0, 28, 29, 16, 8, 96, 46, 182, 0, 90, 42, 180, 0, 28, 42, 180, 0, 50, 16, 6, 96, 28, 79, 42, 27, 133, 182, 0, 56, 167, 0, 31, 42, 180, 0, 28, 42, 180, 0, 32, 16, 12, 96, 46, 153, 0, 11, 42, 27, 182, 1, 219, 167, 0, 8, 42, 27, 182, 1, 234, 177] 200 (by decide +kernel) (Nat.le_of_ble_eq_true rfl) (by decide +kernel)⟩
set_option maxRecDepth 100000 in
theorem zm_467_ok : zOK zm_467 := ⟨zw_q1_ok _ (List.mem_of_getElem? (i := 35) rfl), zw_q1_ok _ (List.mem_of_getElem? (i := 3) rfl), ⟨by decide +kernel, by decide +kernel, by decide +kernel⟩, by decide +kernel, Nat.le_of_ble_eq_true rfl, ⟨Nat.le_of_ble_eq_true rfl, rfl⟩, fun h => absurd h (by decide +kernel), fun _ => ⟨zw_q1_ok _ (List.mem_of_getElem? (i := 33) rfl), zw_q1_ok _ (List.mem_of_getElem? (i := 34) rfl)⟩, fun h => absurd h (by decide +kernel), zdecF cX12_thrown_ zt_467 [42, 27, 182, 2, 173, 153, 0, 12, 28, 3, 5, 184, 2, 87, 154, 0, 6, 16, 254, 172, 42, 180, 0, 28, 19, 2, 13, 27, 104, 16, 19, 96, 28, 96, 46, 172] 36 (by decide +kernel) (Nat.le_of_ble_eq_true rfl) (by decide +kernel)⟩
set_option maxRecDepth 100000 in
theorem zm_304_ok : zOK zm_304 := ⟨zw_q1_ok _ (List.mem_of_getElem? (i := 19) rfl), zw_q1_ok _ (List.mem_of_getElem? (i := 3) rfl), ⟨by decide +kernel, by decide +kernel, by decide +kernel⟩, by decide +kernel, Nat.le_of_ble_eq_true rfl, ⟨Nat.le_of_ble_eq_true rfl, rfl⟩, fun h => absurd h (by decide +kernel), fun _ => ⟨zw_q1_ok _ (List.mem_of_getElem? (i := 18) rfl), zw_q1_ok _ (List.mem_of_getElem? (i := 0) rfl)⟩, fun h => absurd h (by decide +kernel), zdecF cX12_depth zt_304 [42, 180, 0, 28, 42, 180, 0, 50, 5, 96, 46, 172] 12 (by decide +kernel) (Nat.le_of_ble_eq_true rfl) (by decide +kernel)⟩
set_option maxRecDepth 100000 in
theorem zm_468_ok : zOK zm_468 := ⟨zw_q1_ok _ (List.mem_of_getElem? (i := 38) rfl), zw_q1_ok _ (List.mem_of_getElem? (i := 3) rfl), ⟨by decide +kernel, by decide +kernel, by decide +kernel⟩, by decide +kernel, Nat.le_of_ble_eq_true rfl, ⟨Nat.le_of_ble_eq_true rfl, rfl⟩, fun h => absurd h (by decide +kernel), fun _ => ⟨zw_q1_ok _ (List.mem_of_getElem? (i := 36) rfl), zw_q1_ok _ (List.mem_of_getElem? (i := 37) rfl)⟩, fun h => absurd h (by decide +kernel), zdecF cX12_depth_ zt_468 [42, 27, 182, 2, 173, 153, 0, 21, 28, 3, 6, 184, 2, 87, 153, 0, 12, 29, 3, 8, 184, 2, 87, 154, 0, 6, 16, 254, 172, 42, 27, 182, 2, 14, 42, 180, 0, 28, 42, 28, 182, 1, 207, 5, 96, 29, 96, 46, 172] 49 (by decide +kernel) (Nat.le_of_ble_eq_true rfl) (by decide +kernel)⟩
set_option maxRecDepth 100000 in
theorem zm_469_ok : zOK zm_469 := ⟨zw_q1_ok _ (List.mem_of_getElem? (i := 41) rfl), zw_q1_ok _ (List.mem_of_getElem? (i := 3) rfl), ⟨by decide +kernel, by decide +kernel, by decide +kernel⟩, by decide +kernel, Nat.le_of_ble_eq_true rfl, ⟨Nat.le_of_ble_eq_true rfl, rfl⟩, fun h => absurd h (by decide +kernel), fun _ => ⟨zw_q1_ok _ (List.mem_of_getElem? (i := 39) rfl), zw_q1_ok _ (List.mem_of_getElem? (i := 40) rfl)⟩, fun h => absurd h (by decide +kernel), zdecF cX12_cell zt_469 [42, 27, 182, 2, 173, 153, 0, 26, 28, 3, 6, 184, 2, 87, 153, 0, 17, 29, 3, 8, 184, 2, 87, 153, 0, 8, 29, 7, 160, 0, 6, 16, 254, 172, 42, 27, 182, 2, 14, 42, 28, 182, 1, 207, 54, 5, 42, 180, 0, 28, 21, 5, 5, 96, 29, 96, 46, 29, 5, 160, 0, 7, 5, 167, 0, 4, 4, 104, 54, 6, 21, 4, 3, 21, 6, 4, 100, 184, 2, 87, 154, 0, 5, 3, 172, 29, 170, 0, 0, 0, 0, 112, 0, 0, 0, 0, 0, 0, 0, 3, 0, 0, 0, 30, 0, 0, 0, 49, 0, 0, 0, 68, 0, 0, 0, 97, 42, 180, 0, 28, 21, 5, 16, 20, 96, 21, 6, 96, 4, 100, 21, 4, 100, 46, 172, 42, 180, 0, 28, 21, 5, 16, 84, 96, 21, 6, 96, 4, 100, 21, 4, 100, 46, 172, 42, 180, 0, 28, 21, 5, 17, 0, 148, 96, 21, 6, 96, 5, 100, 21, 4, 5, 108, 5, 104, 100, 21, 4, 5, 112, 96, 46, 172, 42, 180, 0, 28, 21, 5, 17, 0, 180, 96, 21, 4, 96, 46, 172, 42, 180, 0, 28, 21, 5, 17, 0, 244, 96, 21, 4, 96, 46, 172] 213 (by decide +kernel) (Nat.le_of_ble_eq_true rfl) (by decide +kernel)⟩
set_option maxRecDepth 100000 in
theorem zm_470_ok : zOK zm_470 := ⟨zw_q1_ok _ (List.mem_of_getElem? (i := 44) rfl), zw_q1_ok _ (List.mem_of_getElem? (i := 3) rfl), ⟨by decide +kernel, by decide +kernel, by decide +kernel⟩, by decide +kernel, Nat.le_of_ble_eq_true rfl, ⟨Nat.le_of_ble_eq_true rfl, rfl⟩, fun h => absurd h (by decide +kernel), fun _ => ⟨zw_q1_ok _ (List.mem_of_getElem? (i := 42) rfl), zw_q1_ok _ (List.mem_of_getElem? (i := 43) rfl)⟩, fun h => absurd h (by decide +kernel), zdecF cX12_task zt_470 [42, 27, 182, 2, 173, 153, 0, 12, 28, 3, 6, 184, 2, 87, 154, 0, 6, 16, 254, 172, 42, 27, 182, 2, 14, 42, 180, 0, 28, 42, 28, 182, 1, 207, 46, 16, 16, 42, 180, 0, 28, 42, 28, 182, 1, 207, 4, 96, 46, 104, 100, 172] 52 (by decide +kernel) (Nat.le_of_ble_eq_true rfl) (by decide +kernel)⟩
set_option maxRecDepth 100000 in
theorem zm_471_ok : zOK zm_471 := ⟨zw_q1_ok _ (List.mem_of_getElem? (i := 47) rfl), zw_q1_ok _ (List.mem_of_getElem? (i := 3) rfl), ⟨by decide +kernel, by decide +kernel, by decide +kernel⟩, by decide +kernel, Nat.le_of_ble_eq_true rfl, ⟨Nat.le_of_ble_eq_true rfl, rfl⟩, fun h => absurd h (by decide +kernel), fun _ => ⟨zw_q1_ok _ (List.mem_of_getElem? (i := 45) rfl), zw_q1_ok _ (List.mem_of_getElem? (i := 46) rfl)⟩, fun h => absurd h (by decide +kernel), zdecF cX12_fetch zt_471 [42, 27, 182, 2, 173, 153, 0, 12, 29, 3, 4, 184, 2, 87, 154, 0, 6, 16, 254, 172, 42, 27, 182, 2, 14, 42, 28, 133, 29, 4, 160, 0, 7, 10, 167, 0, 8, 42, 180, 0, 1, 133, 182, 0, 21, 154, 0, 6, 16, 254, 172, 29, 4, 160, 0, 12, 42, 28, 133, 182, 0, 35, 167, 0, 9, 42, 28, 133, 182, 0, 75, 172] 72 (by decide +kernel) (Nat.le_of_ble_eq_true rfl) (by decide +kernel)⟩
set_option maxRecDepth 100000 in
theorem zm_472_ok : zOK zm_472 := ⟨zw_q1_ok _ (List.mem_of_getElem? (i := 50) rfl), zw_q1_ok _ (List.mem_of_getElem? (i := 3) rfl), ⟨by decide +kernel, by decide +kernel, by decide +kernel⟩, by decide +kernel, Nat.le_of_ble_eq_true rfl, ⟨Nat.le_of_ble_eq_true rfl, rfl⟩, fun h => absurd h (by decide +kernel), fun _ => ⟨zw_q1_ok _ (List.mem_of_getElem? (i := 48) rfl), zw_q1_ok _ (List.mem_of_getElem? (i := 49) rfl)⟩, fun h => absurd h (by decide +kernel), zdecF cX12_find zt_472 [42, 182, 2, 170, 42, 27, 182, 2, 173, 154, 0, 6, 16, 254, 172, 42, 27, 182, 2, 14, 42, 182, 1, 20, 172] 25 (by decide +kernel) (Nat.le_of_ble_eq_true rfl) (by decide +kernel)⟩
end
section
def ztL_322 : List (List (Option (Instr × Nat))) := [[some (.aload_n 0, 1), some (.invokevirtual 78, 3), none, none, some (.istore_n 1, 1), some (.aload_n 0, 1), some (.iload_n 1, 1), some (.invokevirtual 81, 3), none, none, some (.istore_n 2, 1), some (.aload_n 0, 1), some (.invokevirtual 84, 3), none, none, some (.lstore_n 3, 1)], [some (.aload_n 0, 1), some (.iconst 0, 1), some (.putfield 87, 3), none, none, some (.iload_n 1, 1), some (.iconst (-1), 1), some (.if_icmp .eq 18, 3), none, none, some (.lload_n 3, 1), some (.iload_n 2, 1), some (.i2l, 1), some (.lcmp, 1), some (.ifCond .lt 11, 3)], [none, some (.aload_n 0, 1), some (.ldc2_w 73, 3), none, none, some (.iload_n 2, 1), some (.invokevirtual 90, 3), none, none, some (.iload_n 1, 1), some (.iconst (-1), 1), some (.if_icmp .eq 10, 3), none, none, some (.lload_n 3, 1), some (.iload_n 2, 1)], [some (.i2l, 1), some (.lcmp, 1), some (.ifCond .lt 5, 3), none, none, some (.iconst 0, 1), some (.ireturn, 1), some (.lload_n 3, 1), some (.l2i, 1), some (.istore 5, 2), none, some (.iload 5, 2), none, some (.iload_n 2, 1), some (.if_icmp .ge 22, 3)], [none, some (.aload_n 0, 1), some (.iload_n 1, 1), some (.iload 5, 2), none, some (.invokevirtual 93, 3), none, none, some (.invokestatic 97, 3), none, none, some (.ifCond .eq 9, 3), none, none, some (.iinc 5 1, 3)], [none, some (.goto (-22), 3), none, none, some (.iload 5, 2), none, some (.iload_n 2, 1), some (.if_icmp .ge 48, 3), none, none, some (.aload_n 0, 1), some (.iload_n 1, 1), some (.iload 5, 2), none, some (.invokevirtual 93, 3)], [none, some (.invokestatic 97, 3), none, none, some (.ifCond .ne 35, 3), none, none, some (.aload_n 0, 1), some (.getfield 101, 3), none, none, some (.aload_n 0, 1), some (.getfield 87, 3), none, none, some (.aload_n 0, 1)], [some (.iload_n 1, 1), some (.iload 5, 2), none, some (.invokevirtual 93, 3), none, none, some (.iastore, 1), some (.aload_n 0, 1), some (.dup, 1), some (.getfield 87, 3), none, none, some (.iconst 1, 1), some (.iadd, 1), some (.putfield 87, 3)], [none, some (.iinc 5 1, 3), none, none, some (.goto (-48), 3), none, none, some (.aload_n 0, 1), some (.ldc2_w 73, 3), none, none, some (.iload 5, 2), none, some (.iload_n 2, 1), some (.if_icmp .ge 10, 3)], [none, some (.iload 5, 2), none, some (.iconst 1, 1), some (.iadd, 1), some (.goto 5, 3), none, none, some (.iload 5, 2), none, some (.invokevirtual 90, 3), none, none, some (.aload_n 0, 1), some (.getfield 87, 3)], [none, some (.ifCond .le 7, 3), none, none, some (.iconst 1, 1), some (.goto 4, 3), none, none, some (.iconst 0, 1), some (.ireturn, 1)]]
def zt_322 : Nat → Option (Instr × Nat) := fun k => zlook 16 ztL_322 k
def zm_322 : zMe := (yX12_word, cX12_word, 6, (some .boolean), 0, 12, 1, fun k => cond (Nat.blt k 170) (zt_322 k) none)
def ztL_474 : List (List (Option (Instr × Nat))) := [[some (.aload_n 0, 1), some (.iload_n 1, 1), some (.iload_n 2, 1), some (.invokevirtual 691, 3), none, none, some (.ifCond .eq 13, 3), none, none, some (.iload_n 3, 1), some (.iconst 0, 1), some (.bipush 7, 2), none, some (.invokestatic 599, 3)], [some (.ifCond .ne 6, 3), none, none, some (.bipush (-2), 2), none, some (.ireturn, 1), some (.aload_n 0, 1), some (.iload_n 1, 1), some (.invokevirtual 526, 3), none, none, some (.aload_n 0, 1), some (.iload_n 2, 1), some (.invokevirtual 107, 3)], [some (.istore 4, 2), none, some (.aload_n 0, 1), some (.getfield 28, 3), none, none, some (.iload 4, 2), none, some (.iconst 0, 1), some (.iadd, 1), some (.iaload, 1), some (.istore 5, 2), none, some (.iload_n 3, 1), some (.tableswitch 132 0 6 #[42, 45, 55, 65, 91, 111, 121], 42)], [], [], [none, none, none, none, none, none, none, none, some (.iload 5, 2), none, some (.ireturn, 1), some (.aload_n 0, 1), some (.getfield 28, 3), none, none, some (.iload 4, 2)], [none, some (.iconst 2, 1), some (.iadd, 1), some (.iaload, 1), some (.ireturn, 1), some (.aload_n 0, 1), some (.getfield 28, 3), none, none, some (.iload 4, 2), none, some (.iconst 1, 1), some (.iadd, 1), some (.iaload, 1), some (.ireturn, 1), some (.iload 5, 2)], [none, some (.bipush 6, 2), none, some (.if_icmp .eq 8, 3), none, none, some (.iload 5, 2), none, some (.ifCond .ne 7, 3), none, none, some (.iconst 0, 1), some (.goto 12, 3), none, none, some (.aload_n 0, 1)], [some (.getfield 28, 3), none, none, some (.iload 4, 2), none, some (.iconst 3, 1), some (.iadd, 1), some (.iaload, 1), some (.ireturn, 1), some (.iload 5, 2), none, some (.iconst 1, 1), some (.if_icmp .ne 15, 3), none, none, some (.aload_n 0, 1)], [some (.getfield 28, 3), none, none, some (.iload 4, 2), none, some (.iconst 4, 1), some (.iadd, 1), some (.iaload, 1), some (.goto 4, 3), none, none, some (.iconst 0, 1), some (.ireturn, 1), some (.aload_n 0, 1), some (.getfield 28, 3)], [none, some (.iload 4, 2), none, some (.iconst 5, 1), some (.iadd, 1), some (.iaload, 1), some (.ireturn, 1), some (.aload_n 0, 1), some (.getfield 28, 3), none, none, some (.iload 4, 2), none, some (.bipush 6, 2), none, some (.iadd, 1)], [some (.iaload, 1), some (.ireturn, 1), some (.aload_n 0, 1), some (.getfield 28, 3), none, none, some (.iload 4, 2), none, some (.bipush 7, 2), none, some (.iadd, 1), some (.iaload, 1), some (.ireturn, 1)]]
def zt_474 : Nat → Option (Instr × Nat) := fun k => zlook 16 ztL_474 k
def zm_474 : zMe := (yX12_word_, cX12_word_, 6, (some .int), 3, 12, 1, fun k => cond (Nat.blt k 189) (zt_474 k) none)
def ztL_475 : List (List (Option (Instr × Nat))) := [[some (.aload_n 0, 1), some (.iload_n 1, 1), some (.iload_n 2, 1), some (.invokevirtual 691, 3), none, none, some (.ifCond .ne 6, 3), none, none, some (.bipush (-2), 2), none, some (.ireturn, 1), some (.aload_n 0, 1), some (.iload_n 1, 1), some (.invokevirtual 526, 3)], [none, some (.iload_n 3, 1), some (.iconst 0, 1), some (.aload_n 0, 1), some (.getfield 28, 3), none, none, some (.aload_n 0, 1), some (.iload_n 2, 1), some (.invokevirtual 107, 3), none, none, some (.bipush 6, 2), none, some (.iadd, 1), some (.iaload, 1)], [some (.iconst 1, 1), some (.isub, 1), some (.invokestatic 599, 3), none, none, some (.ifCond .eq 21, 3), none, none, some (.aload_n 0, 1), some (.getfield 28, 3), none, none, some (.aload_n 0, 1), some (.iload_n 2, 1), some (.invokevirtual 107, 3)], [none, some (.bipush 15, 2), none, some (.iadd, 1), some (.iload_n 3, 1), some (.iadd, 1), some (.iaload, 1), some (.goto 4, 3), none, none, some (.iconst (-1), 1), some (.ireturn, 1)]]
def zt_475 : Nat → Option (Instr × Nat) := fun k => zlook 16 ztL_475 k
def zm_475 : zMe := (yX12_name, cX12_name, 4, (some .int), 3, 12, 1, fun k => cond (Nat.blt k 60) (zt_475 k) none)
def ztL_332 : List (List (Option (Instr × Nat))) := [[some (.aload_n 0, 1), some (.getfield 28, 3), none, none, some (.aload_n 0, 1), some (.getfield 32, 3), none, none, some (.iconst 5, 1), some (.iadd, 1), some (.iaload, 1), some (.istore_n 3, 1), some (.iload_n 3, 1), some (.sipush 4000, 3)], [some (.if_icmp .ne 9, 3), none, none, some (.aload_n 0, 1), some (.bipush (-8), 2), none, some (.putfield 25, 3), none, none, some (.aload_n 0, 1), some (.getfield 25, 3), none, none, some (.ifCond .ne 42, 3)], [some (.aload_n 0, 1), some (.getfield 28, 3), none, none, some (.aload_n 0, 1), some (.iload_n 3, 1), some (.invokevirtual 117, 3), none, none, some (.iload_n 1, 1), some (.iastore, 1), some (.aload_n 0, 1), some (.getfield 28, 3), none, none, some (.aload_n 0, 1)], [some (.iload_n 3, 1), some (.invokevirtual 117, 3), none, none, some (.iconst 1, 1), some (.iadd, 1), some (.iload_n 2, 1), some (.iastore, 1), some (.aload_n 0, 1), some (.getfield 28, 3), none, none, some (.aload_n 0, 1), some (.getfield 32, 3)], [some (.iconst 5, 1), some (.iadd, 1), some (.dup2, 1), some (.iaload, 1), some (.iconst 1, 1), some (.iadd, 1), some (.iastore, 1), some (.return_, 1)]]
def zt_332 : Nat → Option (Instr × Nat) := fun k => zlook 16 ztL_332 k
def zm_332 : zMe := (yX12_item, cX12_item, 4, none, 2, 12, 1, fun k => cond (Nat.blt k 72) (zt_332 k) none)
def ztL_476 : List (List (Option (Instr × Nat))) := [[some (.aload_n 0, 1), some (.iload_n 1, 1), some (.invokevirtual 685, 3), none, none, some (.ifCond .eq 34, 3), none, none, some (.iload_n 3, 1), some (.iconst 0, 1), some (.iconst 1, 1), some (.invokestatic 599, 3), none, none, some (.ifCond .eq 25, 3)], [none, some (.iload_n 2, 1), some (.iconst 0, 1), some (.aload_n 0, 1), some (.getfield 28, 3), none, none, some (.ldc_w 525, 3), none, none, some (.iload_n 1, 1), some (.imul, 1), some (.iconst 5, 1), some (.iadd, 1), some (.iaload, 1), some (.iconst 1, 1)], [some (.isub, 1), some (.invokestatic 599, 3), none, none, some (.ifCond .ne 6, 3), none, none, some (.bipush (-2), 2), none, some (.ireturn, 1), some (.aload_n 0, 1), some (.iload_n 1, 1), some (.invokevirtual 526, 3), none, none, some (.aload_n 0, 1)], [some (.getfield 28, 3), none, none, some (.aload_n 0, 1), some (.iload_n 2, 1), some (.invokevirtual 117, 3), none, none, some (.iload_n 3, 1), some (.iadd, 1), some (.iaload, 1), some (.ireturn, 1)]]
def zt_476 : Nat → Option (Instr × Nat) := fun k => zlook 16 ztL_476 k
def zm_476 : zMe := (yX12_item_, cX12_item_, 4, (some .int), 3, 12, 1, fun k => cond (Nat.blt k 60) (zt_476 k) none)
def ztL_478 : List (List (Option (Instr × Nat))) := [[some (.aload_n 0, 1), some (.iload_n 1, 1), some (.iload_n 2, 1), some (.invokevirtual 694, 3), none, none, some (.ifCond .ne 6, 3), none, none, some (.bipush (-2), 2), none, some (.ireturn, 1), some (.aload_n 0, 1), some (.iload_n 1, 1), some (.invokevirtual 526, 3)], [none, some (.aload_n 0, 1), some (.getfield 28, 3), none, none, some (.aload_n 0, 1), some (.iload_n 2, 1), some (.invokevirtual 107, 3), none, none, some (.bipush 8, 2), none, some (.iadd, 1), some (.iaload, 1), some (.ireturn, 1)]]
def zt_478 : Nat → Option (Instr × Nat) := fun k => zlook 16 ztL_478 k
def zm_478 : zMe := (yX12_effect, cX12_effect, 3, (some .int), 2, 12, 1, fun k => cond (Nat.blt k 31) (zt_478 k) none)
def ztL_441 : List (List (Option (Instr × Nat))) := [[some (.aload_n 0, 1), some (.iload_n 1, 1), some (.invokevirtual 107, 3), none, none, some (.istore_n 2, 1), some (.aload_n 0, 1), some (.iload_n 1, 1), some (.iconst 0, 1), some (.iconst 0, 1), some (.iconst 0, 1), some (.invokevirtual 591, 3), none, none, some (.aload_n 0, 1), some (.getfield 532, 3)], [none, none, some (.iconst 1, 1), some (.if_icmp .ne 73, 3), none, none, some (.aload_n 0, 1), some (.getfield 559, 3), none, none, some (.ifCond .eq 66, 3), none, none, some (.aload_n 0, 1), some (.getfield 553, 3)], [none, some (.ineg, 1), some (.istore_n 3, 1), some (.iload_n 3, 1), some (.aload_n 0, 1), some (.getfield 566, 3), none, none, some (.iadd, 1), some (.istore 4, 2), none, some (.aload_n 0, 1), some (.iload_n 1, 1), some (.iconst 1, 1), some (.iload_n 3, 1), some (.iload 4, 2)], [none, some (.invokevirtual 591, 3), none, none, some (.aload_n 0, 1), some (.getfield 532, 3), none, none, some (.iconst 1, 1), some (.if_icmp .ne 35, 3), none, none, some (.aload_n 0, 1), some (.getfield 553, 3)], [some (.ineg, 1), some (.iload_n 3, 1), some (.if_icmp .ne 17, 3), none, none, some (.aload_n 0, 1), some (.getfield 566, 3), none, none, some (.aload_n 0, 1), some (.getfield 553, 3), none, none, some (.isub, 1), some (.iload 4, 2)], [some (.if_icmp .eq 12, 3), none, none, some (.aload_n 0, 1), some (.aload_n 0, 1), some (.getfield 538, 3), none, none, some (.iconst 2, 1), some (.invokevirtual 544, 3), none, none, some (.aload_n 0, 1), some (.getfield 28, 3)], [some (.iload_n 2, 1), some (.bipush 8, 2), none, some (.iadd, 1), some (.aload_n 0, 1), some (.getfield 532, 3), none, none, some (.iastore, 1), some (.aload_n 0, 1), some (.getfield 28, 3), none, none, some (.iload_n 2, 1), some (.bipush 9, 2)], [some (.iadd, 1), some (.aload_n 0, 1), some (.getfield 532, 3), none, none, some (.iconst 1, 1), some (.if_icmp .ne 11, 3), none, none, some (.aload_n 0, 1), some (.getfield 553, 3), none, none, some (.ineg, 1), some (.goto 4, 3)], [none, some (.iconst 0, 1), some (.iastore, 1), some (.aload_n 0, 1), some (.getfield 28, 3), none, none, some (.iload_n 2, 1), some (.bipush 10, 2), none, some (.iadd, 1), some (.aload_n 0, 1), some (.getfield 532, 3), none, none, some (.iconst 1, 1)], [some (.if_icmp .ne 15, 3), none, none, some (.aload_n 0, 1), some (.getfield 566, 3), none, none, some (.aload_n 0, 1), some (.getfield 553, 3), none, none, some (.isub, 1), some (.goto 4, 3), none, none, some (.iconst 0, 1)], [some (.iastore, 1), some (.aload_n 0, 1), some (.getfield 28, 3), none, none, some (.iload_n 2, 1), some (.bipush 11, 2), none, some (.iadd, 1), some (.aload_n 0, 1), some (.getfield 532, 3), none, none, some (.iconst 1, 1), some (.if_icmp .ne 7, 3)], [none, some (.iconst (-1), 1), some (.goto 7, 3), none, none, some (.aload_n 0, 1), some (.getfield 535, 3), none, none, some (.iastore, 1), some (.return_, 1)]]
def zt_441 : Nat → Option (Instr × Nat) := fun k => zlook 16 ztL_441 k
def zm_441 : zMe := (yX12_effectOf, cX12_effectOf, 5, none, 1, 12, 1, fun k => cond (Nat.blt k 187) (zt_441 k) none)
def ztL_479 : List (List (Option (Instr × Nat))) := [[some (.aload_n 0, 1), some (.iload_n 1, 1), some (.iload_n 2, 1), some (.invokevirtual 694, 3), none, none, some (.ifCond .eq 12, 3), none, none, some (.iload_n 3, 1), some (.iconst 0, 1), some (.iconst 2, 1), some (.invokestatic 599, 3), none, none, some (.ifCond .ne 6, 3)], [none, none, some (.bipush (-2), 2), none, some (.ireturn, 1), some (.aload_n 0, 1), some (.iload_n 1, 1), some (.invokevirtual 526, 3), none, none, some (.aload_n 0, 1), some (.getfield 28, 3), none, none, some (.aload_n 0, 1), some (.iload_n 2, 1)], [some (.invokevirtual 107, 3), none, none, some (.bipush 9, 2), none, some (.iadd, 1), some (.iload_n 3, 1), some (.iadd, 1), some (.iaload, 1), some (.ireturn, 1)]]
def zt_479 : Nat → Option (Instr × Nat) := fun k => zlook 16 ztL_479 k
def zm_479 : zMe := (yX12_effectOf_, cX12_effectOf_, 4, (some .int), 3, 12, 1, fun k => cond (Nat.blt k 42) (zt_479 k) none)
def ztL_480 : List (List (Option (Instr × Nat))) := [[some (.aload_n 0, 1), some (.iload_n 1, 1), some (.iload_n 2, 1), some (.invokevirtual 694, 3), none, none, some (.ifCond .ne 6, 3), none, none, some (.bipush (-2), 2), none, some (.ireturn, 1), some (.aload_n 0, 1), some (.iload_n 1, 1), some (.invokevirtual 526, 3)], [none, some (.aload_n 0, 1), some (.iload_n 2, 1), some (.invokevirtual 107, 3), none, none, some (.istore_n 3, 1), some (.aload_n 0, 1), some (.getfield 28, 3), none, none, some (.iload_n 3, 1), some (.bipush 12, 2), none, some (.iadd, 1), some (.iaload, 1)], [some (.iconst 1, 1), some (.if_icmp .eq 29, 3), none, none, some (.aload_n 0, 1), some (.getfield 28, 3), none, none, some (.iload_n 3, 1), some (.bipush 13, 2), none, some (.iadd, 1), some (.iaload, 1), some (.iconst 1, 1), some (.if_icmp .eq 16, 3)], [none, some (.aload_n 0, 1), some (.getfield 28, 3), none, none, some (.iload_n 3, 1), some (.bipush 14, 2), none, some (.iadd, 1), some (.iaload, 1), some (.iconst 1, 1), some (.if_icmp .ne 6, 3), none, none, some (.bipush (-2), 2)], [some (.ireturn, 1), some (.aload_n 0, 1), some (.getfield 28, 3), none, none, some (.aload_n 0, 1), some (.getfield 32, 3), none, none, some (.bipush 15, 2), none, some (.iadd, 1), some (.iaload, 1), some (.iconst 1, 1), some (.if_icmp .eq 18, 3)], [none, some (.aload_n 0, 1), some (.getfield 28, 3), none, none, some (.aload_n 0, 1), some (.getfield 32, 3), none, none, some (.bipush 24, 2), none, some (.iadd, 1), some (.iaload, 1), some (.ifCond .le 7, 3)], [some (.iconst 1, 1), some (.goto 4, 3), none, none, some (.iconst 0, 1), some (.istore 4, 2), none, some (.iconst 1, 1), some (.istore 5, 2), none, some (.iload 5, 2), none, some (.iconst 4, 1), some (.if_icmp .ge 51, 3)], [some (.iload 4, 2), none, some (.ifCond .ne 33, 3), none, none, some (.aload_n 0, 1), some (.getfield 28, 3), none, none, some (.aload_n 0, 1), some (.iload 5, 2), none, some (.invokevirtual 463, 3), none, none, some (.iaload, 1)], [some (.iconst 1, 1), some (.if_icmp .eq 18, 3), none, none, some (.aload_n 0, 1), some (.getfield 28, 3), none, none, some (.aload_n 0, 1), some (.iload 5, 2), none, some (.invokevirtual 463, 3), none, none, some (.iaload, 1), some (.iconst 2, 1)], [some (.if_icmp .ne 7, 3), none, none, some (.iconst 1, 1), some (.goto 4, 3), none, none, some (.iconst 0, 1), some (.istore 4, 2), none, some (.iinc 5 1, 3), none, none, some (.goto (-51), 3)], [some (.iload 4, 2), none, some (.ifCond .eq 6, 3), none, none, some (.bipush (-3), 2), none, some (.ireturn, 1), some (.aload_n 0, 1), some (.getfield 28, 3), none, none, some (.iload_n 3, 1), some (.iconst 4, 1), some (.iadd, 1), some (.iaload, 1)], [some (.istore 5, 2), none, some (.iconst 1, 1), some (.istore 6, 2), none, some (.iload 6, 2), none, some (.ifCond .eq 66, 3), none, none, some (.iconst 0, 1), some (.istore 6, 2), none, some (.aload_n 0, 1), some (.iload_n 3, 1), some (.invokevirtual 697, 3)], [none, none, some (.aload_n 0, 1), some (.getfield 28, 3), none, none, some (.iload_n 3, 1), some (.iconst 3, 1), some (.iadd, 1), some (.iaload, 1), some (.istore 7, 2), none, some (.iload 7, 2), none, some (.aload_n 0, 1), some (.getfield 28, 3)], [none, none, some (.iload_n 3, 1), some (.iconst 3, 1), some (.iadd, 1), some (.iaload, 1), some (.aload_n 0, 1), some (.getfield 28, 3), none, none, some (.iload_n 3, 1), some (.iconst 4, 1), some (.iadd, 1), some (.iaload, 1), some (.iadd, 1), some (.if_icmp .ge 23, 3)], [none, none, some (.iload 6, 2), none, some (.ifCond .ne 18, 3), none, none, some (.aload_n 0, 1), some (.iload_n 3, 1), some (.iload 7, 2), none, some (.invokevirtual 700, 3), none, none, some (.istore 6, 2)], [some (.iinc 7 1, 3), none, none, some (.goto (-39), 3), none, none, some (.goto (-65), 3), none, none, some (.iload 5, 2), none, some (.aload_n 0, 1), some (.getfield 28, 3), none, none, some (.iload_n 3, 1)], [some (.iconst 4, 1), some (.iadd, 1), some (.iaload, 1), some (.isub, 1), some (.ireturn, 1)]]
def zt_480 : Nat → Option (Instr × Nat) := fun k => zlook 16 ztL_480 k
def zm_480 : zMe := (yX12_lean, cX12_lean, 8, (some .int), 2, 12, 1, fun k => cond (Nat.blt k 261) (zt_480 k) none)
def ztL_481 : List (List (Option (Instr × Nat))) := [[some (.aload_n 0, 1), some (.iload_n 1, 1), some (.iload_n 2, 1), some (.invokevirtual 694, 3), none, none, some (.ifCond .ne 6, 3), none, none, some (.bipush (-2), 2), none, some (.ireturn, 1), some (.aload_n 0, 1), some (.iload_n 1, 1), some (.invokevirtual 526, 3)], [none, some (.aload_n 0, 1), some (.iconst 0, 1), some (.putfield 619, 3), none, none, some (.aload_n 0, 1), some (.iconst 0, 1), some (.putfield 628, 3), none, none, some (.aload_n 0, 1), some (.iload_n 2, 1), some (.invokevirtual 637, 3)], [some (.istore_n 3, 1), some (.iconst 1, 1), some (.istore 4, 2), none, some (.iconst 0, 1), some (.istore 5, 2), none, some (.iload 5, 2), none, some (.aload_n 0, 1), some (.getfield 619, 3), none, none, some (.if_icmp .ge 22, 3)], [some (.iload 4, 2), none, some (.ifCond .eq 17, 3), none, none, some (.aload_n 0, 1), some (.iload 5, 2), none, some (.invokevirtual 703, 3), none, none, some (.istore 4, 2), none, some (.iinc 5 1, 3)], [some (.goto (-25), 3), none, none, some (.iload 4, 2), none, some (.ifCond .ne 10, 3), none, none, some (.aload_n 0, 1), some (.iconst 0, 1), some (.putfield 628, 3), none, none, some (.iconst 0, 1), some (.ireturn, 1), some (.iconst 0, 1)], [some (.istore 5, 2), none, some (.iload 5, 2), none, some (.aload_n 0, 1), some (.getfield 619, 3), none, none, some (.if_icmp .ge 15, 3), none, none, some (.aload_n 0, 1), some (.iload 5, 2), none, some (.invokevirtual 706, 3)], [none, some (.iinc 5 1, 3), none, none, some (.goto (-18), 3), none, none, some (.ldc_w 709, 3), none, none, some (.istore 5, 2), none, some (.iconst 0, 1), some (.istore 6, 2), none, some (.iload 6, 2)], [none, some (.sipush 4096, 3), none, none, some (.if_icmp .ge 37, 3), none, none, some (.aload_n 0, 1), some (.getfield 28, 3), none, none, some (.iload 5, 2), none, some (.bipush 100, 2), none, some (.iadd, 1)], [some (.iload 6, 2), none, some (.iadd, 1), some (.aload_n 0, 1), some (.getfield 28, 3), none, none, some (.aload_n 0, 1), some (.getfield 32, 3), none, none, some (.bipush 100, 2), none, some (.iadd, 1), some (.iload 6, 2)], [some (.iadd, 1), some (.iaload, 1), some (.iastore, 1), some (.iinc 6 1, 3), none, none, some (.goto (-39), 3), none, none, some (.aload_n 0, 1), some (.getfield 28, 3), none, none, some (.iload 5, 2), none, some (.iconst 1, 1)], [some (.iadd, 1), some (.aload_n 0, 1), some (.getfield 28, 3), none, none, some (.aload_n 0, 1), some (.getfield 32, 3), none, none, some (.iconst 1, 1), some (.iadd, 1), some (.iaload, 1), some (.iastore, 1), some (.aload_n 0, 1), some (.getfield 28, 3)], [none, some (.iload 5, 2), none, some (.iconst 2, 1), some (.iadd, 1), some (.aload_n 0, 1), some (.getfield 28, 3), none, none, some (.aload_n 0, 1), some (.getfield 32, 3), none, none, some (.iconst 2, 1), some (.iadd, 1), some (.iaload, 1)], [some (.iastore, 1), some (.aload_n 0, 1), some (.getfield 28, 3), none, none, some (.iload 5, 2), none, some (.bipush 12, 2), none, some (.iadd, 1), some (.iconst 0, 1), some (.iastore, 1), some (.aload_n 0, 1), some (.iload 5, 2), none, some (.sipush 30692, 3)], [none, none, some (.iadd, 1), some (.invokevirtual 466, 3), none, none, some (.aload_n 0, 1), some (.iconst 0, 1), some (.putfield 645, 3), none, none, some (.aload_n 0, 1), some (.iconst 0, 1), some (.putfield 658, 3)], [some (.aload_n 0, 1), some (.iconst 0, 1), some (.putfield 649, 3), none, none, some (.aload_n 0, 1), some (.iconst 0, 1), some (.putfield 661, 3), none, none, some (.aload_n 0, 1), some (.getfield 628, 3), none, none, some (.ireturn, 1)]]
def zt_481 : Nat → Option (Instr × Nat) := fun k => zlook 16 ztL_481 k
def zm_481 : zMe := (yX12_chip, cX12_chip, 7, (some .int), 2, 12, 1, fun k => cond (Nat.blt k 239) (zt_481 k) none)
def ztL_482 : List (List (Option (Instr × Nat))) := [[some (.iload_n 1, 1), some (.iconst 0, 1), some (.aload_n 0, 1), some (.getfield 628, 3), none, none, some (.iconst 1, 1), some (.isub, 1), some (.invokestatic 599, 3), none, none, some (.ifCond .eq 12, 3), none, none, some (.aload_n 0, 1), some (.getfield 640, 3)], [none, none, some (.iload_n 1, 1), some (.iaload, 1), some (.goto 4, 3), none, none, some (.iconst (-1), 1), some (.ireturn, 1)]]
def zt_482 : Nat → Option (Instr × Nat) := fun k => zlook 16 ztL_482 k
def zm_482 : zMe := (yX12_chipWord, cX12_chipWord, 2, (some .int), 1, 12, 1, fun k => cond (Nat.blt k 25) (zt_482 k) none)
def ztL_484 : List (List (Option (Instr × Nat))) := [[some (.aload_n 0, 1), some (.getfield 628, 3), none, none, some (.ifCond .eq 17, 3), none, none, some (.aload_n 0, 1), some (.getfield 661, 3), none, none, some (.ifCond .ne 10, 3), none, none, some (.aload_n 0, 1), some (.getfield 658, 3)], [none, none, some (.ifCond .eq 6, 3), none, none, some (.bipush (-3), 2), none, some (.ireturn, 1), some (.aload_n 0, 1), some (.invokevirtual 710, 3), none, none, some (.aload_n 0, 1), some (.getfield 28, 3)], [some (.aload_n 0, 1), some (.getfield 50, 3), none, none, some (.iconst 2, 1), some (.iadd, 1), some (.iaload, 1), some (.bipush 64, 2), none, some (.if_icmp .ne 6, 3), none, none, some (.bipush (-4), 2), none, some (.ireturn, 1), some (.aload_n 0, 1)], [some (.iload_n 1, 1), some (.i2l, 1), some (.invokevirtual 56, 3), none, none, some (.aload_n 0, 1), some (.getfield 28, 3), none, none, some (.aload_n 0, 1), some (.getfield 50, 3), none, none, some (.iconst 2, 1), some (.iadd, 1), some (.iaload, 1)], [some (.ireturn, 1)]]
def zt_484 : Nat → Option (Instr × Nat) := fun k => zlook 16 ztL_484 k
def zm_484 : zMe := (yX12_chipPut, cX12_chipPut, 2, (some .int), 1, 12, 1, fun k => cond (Nat.blt k 65) (zt_484 k) none)
def ztL_485 : List (List (Option (Instr × Nat))) := [[some (.iload_n 1, 1), some (.iconst 1, 1), some (.sipush 20000, 3), none, none, some (.invokestatic 599, 3), none, none, some (.ifCond .ne 6, 3), none, none, some (.bipush (-2), 2), none, some (.ireturn, 1), some (.aload_n 0, 1), some (.getfield 628, 3)], [none, none, some (.ifCond .ne 6, 3), none, none, some (.bipush (-3), 2), none, some (.ireturn, 1), some (.aload_n 0, 1), some (.invokevirtual 710, 3), none, none, some (.iconst 0, 1), some (.istore_n 2, 1), some (.iload_n 2, 1), some (.iload_n 1, 1)], [some (.if_icmp .ge 27, 3), none, none, some (.aload_n 0, 1), some (.getfield 661, 3), none, none, some (.ifCond .ne 20, 3), none, none, some (.aload_n 0, 1), some (.getfield 658, 3), none, none, some (.ifCond .ne 13, 3)], [none, some (.aload_n 0, 1), some (.invokevirtual 713, 3), none, none, some (.iinc 2 1, 3), none, none, some (.goto (-26), 3), none, none, some (.aload_n 0, 1), some (.getfield 658, 3), none, none, some (.ifCond .eq 8, 3)], [none, none, some (.bipush (-2), 2), none, some (.goto 15, 3), none, none, some (.aload_n 0, 1), some (.getfield 661, 3), none, none, some (.ifCond .eq 7, 3), none, none, some (.iconst 0, 1), some (.goto 4, 3)], [none, none, some (.iconst 1, 1), some (.ireturn, 1)]]
def zt_485 : Nat → Option (Instr × Nat) := fun k => zlook 16 ztL_485 k
def zm_485 : zMe := (yX12_chipGo, cX12_chipGo, 3, (some .int), 1, 12, 1, fun k => cond (Nat.blt k 84) (zt_485 k) none)
def ztL_486 : List (List (Option (Instr × Nat))) := [[some (.iload_n 1, 1), some (.iconst 0, 1), some (.bipush 7, 2), none, some (.invokestatic 599, 3), none, none, some (.ifCond .ne 6, 3), none, none, some (.bipush (-2), 2), none, some (.ireturn, 1), some (.ldc_w 716, 3)], [some (.istore_n 2, 1), some (.aload_n 0, 1), some (.getfield 628, 3), none, none, some (.ifCond .le 7, 3), none, none, some (.iconst 1, 1), some (.goto 4, 3), none, none, some (.iconst 0, 1), some (.istore_n 3, 1), some (.iload_n 1, 1), some (.tableswitch 136 0 6 #[41, 54, 71, 88, 105, 118, 131], 41)], [], [], [none, none, none, none, none, none, none, none, some (.iload_n 3, 1), some (.ifCond .eq 10, 3), none, none, some (.aload_n 0, 1), some (.getfield 645, 3)], [some (.goto 4, 3), none, none, some (.iconst 0, 1), some (.ireturn, 1), some (.iload_n 3, 1), some (.ifCond .eq 14, 3), none, none, some (.aload_n 0, 1), some (.getfield 28, 3), none, none, some (.iload_n 2, 1), some (.iconst 2, 1), some (.iadd, 1)], [some (.iaload, 1), some (.goto 4, 3), none, none, some (.iconst 0, 1), some (.ireturn, 1), some (.iload_n 3, 1), some (.ifCond .eq 14, 3), none, none, some (.aload_n 0, 1), some (.getfield 28, 3), none, none, some (.iload_n 2, 1), some (.iconst 3, 1)], [some (.iadd, 1), some (.iaload, 1), some (.goto 4, 3), none, none, some (.iconst 0, 1), some (.ireturn, 1), some (.iload_n 3, 1), some (.ifCond .eq 14, 3), none, none, some (.aload_n 0, 1), some (.getfield 28, 3), none, none, some (.iload_n 2, 1)], [some (.iconst 4, 1), some (.iadd, 1), some (.iaload, 1), some (.goto 4, 3), none, none, some (.iconst 0, 1), some (.ireturn, 1), some (.iload_n 3, 1), some (.ifCond .eq 10, 3), none, none, some (.aload_n 0, 1), some (.getfield 658, 3)], [some (.goto 4, 3), none, none, some (.iconst 0, 1), some (.ireturn, 1), some (.iload_n 3, 1), some (.ifCond .eq 10, 3), none, none, some (.aload_n 0, 1), some (.getfield 649, 3), none, none, some (.goto 4, 3)], [some (.iconst 0, 1), some (.ireturn, 1), some (.aload_n 0, 1), some (.getfield 628, 3), none, none, some (.ireturn, 1), some (.iload_n 3, 1), some (.ifCond .eq 15, 3), none, none, some (.aload_n 0, 1), some (.getfield 28, 3), none, none, some (.iload_n 2, 1)], [some (.bipush 6, 2), none, some (.iadd, 1), some (.iaload, 1), some (.goto 4, 3), none, none, some (.iconst 0, 1), some (.ireturn, 1)]]
def zt_486 : Nat → Option (Instr × Nat) := fun k => zlook 16 ztL_486 k
def zm_486 : zMe := (yX12_chipTold, cX12_chipTold, 4, (some .int), 1, 12, 1, fun k => cond (Nat.blt k 185) (zt_486 k) none)
def ztL_487 : List (List (Option (Instr × Nat))) := [[some (.ldc_w 716, 3), none, none, some (.istore_n 2, 1), some (.aload_n 0, 1), some (.getfield 628, 3), none, none, some (.ifCond .le 46, 3), none, none, some (.iload_n 1, 1), some (.iconst 0, 1), some (.aload_n 0, 1), some (.getfield 28, 3)], [none, some (.iload_n 2, 1), some (.iconst 2, 1), some (.iadd, 1), some (.iaload, 1), some (.iconst 1, 1), some (.isub, 1), some (.invokestatic 599, 3), none, none, some (.ifCond .eq 28, 3), none, none, some (.aload_n 0, 1), some (.getfield 28, 3)], [none, some (.iload_n 2, 1), some (.bipush 20, 2), none, some (.iadd, 1), some (.aload_n 0, 1), some (.getfield 28, 3), none, none, some (.iload_n 2, 1), some (.iconst 2, 1), some (.iadd, 1), some (.iaload, 1), some (.iadd, 1), some (.iconst 1, 1), some (.isub, 1)], [some (.iload_n 1, 1), some (.isub, 1), some (.iaload, 1), some (.goto 4, 3), none, none, some (.iconst 0, 1), some (.ireturn, 1)]]
def zt_487 : Nat → Option (Instr × Nat) := fun k => zlook 16 ztL_487 k
def zm_487 : zMe := (yX12_chipCell, cX12_chipCell, 3, (some .int), 1, 12, 1, fun k => cond (Nat.blt k 56) (zt_487 k) none)
def ztL_488 : List (List (Option (Instr × Nat))) := [[some (.aload_n 0, 1), some (.getfield 628, 3), none, none, some (.ifCond .le 27, 3), none, none, some (.iload_n 1, 1), some (.iconst 0, 1), some (.sipush 4095, 3), none, none, some (.invokestatic 599, 3), none, none, some (.ifCond .eq 16, 3)], [none, none, some (.aload_n 0, 1), some (.getfield 28, 3), none, none, some (.ldc_w 717, 3), none, none, some (.iload_n 1, 1), some (.iadd, 1), some (.iaload, 1), some (.goto 4, 3), none, none, some (.iconst (-1), 1)], [some (.ireturn, 1)]]
def zt_488 : Nat → Option (Instr × Nat) := fun k => zlook 16 ztL_488 k
def zm_488 : zMe := (yX12_chipByte, cX12_chipByte, 2, (some .int), 1, 12, 1, fun k => cond (Nat.blt k 33) (zt_488 k) none)
def ztL_315 : List (List (Option (Instr × Nat))) := [[some (.aload_n 0, 1), some (.getfield 28, 3), none, none, some (.aload_n 0, 1), some (.getfield 32, 3), none, none, some (.bipush 6, 2), none, some (.iadd, 1), some (.iaload, 1), some (.istore_n 2, 1), some (.iload_n 2, 1), some (.sipush 3000, 3)], [none, some (.if_icmp .ge 22, 3), none, none, some (.aload_n 0, 1), some (.getfield 28, 3), none, none, some (.aload_n 0, 1), some (.getfield 32, 3), none, none, some (.ldc 70, 2), none, some (.iadd, 1), some (.iload_n 2, 1)], [some (.iadd, 1), some (.iload_n 1, 1), some (.sipush 255, 3), none, none, some (.iand, 1), some (.iastore, 1), some (.aload_n 0, 1), some (.getfield 28, 3), none, none, some (.aload_n 0, 1), some (.getfield 32, 3), none, none, some (.bipush 6, 2)], [none, some (.iadd, 1), some (.iload_n 2, 1), some (.ldc 71, 2), none, some (.if_icmp .ne 7, 3), none, none, some (.iload_n 2, 1), some (.goto 6, 3), none, none, some (.iload_n 2, 1), some (.iconst 1, 1), some (.iadd, 1), some (.iastore, 1)], [some (.return_, 1)]]
def zt_315 : Nat → Option (Instr × Nat) := fun k => zlook 16 ztL_315 k
def zm_315 : zMe := (yX12_put, cX12_put, 3, none, 1, 12, 1, fun k => cond (Nat.blt k 65) (zt_315 k) none)
def ztL_489 : List (List (Option (Instr × Nat))) := [[some (.aload_n 0, 1), some (.invokevirtual 682, 3), none, none, some (.aload_n 0, 1), some (.iload_n 1, 1), some (.invokevirtual 685, 3), none, none, some (.ifCond .eq 32, 3), none, none, some (.iload_n 2, 1), some (.iconst 0, 1), some (.bipush 7, 2)], [some (.invokestatic 599, 3), none, none, some (.ifCond .eq 22, 3), none, none, some (.iload_n 3, 1), some (.ifCond .lt 18, 3), none, none, some (.iload_n 3, 1), some (.i2l, 1), some (.aload_n 0, 1), some (.getfield 87, 3)], [some (.i2l, 1), some (.ladd, 1), some (.ldc2_w 274, 3), none, none, some (.lcmp, 1), some (.ifCond .le 6, 3), none, none, some (.bipush (-2), 2), none, some (.ireturn, 1), some (.iconst 0, 1), some (.istore 4, 2), none, some (.iload 4, 2)], [none, some (.aload_n 0, 1), some (.getfield 87, 3), none, none, some (.if_icmp .ge 41, 3), none, none, some (.aload_n 0, 1), some (.getfield 28, 3), none, none, some (.ldc_w 525, 3), none, none, some (.iload_n 1, 1)], [some (.imul, 1), some (.sipush 4196, 3), none, none, some (.iadd, 1), some (.sipush 512, 3), none, none, some (.iload_n 2, 1), some (.imul, 1), some (.iadd, 1), some (.iload_n 3, 1), some (.iadd, 1), some (.iload 4, 2), none, some (.iadd, 1)], [some (.aload_n 0, 1), some (.getfield 101, 3), none, none, some (.iload 4, 2), none, some (.iaload, 1), some (.iastore, 1), some (.iinc 4 1, 3), none, none, some (.goto (-44), 3), none, none, some (.aload_n 0, 1), some (.getfield 87, 3)], [none, none, some (.ireturn, 1)]]
def zt_489 : Nat → Option (Instr × Nat) := fun k => zlook 16 ztL_489 k
def zm_489 : zMe := (yX12_put_, cX12_put_, 5, (some .int), 3, 12, 1, fun k => cond (Nat.blt k 99) (zt_489 k) none)
def ztL_491 : List (List (Option (Instr × Nat))) := [[some (.aload_n 0, 1), some (.iload_n 1, 1), some (.invokevirtual 685, 3), none, none, some (.ifCond .eq 12, 3), none, none, some (.iload_n 2, 1), some (.iconst 0, 1), some (.iconst 1, 1), some (.invokestatic 599, 3), none, none, some (.ifCond .ne 6, 3)], [none, some (.bipush (-2), 2), none, some (.ireturn, 1), some (.aload_n 0, 1), some (.iload_n 1, 1), some (.iconst 3, 1), some (.iload_n 2, 1), some (.iadd, 1), some (.invokevirtual 718, 3), none, none, some (.iconst 1, 1), some (.ireturn, 1)]]
def zt_491 : Nat → Option (Instr × Nat) := fun k => zlook 16 ztL_491 k
def zm_491 : zMe := (yX12_keep, cX12_keep, 3, (some .int), 2, 12, 1, fun k => cond (Nat.blt k 30) (zt_491 k) none)
def ztL_492 : List (List (Option (Instr × Nat))) := [[some (.aload_n 0, 1), some (.invokevirtual 677, 3), none, none, some (.istore_n 3, 1), some (.iload_n 1, 1), some (.iconst 0, 1), some (.iload_n 3, 1), some (.invokestatic 599, 3), none, none, some (.ifCond .eq 12, 3), none, none, some (.iload_n 2, 1), some (.iconst 0, 1)], [some (.iconst 1, 1), some (.invokestatic 599, 3), none, none, some (.ifCond .ne 6, 3), none, none, some (.bipush (-2), 2), none, some (.ireturn, 1), some (.aload_n 0, 1), some (.getfield 28, 3), none, none, some (.ldc_w 525, 3)], [none, some (.iconst 3, 1), some (.iload_n 2, 1), some (.iadd, 1), some (.imul, 1), some (.bipush 35, 2), none, some (.iadd, 1), some (.iaload, 1), some (.ifCond .ne 5, 3), none, none, some (.iconst (-1), 1), some (.ireturn, 1), some (.iload_n 1, 1), some (.iconst 3, 1)], [some (.if_icmp .ne 6, 3), none, none, some (.bipush (-4), 2), none, some (.ireturn, 1), some (.aload_n 0, 1), some (.iconst 3, 1), some (.iload_n 2, 1), some (.iadd, 1), some (.iload_n 1, 1), some (.invokevirtual 718, 3), none, none, some (.iload_n 1, 1), some (.ireturn, 1)]]
def zt_492 : Nat → Option (Instr × Nat) := fun k => zlook 16 ztL_492 k
def zm_492 : zMe := (yX12_again, cX12_again, 4, (some .int), 2, 12, 1, fun k => cond (Nat.blt k 64) (zt_492 k) none)
def ztL_494 : List (List (Option (Instr × Nat))) := [[some (.aload_n 0, 1), some (.iload_n 1, 1), some (.invokevirtual 685, 3), none, none, some (.ifCond .eq 11, 3), none, none, some (.aload_n 0, 1), some (.iload_n 2, 1), some (.invokevirtual 685, 3), none, none, some (.ifCond .ne 5, 3)], [some (.iconst 0, 1), some (.ireturn, 1), some (.ldc_w 525, 3), none, none, some (.iload_n 1, 1), some (.imul, 1), some (.istore_n 3, 1), some (.ldc_w 525, 3), none, none, some (.iload_n 2, 1), some (.imul, 1), some (.istore 4, 2), none, some (.aload_n 0, 1)], [some (.getfield 28, 3), none, none, some (.iload_n 3, 1), some (.iconst 1, 1), some (.iadd, 1), some (.iaload, 1), some (.aload_n 0, 1), some (.getfield 28, 3), none, none, some (.iload 4, 2), none, some (.iconst 1, 1), some (.iadd, 1), some (.iaload, 1)], [some (.if_icmp .ne 285, 3), none, none, some (.aload_n 0, 1), some (.getfield 28, 3), none, none, some (.iload_n 3, 1), some (.iconst 2, 1), some (.iadd, 1), some (.iaload, 1), some (.aload_n 0, 1), some (.getfield 28, 3), none, none, some (.iload 4, 2)], [none, some (.iconst 2, 1), some (.iadd, 1), some (.iaload, 1), some (.if_icmp .ne 265, 3), none, none, some (.aload_n 0, 1), some (.getfield 28, 3), none, none, some (.iload_n 3, 1), some (.iconst 3, 1), some (.iadd, 1), some (.iaload, 1), some (.aload_n 0, 1)], [some (.getfield 28, 3), none, none, some (.iload 4, 2), none, some (.iconst 3, 1), some (.iadd, 1), some (.iaload, 1), some (.if_icmp .ne 245, 3), none, none, some (.aload_n 0, 1), some (.getfield 28, 3), none, none, some (.iload_n 3, 1)], [some (.iconst 4, 1), some (.iadd, 1), some (.iaload, 1), some (.aload_n 0, 1), some (.getfield 28, 3), none, none, some (.iload 4, 2), none, some (.iconst 4, 1), some (.iadd, 1), some (.iaload, 1), some (.if_icmp .ne 225, 3), none, none, some (.aload_n 0, 1)], [some (.getfield 28, 3), none, none, some (.iload_n 3, 1), some (.iconst 5, 1), some (.iadd, 1), some (.iaload, 1), some (.aload_n 0, 1), some (.getfield 28, 3), none, none, some (.iload 4, 2), none, some (.iconst 5, 1), some (.iadd, 1), some (.iaload, 1)], [some (.if_icmp .ne 205, 3), none, none, some (.aload_n 0, 1), some (.getfield 28, 3), none, none, some (.iload_n 3, 1), some (.bipush 8, 2), none, some (.iadd, 1), some (.iaload, 1), some (.aload_n 0, 1), some (.getfield 28, 3)], [some (.iload 4, 2), none, some (.bipush 8, 2), none, some (.iadd, 1), some (.iaload, 1), some (.if_icmp .ne 183, 3), none, none, some (.aload_n 0, 1), some (.getfield 28, 3), none, none, some (.iload_n 3, 1), some (.bipush 9, 2)], [some (.iadd, 1), some (.iaload, 1), some (.aload_n 0, 1), some (.getfield 28, 3), none, none, some (.iload 4, 2), none, some (.bipush 9, 2), none, some (.iadd, 1), some (.iaload, 1), some (.if_icmp .ne 161, 3), none, none, some (.aload_n 0, 1)], [some (.getfield 28, 3), none, none, some (.iload_n 3, 1), some (.bipush 10, 2), none, some (.iadd, 1), some (.iaload, 1), some (.aload_n 0, 1), some (.getfield 28, 3), none, none, some (.iload 4, 2), none, some (.bipush 10, 2)], [some (.iadd, 1), some (.iaload, 1), some (.if_icmp .ne 139, 3), none, none, some (.aload_n 0, 1), some (.getfield 28, 3), none, none, some (.iload_n 3, 1), some (.bipush 11, 2), none, some (.iadd, 1), some (.iaload, 1), some (.aload_n 0, 1), some (.getfield 28, 3)], [none, none, some (.iload 4, 2), none, some (.bipush 11, 2), none, some (.iadd, 1), some (.iaload, 1), some (.if_icmp .ne 117, 3), none, none, some (.aload_n 0, 1), some (.getfield 28, 3), none, none, some (.iload_n 3, 1)], [some (.bipush 12, 2), none, some (.iadd, 1), some (.iaload, 1), some (.aload_n 0, 1), some (.getfield 28, 3), none, none, some (.iload 4, 2), none, some (.bipush 12, 2), none, some (.iadd, 1), some (.iaload, 1), some (.if_icmp .ne 95, 3)], [none, some (.aload_n 0, 1), some (.getfield 28, 3), none, none, some (.iload_n 3, 1), some (.bipush 15, 2), none, some (.iadd, 1), some (.iaload, 1), some (.aload_n 0, 1), some (.getfield 28, 3), none, none, some (.iload 4, 2)], [some (.bipush 15, 2), none, some (.iadd, 1), some (.iaload, 1), some (.if_icmp .ne 73, 3), none, none, some (.aload_n 0, 1), some (.getfield 28, 3), none, none, some (.iload_n 3, 1), some (.bipush 16, 2), none, some (.iadd, 1), some (.iaload, 1)], [some (.aload_n 0, 1), some (.getfield 28, 3), none, none, some (.iload 4, 2), none, some (.bipush 16, 2), none, some (.iadd, 1), some (.iaload, 1), some (.if_icmp .ne 51, 3), none, none, some (.aload_n 0, 1), some (.getfield 28, 3)], [none, some (.iload_n 3, 1), some (.bipush 17, 2), none, some (.iadd, 1), some (.iaload, 1), some (.aload_n 0, 1), some (.getfield 28, 3), none, none, some (.iload 4, 2), none, some (.bipush 17, 2), none, some (.iadd, 1), some (.iaload, 1)], [some (.if_icmp .ne 29, 3), none, none, some (.aload_n 0, 1), some (.getfield 28, 3), none, none, some (.iload_n 3, 1), some (.bipush 24, 2), none, some (.iadd, 1), some (.iaload, 1), some (.aload_n 0, 1), some (.getfield 28, 3)], [some (.iload 4, 2), none, some (.bipush 24, 2), none, some (.iadd, 1), some (.iaload, 1), some (.if_icmp .ne 7, 3), none, none, some (.iconst 1, 1), some (.goto 4, 3), none, none, some (.iconst 0, 1), some (.istore 5, 2)], [some (.iload 5, 2), none, some (.ifCond .eq 88, 3), none, none, some (.aload_n 0, 1), some (.getfield 28, 3), none, none, some (.iload_n 3, 1), some (.bipush 25, 2), none, some (.iadd, 1), some (.iload 4, 2), none, some (.bipush 25, 2)], [none, some (.iadd, 1), some (.aload_n 0, 1), some (.getfield 28, 3), none, none, some (.iload_n 3, 1), some (.bipush 10, 2), none, some (.iadd, 1), some (.iaload, 1), some (.invokestatic 721, 3), none, none, some (.ifCond .eq 60, 3)], [none, some (.aload_n 0, 1), some (.getfield 28, 3), none, none, some (.iload_n 3, 1), some (.bipush 100, 2), none, some (.iadd, 1), some (.iload 4, 2), none, some (.bipush 100, 2), none, some (.iadd, 1), some (.sipush 8192, 3)], [none, some (.invokestatic 721, 3), none, none, some (.ifCond .eq 38, 3), none, none, some (.aload_n 0, 1), some (.getfield 28, 3), none, none, some (.iload_n 3, 1), some (.sipush 22692, 3), none, none, some (.iadd, 1)], [some (.iload 4, 2), none, some (.sipush 22692, 3), none, none, some (.iadd, 1), some (.iconst 2, 1), some (.aload_n 0, 1), some (.getfield 28, 3), none, none, some (.iload_n 3, 1), some (.iconst 5, 1), some (.iadd, 1), some (.iaload, 1), some (.imul, 1)], [some (.invokestatic 721, 3), none, none, some (.ifCond .eq 7, 3), none, none, some (.iconst 1, 1), some (.goto 4, 3), none, none, some (.iconst 0, 1), some (.istore 5, 2), none, some (.iload 5, 2), none, some (.ifCond .eq 69, 3)], [none, none, some (.aload_n 0, 1), some (.getfield 28, 3), none, none, some (.iload_n 3, 1), some (.bipush 15, 2), none, some (.iadd, 1), some (.iaload, 1), some (.ifCond .eq 53, 3), none, none, some (.aload_n 0, 1), some (.getfield 28, 3)], [none, none, some (.iload_n 3, 1), some (.bipush 34, 2), none, some (.iadd, 1), some (.iaload, 1), some (.aload_n 0, 1), some (.getfield 28, 3), none, none, some (.iload 4, 2), none, some (.bipush 34, 2), none, some (.iadd, 1)], [some (.iaload, 1), some (.if_icmp .ne 35, 3), none, none, some (.aload_n 0, 1), some (.getfield 28, 3), none, none, some (.iload_n 3, 1), some (.ldc 72, 2), none, some (.iadd, 1), some (.iload 4, 2), none, some (.ldc 72, 2)], [some (.iadd, 1), some (.aload_n 0, 1), some (.getfield 28, 3), none, none, some (.iload_n 3, 1), some (.bipush 34, 2), none, some (.iadd, 1), some (.iaload, 1), some (.invokestatic 721, 3), none, none, some (.ifCond .eq 7, 3)], [some (.iconst 1, 1), some (.goto 4, 3), none, none, some (.iconst 0, 1), some (.istore 5, 2), none, some (.iconst 0, 1), some (.istore 6, 2), none, some (.iload 6, 2), none, some (.aload_n 0, 1), some (.getfield 28, 3)], [some (.iload_n 3, 1), some (.iconst 4, 1), some (.iadd, 1), some (.iaload, 1), some (.if_icmp .ge 94, 3), none, none, some (.iload 5, 2), none, some (.ifCond .eq 89, 3), none, none, some (.iload_n 3, 1), some (.sipush 8292, 3)], [some (.iadd, 1), some (.bipush 40, 2), none, some (.iload 6, 2), none, some (.imul, 1), some (.iadd, 1), some (.istore 7, 2), none, some (.iload 4, 2), none, some (.sipush 8292, 3), none, none, some (.iadd, 1), some (.bipush 40, 2)], [none, some (.iload 6, 2), none, some (.imul, 1), some (.iadd, 1), some (.istore 8, 2), none, some (.aload_n 0, 1), some (.getfield 28, 3), none, none, some (.iload 7, 2), none, some (.iload 8, 2), none, some (.bipush 8, 2)], [none, some (.invokestatic 721, 3), none, none, some (.ifCond .eq 37, 3), none, none, some (.aload_n 0, 1), some (.getfield 28, 3), none, none, some (.iload 7, 2), none, some (.bipush 15, 2), none, some (.iadd, 1)], [some (.iload 8, 2), none, some (.bipush 15, 2), none, some (.iadd, 1), some (.aload_n 0, 1), some (.getfield 28, 3), none, none, some (.iload 7, 2), none, some (.bipush 6, 2), none, some (.iadd, 1), some (.iaload, 1), some (.invokestatic 721, 3)], [none, none, some (.ifCond .eq 7, 3), none, none, some (.iconst 1, 1), some (.goto 4, 3), none, none, some (.iconst 0, 1), some (.istore 5, 2), none, some (.iinc 6 1, 3), none, none, some (.goto (-101), 3)], [none, none, some (.iconst 0, 1), some (.istore 6, 2), none, some (.iload 6, 2), none, some (.iconst 4, 1), some (.if_icmp .ge 45, 3), none, none, some (.iload 5, 2), none, some (.ifCond .eq 40, 3)], [some (.aload_n 0, 1), some (.iload_n 3, 1), some (.sipush 30692, 3), none, none, some (.iadd, 1), some (.sipush 660, 3), none, none, some (.iload 6, 2), none, some (.imul, 1), some (.iadd, 1), some (.iload 4, 2), none, some (.sipush 30692, 3)], [none, none, some (.iadd, 1), some (.sipush 660, 3), none, none, some (.iload 6, 2), none, some (.imul, 1), some (.iadd, 1), some (.invokevirtual 725, 3), none, none, some (.istore 5, 2), none, some (.iinc 6 1, 3)], [none, none, some (.goto (-45), 3), none, none, some (.iload 5, 2), none, some (.ireturn, 1)]]
def zt_494 : Nat → Option (Instr × Nat) := fun k => zlook 16 ztL_494 k
def zm_494 : zMe := (yX12_same, cX12_same, 9, (some .boolean), 2, 12, 1, fun k => cond (Nat.blt k 664) (zt_494 k) none)
def ztL_456 : List (List (Option (Instr × Nat))) := [[some (.iload_n 0, 1), some (.iload_n 1, 1), some (.if_icmp .lt 12, 3), none, none, some (.iload_n 0, 1), some (.iload_n 2, 1), some (.if_icmp .gt 7, 3), none, none, some (.iconst 1, 1), some (.goto 4, 3), none, none, some (.iconst 0, 1), some (.ireturn, 1)]]
def zt_456 : Nat → Option (Instr × Nat) := fun k => zlook 16 ztL_456 k
def zm_456 : zMe := (yX12_isIn, cX12_isIn, 3, (some .boolean), 3, 12, 0, fun k => cond (Nat.blt k 16) (zt_456 k) none)
def ztL_457 : List (List (Option (Instr × Nat))) := [[some (.iload_n 1, 1), some (.iconst 0, 1), some (.iconst 2, 1), some (.invokestatic 599, 3), none, none, some (.ifCond .eq 24, 3), none, none, some (.aload_n 0, 1), some (.getfield 28, 3), none, none, some (.ldc_w 525, 3)], [some (.iload_n 1, 1), some (.imul, 1), some (.bipush 35, 2), none, some (.iadd, 1), some (.iaload, 1), some (.iconst 1, 1), some (.if_icmp .ne 7, 3), none, none, some (.iconst 1, 1), some (.goto 4, 3), none, none, some (.iconst 0, 1), some (.ireturn, 1)]]
def zt_457 : Nat → Option (Instr × Nat) := fun k => zlook 16 ztL_457 k
def zm_457 : zMe := (yX12_isSystem, cX12_isSystem, 2, (some .boolean), 1, 12, 1, fun k => cond (Nat.blt k 32) (zt_457 k) none)
def ztL_460 : List (List (Option (Instr × Nat))) := [[some (.iconst 0, 1), some (.istore_n 1, 1), some (.iload_n 1, 1), some (.aload_n 0, 1), some (.getfield 674, 3), none, none, some (.if_icmp .ge 25, 3), none, none, some (.aload_n 0, 1), some (.getfield 101, 3), none, none, some (.iload_n 1, 1), some (.aload_n 0, 1)], [some (.getfield 670, 3), none, none, some (.iload_n 1, 1), some (.baload, 1), some (.sipush 255, 3), none, none, some (.iand, 1), some (.iastore, 1), some (.iinc 1 1, 3), none, none, some (.goto (-27), 3)], [some (.aload_n 0, 1), some (.aload_n 0, 1), some (.getfield 674, 3), none, none, some (.putfield 87, 3), none, none, some (.aload_n 0, 1), some (.iconst 0, 1), some (.putfield 674, 3), none, none, some (.return_, 1)]]
def zt_460 : Nat → Option (Instr × Nat) := fun k => zlook 16 ztL_460 k
def zm_460 : zMe := (yX12_copyTape, cX12_copyTape, 2, none, 0, 12, 1, fun k => cond (Nat.blt k 46) (zt_460 k) none)
def ztL_461 : List (List (Option (Instr × Nat))) := [[some (.iconst 0, 1), some (.istore_n 1, 1), some (.iconst 0, 1), some (.istore_n 2, 1), some (.iload_n 2, 1), some (.iconst 3, 1), some (.if_icmp .ge 25, 3), none, none, some (.iload_n 1, 1), some (.aload_n 0, 1), some (.getfield 28, 3), none, none, some (.ldc_w 525, 3)], [none, some (.iload_n 2, 1), some (.imul, 1), some (.bipush 35, 2), none, some (.iadd, 1), some (.iaload, 1), some (.iadd, 1), some (.istore_n 1, 1), some (.iinc 2 1, 3), none, none, some (.goto (-24), 3), none, none, some (.iload_n 1, 1)], [some (.ireturn, 1)]]
def zt_461 : Nat → Option (Instr × Nat) := fun k => zlook 16 ztL_461 k
def zm_461 : zMe := (yX12_systems, cX12_systems, 3, (some .int), 0, 12, 1, fun k => cond (Nat.blt k 33) (zt_461 k) none)
def ztL_473 : List (List (Option (Instr × Nat))) := [[some (.aload_n 0, 1), some (.iload_n 1, 1), some (.invokevirtual 685, 3), none, none, some (.ifCond .eq 29, 3), none, none, some (.iload_n 2, 1), some (.iconst 0, 1), some (.aload_n 0, 1), some (.getfield 28, 3), none, none, some (.ldc_w 525, 3)], [none, some (.iload_n 1, 1), some (.imul, 1), some (.iconst 4, 1), some (.iadd, 1), some (.iaload, 1), some (.iconst 1, 1), some (.isub, 1), some (.invokestatic 599, 3), none, none, some (.ifCond .eq 7, 3), none, none, some (.iconst 1, 1), some (.goto 4, 3)], [none, none, some (.iconst 0, 1), some (.ireturn, 1)]]
def zt_473 : Nat → Option (Instr × Nat) := fun k => zlook 16 ztL_473 k
def zm_473 : zMe := (yX12_isOf, cX12_isOf, 3, (some .boolean), 2, 12, 1, fun k => cond (Nat.blt k 36) (zt_473 k) none)
def ztL_477 : List (List (Option (Instr × Nat))) := [[some (.aload_n 0, 1), some (.iload_n 1, 1), some (.iload_n 2, 1), some (.invokevirtual 691, 3), none, none, some (.ifCond .eq 57, 3), none, none, some (.aload_n 0, 1), some (.getfield 28, 3), none, none, some (.ldc_w 525, 3)], [some (.iload_n 1, 1), some (.imul, 1), some (.sipush 8292, 3), none, none, some (.iadd, 1), some (.bipush 40, 2), none, some (.iload_n 2, 1), some (.imul, 1), some (.iadd, 1), some (.iconst 0, 1), some (.iadd, 1), some (.iaload, 1), some (.iconst 1, 1), some (.if_icmp .ne 32, 3)], [none, none, some (.aload_n 0, 1), some (.getfield 28, 3), none, none, some (.ldc_w 525, 3), none, none, some (.iload_n 1, 1), some (.imul, 1), some (.sipush 8292, 3), none, none, some (.iadd, 1), some (.bipush 40, 2)], [none, some (.iload_n 2, 1), some (.imul, 1), some (.iadd, 1), some (.bipush 7, 2), none, some (.iadd, 1), some (.iaload, 1), some (.ifCond .ne 7, 3), none, none, some (.iconst 1, 1), some (.goto 4, 3), none, none, some (.iconst 0, 1)], [some (.ireturn, 1)]]
def zt_477 : Nat → Option (Instr × Nat) := fun k => zlook 16 ztL_477 k
def zm_477 : zMe := (yX12_isEnded, cX12_isEnded, 3, (some .boolean), 2, 12, 1, fun k => cond (Nat.blt k 65) (zt_477 k) none)
def ztL_330 : List (List (Option (Instr × Nat))) := [[some (.aload_n 0, 1), some (.getfield 28, 3), none, none, some (.aload_n 0, 1), some (.getfield 32, 3), none, none, some (.iconst 4, 1), some (.iadd, 1), some (.iaload, 1), some (.istore_n 3, 1), some (.iload_n 3, 1), some (.sipush 360, 3)], [some (.if_icmp .ne 11, 3), none, none, some (.aload_n 0, 1), some (.bipush (-8), 2), none, some (.putfield 25, 3), none, none, some (.iconst (-1), 1), some (.ireturn, 1), some (.aload_n 0, 1), some (.getfield 28, 3), none, none, some (.aload_n 0, 1)], [some (.getfield 32, 3), none, none, some (.iconst 4, 1), some (.iadd, 1), some (.dup2, 1), some (.iaload, 1), some (.iconst 1, 1), some (.iadd, 1), some (.iastore, 1), some (.aload_n 0, 1), some (.iload_n 3, 1), some (.invokevirtual 107, 3), none, none, some (.istore 4, 2)], [none, some (.iconst 0, 1), some (.istore 5, 2), none, some (.iload 5, 2), none, some (.bipush 40, 2), none, some (.if_icmp .ge 20, 3), none, none, some (.aload_n 0, 1), some (.getfield 28, 3), none, none, some (.iload 4, 2)], [none, some (.iload 5, 2), none, some (.iadd, 1), some (.iconst 0, 1), some (.iastore, 1), some (.iinc 5 1, 3), none, none, some (.goto (-21), 3), none, none, some (.aload_n 0, 1), some (.getfield 28, 3)], [some (.iload 4, 2), none, some (.iconst 0, 1), some (.iadd, 1), some (.iload_n 1, 1), some (.iastore, 1), some (.aload_n 0, 1), some (.getfield 28, 3), none, none, some (.iload 4, 2), none, some (.iconst 5, 1), some (.iadd, 1), some (.iconst (-1), 1), some (.iastore, 1)], [some (.aload_n 0, 1), some (.getfield 28, 3), none, none, some (.iload 4, 2), none, some (.bipush 8, 2), none, some (.iadd, 1), some (.iconst (-1), 1), some (.iastore, 1), some (.aload_n 0, 1), some (.getfield 28, 3), none, none, some (.iload 4, 2)], [none, some (.bipush 11, 2), none, some (.iadd, 1), some (.iconst (-1), 1), some (.iastore, 1), some (.iload_n 2, 1), some (.ifCond .eq 89, 3), none, none, some (.aload_n 0, 1), some (.getfield 28, 3), none, none, some (.iload 4, 2)], [some (.iconst 1, 1), some (.iadd, 1), some (.aload_n 0, 1), some (.getfield 28, 3), none, none, some (.aload_n 0, 1), some (.getfield 32, 3), none, none, some (.bipush 11, 2), none, some (.iadd, 1), some (.iaload, 1), some (.iastore, 1), some (.aload_n 0, 1)], [some (.getfield 28, 3), none, none, some (.iload 4, 2), none, some (.bipush 6, 2), none, some (.iadd, 1), some (.aload_n 0, 1), some (.getfield 87, 3), none, none, some (.iastore, 1), some (.iconst 0, 1), some (.istore 5, 2)], [some (.iload 5, 2), none, some (.aload_n 0, 1), some (.getfield 87, 3), none, none, some (.if_icmp .ge 29, 3), none, none, some (.aload_n 0, 1), some (.getfield 28, 3), none, none, some (.iload 4, 2), none, some (.bipush 15, 2)], [none, some (.iadd, 1), some (.iload 5, 2), none, some (.iadd, 1), some (.aload_n 0, 1), some (.getfield 101, 3), none, none, some (.iload 5, 2), none, some (.iaload, 1), some (.iastore, 1), some (.iinc 5 1, 3)], [some (.goto (-32), 3), none, none, some (.aload_n 0, 1), some (.getfield 28, 3), none, none, some (.aload_n 0, 1), some (.getfield 32, 3), none, none, some (.bipush 16, 2), none, some (.iadd, 1), some (.iload_n 3, 1), some (.iastore, 1)], [some (.iload_n 3, 1), some (.ireturn, 1)]]
def zt_330 : Nat → Option (Instr × Nat) := fun k => zlook 16 ztL_330 k
def zm_330 : zMe := (yX12_newWord, cX12_newWord, 6, (some .int), 2, 12, 1, fun k => cond (Nat.blt k 210) (zt_330 k) none)
def ztL_324 : List (List (Option (Instr × Nat))) := [[some (.aload_n 0, 1), some (.getfield 32, 3), none, none, some (.sipush 8292, 3), none, none, some (.iadd, 1), some (.bipush 40, 2), none, some (.iload_n 1, 1), some (.imul, 1), some (.iadd, 1), some (.ireturn, 1)]]
def zt_324 : Nat → Option (Instr × Nat) := fun k => zlook 16 ztL_324 k
def zm_324 : zMe := (yX12_wordAt, cX12_wordAt, 2, (some .int), 1, 12, 1, fun k => cond (Nat.blt k 14) (zt_324 k) none)
def zw_q2 : List Cond := [.selects RX12 yX12_systems yX12_systems, .selects RX12 yX12_newWord yX12_newWord, .selects RX12 yX12_wordAt yX12_wordAt, .selects RX12 yX12_copyTape yX12_copyTape, .selects RX12 yX12_isSystem yX12_isSystem, .selects RX12 yX12_put yX12_put, .selects RX12 yX12_word yX12_word, .selects RX12 yX12_item yX12_item, .selects RX12 yX12_effectOf yX12_effectOf, .selects RX12 yX12_isOf yX12_isOf, .selects RX12 yX12_isEnded yX12_isEnded, .initialized RX12, .static yX12_isIn, .code yX12_isIn cX12_isIn 3 (some .boolean), .instanceMethod yX12_systems, .code yX12_systems cX12_systems 3 (some .int), .instanceMethod yX12_newWord, .code yX12_newWord cX12_newWord 6 (some .int), .instanceMethod yX12_wordAt, .code yX12_wordAt cX12_wordAt 2 (some .int), .instanceMethod yX12_copyTape, .code yX12_copyTape cX12_copyTape 2 none, .instanceMethod yX12_isSystem, .code yX12_isSystem cX12_isSystem 2 (some .boolean), .instanceMethod yX12_put, .code yX12_put cX12_put 3 none, .instanceMethod yX12_word, .code yX12_word cX12_word 6 (some .boolean), .instanceMethod yX12_item, .code yX12_item cX12_item 4 none, .instanceMethod yX12_effectOf, .code yX12_effectOf cX12_effectOf 5 none, .instanceMethod yX12_word_, .selects RX12 yX12_word_ yX12_word_, .code yX12_word_ cX12_word_ 6 (some .int), .instanceMethod yX12_isOf, .code yX12_isOf cX12_isOf 3 (some .boolean), .instanceMethod yX12_name, .selects RX12 yX12_name yX12_name, .code yX12_name cX12_name 4 (some .int), .instanceMethod yX12_item_, .selects RX12 yX12_item_ yX12_item_, .code yX12_item_ cX12_item_ 4 (some .int), .instanceMethod yX12_effect, .selects RX12 yX12_effect yX12_effect, .code yX12_effect cX12_effect 3 (some .int), .instanceMethod yX12_isEnded, .code yX12_isEnded cX12_isEnded 3 (some .boolean), .instanceMethod yX12_effectOf_, .selects RX12 yX12_effectOf_ yX12_effectOf_, .code yX12_effectOf_ cX12_effectOf_ 4 (some .int), .instanceMethod yX12_lean, .selects RX12 yX12_lean yX12_lean, .code yX12_lean cX12_lean 8 (some .int), .instanceMethod yX12_chip, .selects RX12 yX12_chip yX12_chip, .code yX12_chip cX12_chip 7 (some .int), .instanceMethod yX12_chipWord, .selects RX12 yX12_chipWord yX12_chipWord, .code yX12_chipWord cX12_chipWord 2 (some .int), .instanceMethod yX12_chipPut, .selects RX12 yX12_chipPut yX12_chipPut, .code yX12_chipPut cX12_chipPut 2 (some .int), .instanceMethod yX12_chipGo, .selects RX12 yX12_chipGo yX12_chipGo, .code yX12_chipGo cX12_chipGo 3 (some .int), .instanceMethod yX12_chipTold, .selects RX12 yX12_chipTold yX12_chipTold, .code yX12_chipTold cX12_chipTold 4 (some .int), .instanceMethod yX12_chipCell, .selects RX12 yX12_chipCell yX12_chipCell, .code yX12_chipCell cX12_chipCell 3 (some .int), .instanceMethod yX12_chipByte, .selects RX12 yX12_chipByte yX12_chipByte, .code yX12_chipByte cX12_chipByte 2 (some .int), .instanceMethod yX12_put_, .selects RX12 yX12_put_ yX12_put_, .code yX12_put_ cX12_put_ 5 (some .int), .instanceMethod yX12_keep, .selects RX12 yX12_keep yX12_keep, .code yX12_keep cX12_keep 3 (some .int), .instanceMethod yX12_again, .selects RX12 yX12_again yX12_again, .code yX12_again cX12_again 4 (some .int), .instanceMethod yX12_same, .selects RX12 yX12_same yX12_same, .code yX12_same cX12_same 9 (some .boolean)]
set_option maxRecDepth 100000 in
theorem zw_q2_ok : ∀ w ∈ zw_q2, w ∈ zW := zw_gen _ [97, 98, 99, 103, 104, 153, 160, 174, 180, 245, 246, 279, 2355, 2356, 2367, 2368, 2374, 2375, 2378, 2379, 2398, 2399, 2402, 2403, 2607, 2608, 2643, 2644, 2703, 2704, 2728, 2729, 3035, 3036, 3037, 3040, 3041, 3043, 3044, 3045, 3047, 3048, 3049, 3051, 3052, 3053, 3056, 3057, 3059, 3060, 3061, 3063, 3064, 3065, 3093, 3094, 3095, 3116, 3117, 3118, 3120, 3121, 3122, 3128, 3129, 3130, 3144, 3145, 3146, 3149, 3150, 3151, 3153, 3154, 3155, 3158, 3159, 3160, 3162, 3163, 3164, 3170, 3171, 3172, 3174, 3175, 3176] rfl (by decide +kernel)
set_option maxRecDepth 100000 in
theorem zm_322_ok : zOK zm_322 := ⟨zw_q2_ok _ (List.mem_of_getElem? (i := 27) rfl), zw_q2_ok _ (List.mem_of_getElem? (i := 11) rfl), ⟨by decide +kernel, by decide +kernel, by decide +kernel⟩, by decide +kernel, Nat.le_of_ble_eq_true rfl, ⟨Nat.le_of_ble_eq_true rfl, rfl⟩, fun h => absurd h (by decide +kernel), fun _ => ⟨zw_q2_ok _ (List.mem_of_getElem? (i := 26) rfl), zw_q2_ok _ (List.mem_of_getElem? (i := 6) rfl)⟩, fun h => absurd h (by decide +kernel), zdecF cX12_word zt_322 [42, 182, 0, 78, 60, 42, 27, 182, 0, 81, 61, 42, 182, 0, 84, 66, 42, 3, 181, 0, 87, 27, 2, 159, 0, 18, 33, 28, 133, 148, 155, 0, 11, 42, 20, 0, 73, 28, 182, 0, 90, 27, 2, 159, 0, 10, 33, 28, 133, 148, 155, 0, 5, 3, 172, 33, 136, 54, 5, 21, 5, 28, 162, 0, 22, 42, 27, 21, 5, 182, 0, 93, 184, 0, 97, 153, 0, 9, 132, 5, 1, 167, 255, 234, 21, 5, 28, 162, 0, 48, 42, 27, 21, 5, 182, 0, 93, 184, 0, 97, 154, 0, 35, 42, 180, 0, 101, 42, 180, 0, 87, 42, 27, 21, 5, 182, 0, 93, 79, 42, 89, 180, 0, 87, 4, 96, 181, 0, 87, 132, 5, 1, 167, 255, 208, 42, 20, 0, 73, 21, 5, 28, 162, 0, 10, 21, 5, 4, 96, 167, 0, 5, 21, 5, 182, 0, 90, 42, 180, 0, 87, 158, 0, 7, 4, 167, 0, 4, 3, 172] 170 (by decide +kernel) (Nat.le_of_ble_eq_true rfl) (by decide +kernel)⟩
set_option maxRecDepth 100000 in
theorem zm_474_ok : zOK zm_474 := ⟨zw_q2_ok _ (List.mem_of_getElem? (i := 34) rfl), zw_q2_ok _ (List.mem_of_getElem? (i := 11) rfl), ⟨by decide +kernel, by decide +kernel, by decide +kernel⟩, by decide +kernel, Nat.le_of_ble_eq_true rfl, ⟨Nat.le_of_ble_eq_true rfl, rfl⟩, fun h => absurd h (by decide +kernel), fun _ => ⟨zw_q2_ok _ (List.mem_of_getElem? (i := 32) rfl), zw_q2_ok _ (List.mem_of_getElem? (i := 33) rfl)⟩, fun h => absurd h (by decide +kernel), zdecF cX12_word_ zt_474 [42, 27, 28, 182, 2, 179, 153, 0, 13, 29, 3, 16, 7, 184, 2, 87, 154, 0, 6, 16, 254, 172, 42, 27, 182, 2, 14, 42, 28, 182, 0, 107, 54, 4, 42, 180, 0, 28, 21, 4, 3, 96, 46, 54, 5, 29, 170, 0, 0, 0, 0, 132, 0, 0, 0, 0, 0, 0, 0, 6, 0, 0, 0, 42, 0, 0, 0, 45, 0, 0, 0, 55, 0, 0, 0, 65, 0, 0, 0, 91, 0, 0, 0, 111, 0, 0, 0, 121, 21, 5, 172, 42, 180, 0, 28, 21, 4, 5, 96, 46, 172, 42, 180, 0, 28, 21, 4, 4, 96, 46, 172, 21, 5, 16, 6, 159, 0, 8, 21, 5, 154, 0, 7, 3, 167, 0, 12, 42, 180, 0, 28, 21, 4, 6, 96, 46, 172, 21, 5, 4, 160, 0, 15, 42, 180, 0, 28, 21, 4, 7, 96, 46, 167, 0, 4, 3, 172, 42, 180, 0, 28, 21, 4, 8, 96, 46, 172, 42, 180, 0, 28, 21, 4, 16, 6, 96, 46, 172, 42, 180, 0, 28, 21, 4, 16, 7, 96, 46, 172] 189 (by decide +kernel) (Nat.le_of_ble_eq_true rfl) (by decide +kernel)⟩
set_option maxRecDepth 100000 in
theorem zm_475_ok : zOK zm_475 := ⟨zw_q2_ok _ (List.mem_of_getElem? (i := 39) rfl), zw_q2_ok _ (List.mem_of_getElem? (i := 11) rfl), ⟨by decide +kernel, by decide +kernel, by decide +kernel⟩, by decide +kernel, Nat.le_of_ble_eq_true rfl, ⟨Nat.le_of_ble_eq_true rfl, rfl⟩, fun h => absurd h (by decide +kernel), fun _ => ⟨zw_q2_ok _ (List.mem_of_getElem? (i := 37) rfl), zw_q2_ok _ (List.mem_of_getElem? (i := 38) rfl)⟩, fun h => absurd h (by decide +kernel), zdecF cX12_name zt_475 [42, 27, 28, 182, 2, 179, 154, 0, 6, 16, 254, 172, 42, 27, 182, 2, 14, 29, 3, 42, 180, 0, 28, 42, 28, 182, 0, 107, 16, 6, 96, 46, 4, 100, 184, 2, 87, 153, 0, 21, 42, 180, 0, 28, 42, 28, 182, 0, 107, 16, 15, 96, 29, 96, 46, 167, 0, 4, 2, 172] 60 (by decide +kernel) (Nat.le_of_ble_eq_true rfl) (by decide +kernel)⟩
set_option maxRecDepth 100000 in
theorem zm_332_ok : zOK zm_332 := ⟨zw_q2_ok _ (List.mem_of_getElem? (i := 29) rfl), zw_q2_ok _ (List.mem_of_getElem? (i := 11) rfl), ⟨by decide +kernel, by decide +kernel, by decide +kernel⟩, by decide +kernel, Nat.le_of_ble_eq_true rfl, ⟨Nat.le_of_ble_eq_true rfl, rfl⟩, fun h => absurd h (by decide +kernel), fun _ => ⟨zw_q2_ok _ (List.mem_of_getElem? (i := 28) rfl), zw_q2_ok _ (List.mem_of_getElem? (i := 7) rfl)⟩, fun h => absurd h (by decide +kernel), zdecF cX12_item zt_332 [42, 180, 0, 28, 42, 180, 0, 32, 8, 96, 46, 62, 29, 17, 15, 160, 160, 0, 9, 42, 16, 248, 181, 0, 25, 42, 180, 0, 25, 154, 0, 42, 42, 180, 0, 28, 42, 29, 182, 0, 117, 27, 79, 42, 180, 0, 28, 42, 29, 182, 0, 117, 4, 96, 28, 79, 42, 180, 0, 28, 42, 180, 0, 32, 8, 96, 92, 46, 4, 96, 79, 177] 72 (by decide +kernel) (Nat.le_of_ble_eq_true rfl) (by decide +kernel)⟩
set_option maxRecDepth 100000 in
theorem zm_476_ok : zOK zm_476 := ⟨zw_q2_ok _ (List.mem_of_getElem? (i := 42) rfl), zw_q2_ok _ (List.mem_of_getElem? (i := 11) rfl), ⟨by decide +kernel, by decide +kernel, by decide +kernel⟩, by decide +kernel, Nat.le_of_ble_eq_true rfl, ⟨Nat.le_of_ble_eq_true rfl, rfl⟩, fun h => absurd h (by decide +kernel), fun _ => ⟨zw_q2_ok _ (List.mem_of_getElem? (i := 40) rfl), zw_q2_ok _ (List.mem_of_getElem? (i := 41) rfl)⟩, fun h => absurd h (by decide +kernel), zdecF cX12_item_ zt_476 [42, 27, 182, 2, 173, 153, 0, 34, 29, 3, 4, 184, 2, 87, 153, 0, 25, 28, 3, 42, 180, 0, 28, 19, 2, 13, 27, 104, 8, 96, 46, 4, 100, 184, 2, 87, 154, 0, 6, 16, 254, 172, 42, 27, 182, 2, 14, 42, 180, 0, 28, 42, 28, 182, 0, 117, 29, 96, 46, 172] 60 (by decide +kernel) (Nat.le_of_ble_eq_true rfl) (by decide +kernel)⟩
set_option maxRecDepth 100000 in
theorem zm_478_ok : zOK zm_478 := ⟨zw_q2_ok _ (List.mem_of_getElem? (i := 45) rfl), zw_q2_ok _ (List.mem_of_getElem? (i := 11) rfl), ⟨by decide +kernel, by decide +kernel, by decide +kernel⟩, by decide +kernel, Nat.le_of_ble_eq_true rfl, ⟨Nat.le_of_ble_eq_true rfl, rfl⟩, fun h => absurd h (by decide +kernel), fun _ => ⟨zw_q2_ok _ (List.mem_of_getElem? (i := 43) rfl), zw_q2_ok _ (List.mem_of_getElem? (i := 44) rfl)⟩, fun h => absurd h (by decide +kernel), zdecF cX12_effect zt_478 [42, 27, 28, 182, 2, 182, 154, 0, 6, 16, 254, 172, 42, 27, 182, 2, 14, 42, 180, 0, 28, 42, 28, 182, 0, 107, 16, 8, 96, 46, 172] 31 (by decide +kernel) (Nat.le_of_ble_eq_true rfl) (by decide +kernel)⟩
set_option maxRecDepth 100000 in
theorem zm_441_ok : zOK zm_441 := ⟨zw_q2_ok _ (List.mem_of_getElem? (i := 31) rfl), zw_q2_ok _ (List.mem_of_getElem? (i := 11) rfl), ⟨by decide +kernel, by decide +kernel, by decide +kernel⟩, by decide +kernel, Nat.le_of_ble_eq_true rfl, ⟨Nat.le_of_ble_eq_true rfl, rfl⟩, fun h => absurd h (by decide +kernel), fun _ => ⟨zw_q2_ok _ (List.mem_of_getElem? (i := 30) rfl), zw_q2_ok _ (List.mem_of_getElem? (i := 8) rfl)⟩, fun h => absurd h (by decide +kernel), zdecF cX12_effectOf zt_441 [42, 27, 182, 0, 107, 61, 42, 27, 3, 3, 3, 182, 2, 79, 42, 180, 2, 20, 4, 160, 0, 73, 42, 180, 2, 47, 153, 0, 66, 42, 180, 2, 41, 116, 62, 29, 42, 180, 2, 54, 96, 54, 4, 42, 27, 4, 29, 21, 4, 182, 2, 79, 42, 180, 2, 20, 4, 160, 0, 35, 42, 180, 2, 41, 116, 29, 160, 0, 17, 42, 180, 2, 54, 42, 180, 2, 41, 100, 21, 4, 159, 0, 12, 42, 42, 180, 2, 26, 5, 182, 2, 32, 42, 180, 0, 28, 28, 16, 8, 96, 42, 180, 2, 20, 79, 42, 180, 0, 28, 28, 16, 9, 96, 42, 180, 2, 20, 4, 160, 0, 11, 42, 180, 2, 41, 116, 167, 0, 4, 3, 79, 42, 180, 0, 28, 28, 16, 10, 96, 42, 180, 2, 20, 4, 160, 0, 15, 42, 180, 2, 54, 42, 180, 2, 41, 100, 167, 0, 4, 3, 79, 42, 180, 0, 28, 28, 16, 11, 96, 42, 180, 2, 20, 4, 160, 0, 7, 2, 167, 0, 7, 42, 180, 2, 23, 79, 177] 187 (by decide +kernel) (Nat.le_of_ble_eq_true rfl) (by decide +kernel)⟩
set_option maxRecDepth 100000 in
theorem zm_479_ok : zOK zm_479 := ⟨zw_q2_ok _ (List.mem_of_getElem? (i := 50) rfl), zw_q2_ok _ (List.mem_of_getElem? (i := 11) rfl), ⟨by decide +kernel, by decide +kernel, by decide +kernel⟩, by decide +kernel, Nat.le_of_ble_eq_true rfl, ⟨Nat.le_of_ble_eq_true rfl, rfl⟩, fun h => absurd h (by decide +kernel), fun _ => ⟨zw_q2_ok _ (List.mem_of_getElem? (i := 48) rfl), zw_q2_ok _ (List.mem_of_getElem? (i := 49) rfl)⟩, fun h => absurd h (by decide +kernel), zdecF cX12_effectOf_ zt_479 [42, 27, 28, 182, 2, 182, 153, 0, 12, 29, 3, 5, 184, 2, 87, 154, 0, 6, 16, 254, 172, 42, 27, 182, 2, 14, 42, 180, 0, 28, 42, 28, 182, 0, 107, 16, 9, 96, 29, 96, 46, 172] 42 (by decide +kernel) (Nat.le_of_ble_eq_true rfl) (by decide +kernel)⟩
set_option maxRecDepth 100000 in
theorem zm_480_ok : zOK zm_480 := ⟨zw_q2_ok _ (List.mem_of_getElem? (i := 53) rfl), zw_q2_ok _ (List.mem_of_getElem? (i := 11) rfl), ⟨by decide +kernel, by decide +kernel, by decide +kernel⟩, by decide +kernel, Nat.le_of_ble_eq_true rfl, ⟨Nat.le_of_ble_eq_true rfl, rfl⟩, fun h => absurd h (by decide +kernel), fun _ => ⟨zw_q2_ok _ (List.mem_of_getElem? (i := 51) rfl), zw_q2_ok _ (List.mem_of_getElem? (i := 52) rfl)⟩, fun h => absurd h (by decide +kernel), zdecF cX12_lean zt_480 [42, 27, 28, 182, 2, 182, 154, 0, 6, 16, 254, 172, 42, 27, 182, 2, 14, 42, 28, 182, 0, 107, 62, 42, 180, 0, 28, 29, 16, 12, 96, 46, 4, 159, 0, 29, 42, 180, 0, 28, 29, 16, 13, 96, 46, 4, 159, 0, 16, 42, 180, 0, 28, 29, 16, 14, 96, 46, 4, 160, 0, 6, 16, 254, 172, 42, 180, 0, 28, 42, 180, 0, 32, 16, 15, 96, 46, 4, 159, 0, 18, 42, 180, 0, 28, 42, 180, 0, 32, 16, 24, 96, 46, 158, 0, 7, 4, 167, 0, 4, 3, 54, 4, 4, 54, 5, 21, 5, 7, 162, 0, 51, 21, 4, 154, 0, 33, 42, 180, 0, 28, 42, 21, 5, 182, 1, 207, 46, 4, 159, 0, 18, 42, 180, 0, 28, 42, 21, 5, 182, 1, 207, 46, 5, 160, 0, 7, 4, 167, 0, 4, 3, 54, 4, 132, 5, 1, 167, 255, 205, 21, 4, 153, 0, 6, 16, 253, 172, 42, 180, 0, 28, 29, 7, 96, 46, 54, 5, 4, 54, 6, 21, 6, 153, 0, 66, 3, 54, 6, 42, 29, 182, 2, 185, 42, 180, 0, 28, 29, 6, 96, 46, 54, 7, 21, 7, 42, 180, 0, 28, 29, 6, 96, 46, 42, 180, 0, 28, 29, 7, 96, 46, 96, 162, 0, 23, 21, 6, 154, 0, 18, 42, 29, 21, 7, 182, 2, 188, 54, 6, 132, 7, 1, 167, 255, 217, 167, 255, 191, 21, 5, 42, 180, 0, 28, 29, 7, 96, 46, 100, 172] 261 (by decide +kernel) (Nat.le_of_ble_eq_true rfl) (by decide +kernel)⟩
set_option maxRecDepth 100000 in
theorem zm_481_ok : zOK zm_481 := ⟨zw_q2_ok _ (List.mem_of_getElem? (i := 56) rfl), zw_q2_ok _ (List.mem_of_getElem? (i := 11) rfl), ⟨by decide +kernel, by decide +kernel, by decide +kernel⟩, by decide +kernel, Nat.le_of_ble_eq_true rfl, ⟨Nat.le_of_ble_eq_true rfl, rfl⟩, fun h => absurd h (by decide +kernel), fun _ => ⟨zw_q2_ok _ (List.mem_of_getElem? (i := 54) rfl), zw_q2_ok _ (List.mem_of_getElem? (i := 55) rfl)⟩, fun h => absurd h (by decide +kernel), zdecF cX12_chip zt_481 [42, 27, 28, 182, 2, 182, 154, 0, 6, 16, 254, 172, 42, 27, 182, 2, 14, 42, 3, 181, 2, 107, 42, 3, 181, 2, 116, 42, 28, 182, 2, 125, 62, 4, 54, 4, 3, 54, 5, 21, 5, 42, 180, 2, 107, 162, 0, 22, 21, 4, 153, 0, 17, 42, 21, 5, 182, 2, 191, 54, 4, 132, 5, 1, 167, 255, 231, 21, 4, 154, 0, 10, 42, 3, 181, 2, 116, 3, 172, 3, 54, 5, 21, 5, 42, 180, 2, 107, 162, 0, 15, 42, 21, 5, 182, 2, 194, 132, 5, 1, 167, 255, 238, 19, 2, 197, 54, 5, 3, 54, 6, 21, 6, 17, 16, 0, 162, 0, 37, 42, 180, 0, 28, 21, 5, 16, 100, 96, 21, 6, 96, 42, 180, 0, 28, 42, 180, 0, 32, 16, 100, 96, 21, 6, 96, 46, 79, 132, 6, 1, 167, 255, 217, 42, 180, 0, 28, 21, 5, 4, 96, 42, 180, 0, 28, 42, 180, 0, 32, 4, 96, 46, 79, 42, 180, 0, 28, 21, 5, 5, 96, 42, 180, 0, 28, 42, 180, 0, 32, 5, 96, 46, 79, 42, 180, 0, 28, 21, 5, 16, 12, 96, 3, 79, 42, 21, 5, 17, 119, 228, 96, 182, 1, 210, 42, 3, 181, 2, 133, 42, 3, 181, 2, 146, 42, 3, 181, 2, 137, 42, 3, 181, 2, 149, 42, 180, 2, 116, 172] 239 (by decide +kernel) (Nat.le_of_ble_eq_true rfl) (by decide +kernel)⟩
set_option maxRecDepth 100000 in
theorem zm_482_ok : zOK zm_482 := ⟨zw_q2_ok _ (List.mem_of_getElem? (i := 59) rfl), zw_q2_ok _ (List.mem_of_getElem? (i := 11) rfl), ⟨by decide +kernel, by decide +kernel, by decide +kernel⟩, by decide +kernel, Nat.le_of_ble_eq_true rfl, ⟨Nat.le_of_ble_eq_true rfl, rfl⟩, fun h => absurd h (by decide +kernel), fun _ => ⟨zw_q2_ok _ (List.mem_of_getElem? (i := 57) rfl), zw_q2_ok _ (List.mem_of_getElem? (i := 58) rfl)⟩, fun h => absurd h (by decide +kernel), zdecF cX12_chipWord zt_482 [27, 3, 42, 180, 2, 116, 4, 100, 184, 2, 87, 153, 0, 12, 42, 180, 2, 128, 27, 46, 167, 0, 4, 2, 172] 25 (by decide +kernel) (Nat.le_of_ble_eq_true rfl) (by decide +kernel)⟩
set_option maxRecDepth 100000 in
theorem zm_484_ok : zOK zm_484 := ⟨zw_q2_ok _ (List.mem_of_getElem? (i := 62) rfl), zw_q2_ok _ (List.mem_of_getElem? (i := 11) rfl), ⟨by decide +kernel, by decide +kernel, by decide +kernel⟩, by decide +kernel, Nat.le_of_ble_eq_true rfl, ⟨Nat.le_of_ble_eq_true rfl, rfl⟩, fun h => absurd h (by decide +kernel), fun _ => ⟨zw_q2_ok _ (List.mem_of_getElem? (i := 60) rfl), zw_q2_ok _ (List.mem_of_getElem? (i := 61) rfl)⟩, fun h => absurd h (by decide +kernel), zdecF cX12_chipPut zt_484 [42, 180, 2, 116, 153, 0, 17, 42, 180, 2, 149, 154, 0, 10, 42, 180, 2, 146, 153, 0, 6, 16, 253, 172, 42, 182, 2, 198, 42, 180, 0, 28, 42, 180, 0, 50, 5, 96, 46, 16, 64, 160, 0, 6, 16, 252, 172, 42, 27, 133, 182, 0, 56, 42, 180, 0, 28, 42, 180, 0, 50, 5, 96, 46, 172] 65 (by decide +kernel) (Nat.le_of_ble_eq_true rfl) (by decide +kernel)⟩
set_option maxRecDepth 100000 in
theorem zm_485_ok : zOK zm_485 := ⟨zw_q2_ok _ (List.mem_of_getElem? (i := 65) rfl), zw_q2_ok _ (List.mem_of_getElem? (i := 11) rfl), ⟨by decide +kernel, by decide +kernel, by decide +kernel⟩, by decide +kernel, Nat.le_of_ble_eq_true rfl, ⟨Nat.le_of_ble_eq_true rfl, rfl⟩, fun h => absurd h (by decide +kernel), fun _ => ⟨zw_q2_ok _ (List.mem_of_getElem? (i := 63) rfl), zw_q2_ok _ (List.mem_of_getElem? (i := 64) rfl)⟩, fun h => absurd h (by decide +kernel), zdecF cX12_chipGo zt_485 [27, 4, 17, 78, 32, 184, 2, 87, 154, 0, 6, 16, 254, 172, 42, 180, 2, 116, 154, 0, 6, 16, 253, 172, 42, 182, 2, 198, 3, 61, 28, 27, 162, 0, 27, 42, 180, 2, 149, 154, 0, 20, 42, 180, 2, 146, 154, 0, 13, 42, 182, 2, 201, 132, 2, 1, 167, 255, 230, 42, 180, 2, 146, 153, 0, 8, 16, 254, 167, 0, 15, 42, 180, 2, 149, 153, 0, 7, 3, 167, 0, 4, 4, 172] 84 (by decide +kernel) (Nat.le_of_ble_eq_true rfl) (by decide +kernel)⟩
set_option maxRecDepth 100000 in
theorem zm_486_ok : zOK zm_486 := ⟨zw_q2_ok _ (List.mem_of_getElem? (i := 68) rfl), zw_q2_ok _ (List.mem_of_getElem? (i := 11) rfl), ⟨by decide +kernel, by decide +kernel, by decide +kernel⟩, by decide +kernel, Nat.le_of_ble_eq_true rfl, ⟨Nat.le_of_ble_eq_true rfl, rfl⟩, fun h => absurd h (by decide +kernel), fun _ => ⟨zw_q2_ok _ (List.mem_of_getElem? (i := 66) rfl), zw_q2_ok _ (List.mem_of_getElem? (i := 67) rfl)⟩, fun h => absurd h (by decide +kernel), zdecF cX12_chipTold zt_486 [27, 3, 16, 7, 184, 2, 87, 154, 0, 6, 16, 254, 172, 19, 2, 204, 61, 42, 180, 2, 116, 158, 0, 7, 4, 167, 0, 4, 3, 62, 27, 170, 0, 0, 0, 136, 0, 0, 0, 0, 0, 0, 0, 6, 0, 0, 0, 41, 0, 0, 0, 54, 0, 0, 0, 71, 0, 0, 0, 88, 0, 0, 0, 105, 0, 0, 0, 118, 0, 0, 0, 131, 29, 153, 0, 10, 42, 180, 2, 133, 167, 0, 4, 3, 172, 29, 153, 0, 14, 42, 180, 0, 28, 28, 5, 96, 46, 167, 0, 4, 3, 172, 29, 153, 0, 14, 42, 180, 0, 28, 28, 6, 96, 46, 167, 0, 4, 3, 172, 29, 153, 0, 14, 42, 180, 0, 28, 28, 7, 96, 46, 167, 0, 4, 3, 172, 29, 153, 0, 10, 42, 180, 2, 146, 167, 0, 4, 3, 172, 29, 153, 0, 10, 42, 180, 2, 137, 167, 0, 4, 3, 172, 42, 180, 2, 116, 172, 29, 153, 0, 15, 42, 180, 0, 28, 28, 16, 6, 96, 46, 167, 0, 4, 3, 172] 185 (by decide +kernel) (Nat.le_of_ble_eq_true rfl) (by decide +kernel)⟩
set_option maxRecDepth 100000 in
theorem zm_487_ok : zOK zm_487 := ⟨zw_q2_ok _ (List.mem_of_getElem? (i := 71) rfl), zw_q2_ok _ (List.mem_of_getElem? (i := 11) rfl), ⟨by decide +kernel, by decide +kernel, by decide +kernel⟩, by decide +kernel, Nat.le_of_ble_eq_true rfl, ⟨Nat.le_of_ble_eq_true rfl, rfl⟩, fun h => absurd h (by decide +kernel), fun _ => ⟨zw_q2_ok _ (List.mem_of_getElem? (i := 69) rfl), zw_q2_ok _ (List.mem_of_getElem? (i := 70) rfl)⟩, fun h => absurd h (by decide +kernel), zdecF cX12_chipCell zt_487 [19, 2, 204, 61, 42, 180, 2, 116, 158, 0, 46, 27, 3, 42, 180, 0, 28, 28, 5, 96, 46, 4, 100, 184, 2, 87, 153, 0, 28, 42, 180, 0, 28, 28, 16, 20, 96, 42, 180, 0, 28, 28, 5, 96, 46, 96, 4, 100, 27, 100, 46, 167, 0, 4, 3, 172] 56 (by decide +kernel) (Nat.le_of_ble_eq_true rfl) (by decide +kernel)⟩
set_option maxRecDepth 100000 in
theorem zm_488_ok : zOK zm_488 := ⟨zw_q2_ok _ (List.mem_of_getElem? (i := 74) rfl), zw_q2_ok _ (List.mem_of_getElem? (i := 11) rfl), ⟨by decide +kernel, by decide +kernel, by decide +kernel⟩, by decide +kernel, Nat.le_of_ble_eq_true rfl, ⟨Nat.le_of_ble_eq_true rfl, rfl⟩, fun h => absurd h (by decide +kernel), fun _ => ⟨zw_q2_ok _ (List.mem_of_getElem? (i := 72) rfl), zw_q2_ok _ (List.mem_of_getElem? (i := 73) rfl)⟩, fun h => absurd h (by decide +kernel), zdecF cX12_chipByte zt_488 [42, 180, 2, 116, 158, 0, 27, 27, 3, 17, 15, 255, 184, 2, 87, 153, 0, 16, 42, 180, 0, 28, 19, 2, 205, 27, 96, 46, 167, 0, 4, 2, 172] 33 (by decide +kernel) (Nat.le_of_ble_eq_true rfl) (by decide +kernel)⟩
set_option maxRecDepth 100000 in
theorem zm_315_ok : zOK zm_315 := ⟨zw_q2_ok _ (List.mem_of_getElem? (i := 25) rfl), zw_q2_ok _ (List.mem_of_getElem? (i := 11) rfl), ⟨by decide +kernel, by decide +kernel, by decide +kernel⟩, by decide +kernel, Nat.le_of_ble_eq_true rfl, ⟨Nat.le_of_ble_eq_true rfl, rfl⟩, fun h => absurd h (by decide +kernel), fun _ => ⟨zw_q2_ok _ (List.mem_of_getElem? (i := 24) rfl), zw_q2_ok _ (List.mem_of_getElem? (i := 5) rfl)⟩, fun h => absurd h (by decide +kernel), zdecF cX12_put zt_315 [42, 180, 0, 28, 42, 180, 0, 32, 16, 6, 96, 46, 61, 28, 17, 11, 184, 162, 0, 22, 42, 180, 0, 28, 42, 180, 0, 32, 18, 70, 96, 28, 96, 27, 17, 0, 255, 126, 79, 42, 180, 0, 28, 42, 180, 0, 32, 16, 6, 96, 28, 18, 71, 160, 0, 7, 28, 167, 0, 6, 28, 4, 96, 79, 177] 65 (by decide +kernel) (Nat.le_of_ble_eq_true rfl) (by decide +kernel)⟩
set_option maxRecDepth 100000 in
theorem zm_489_ok : zOK zm_489 := ⟨zw_q2_ok _ (List.mem_of_getElem? (i := 77) rfl), zw_q2_ok _ (List.mem_of_getElem? (i := 11) rfl), ⟨by decide +kernel, by decide +kernel, by decide +kernel⟩, by decide +kernel, Nat.le_of_ble_eq_true rfl, ⟨Nat.le_of_ble_eq_true rfl, rfl⟩, fun h => absurd h (by decide +kernel), fun _ => ⟨zw_q2_ok _ (List.mem_of_getElem? (i := 75) rfl), zw_q2_ok _ (List.mem_of_getElem? (i := 76) rfl)⟩, fun h => absurd h (by decide +kernel), zdecF cX12_put_ zt_489 [42, 182, 2, 170, 42, 27, 182, 2, 173, 153, 0, 32, 28, 3, 16, 7, 184, 2, 87, 153, 0, 22, 29, 155, 0, 18, 29, 133, 42, 180, 0, 87, 133, 97, 20, 1, 18, 148, 158, 0, 6, 16, 254, 172, 3, 54, 4, 21, 4, 42, 180, 0, 87, 162, 0, 41, 42, 180, 0, 28, 19, 2, 13, 27, 104, 17, 16, 100, 96, 17, 2, 0, 28, 104, 96, 29, 96, 21, 4, 96, 42, 180, 0, 101, 21, 4, 46, 79, 132, 4, 1, 167, 255, 212, 42, 180, 0, 87, 172] 99 (by decide +kernel) (Nat.le_of_ble_eq_true rfl) (by decide +kernel)⟩
set_option maxRecDepth 100000 in
theorem zm_491_ok : zOK zm_491 := ⟨zw_q2_ok _ (List.mem_of_getElem? (i := 80) rfl), zw_q2_ok _ (List.mem_of_getElem? (i := 11) rfl), ⟨by decide +kernel, by decide +kernel, by decide +kernel⟩, by decide +kernel, Nat.le_of_ble_eq_true rfl, ⟨Nat.le_of_ble_eq_true rfl, rfl⟩, fun h => absurd h (by decide +kernel), fun _ => ⟨zw_q2_ok _ (List.mem_of_getElem? (i := 78) rfl), zw_q2_ok _ (List.mem_of_getElem? (i := 79) rfl)⟩, fun h => absurd h (by decide +kernel), zdecF cX12_keep zt_491 [42, 27, 182, 2, 173, 153, 0, 12, 28, 3, 4, 184, 2, 87, 154, 0, 6, 16, 254, 172, 42, 27, 6, 28, 96, 182, 2, 206, 4, 172] 30 (by decide +kernel) (Nat.le_of_ble_eq_true rfl) (by decide +kernel)⟩
set_option maxRecDepth 100000 in
theorem zm_492_ok : zOK zm_492 := ⟨zw_q2_ok _ (List.mem_of_getElem? (i := 83) rfl), zw_q2_ok _ (List.mem_of_getElem? (i := 11) rfl), ⟨by decide +kernel, by decide +kernel, by decide +kernel⟩, by decide +kernel, Nat.le_of_ble_eq_true rfl, ⟨Nat.le_of_ble_eq_true rfl, rfl⟩, fun h => absurd h (by decide +kernel), fun _ => ⟨zw_q2_ok _ (List.mem_of_getElem? (i := 81) rfl), zw_q2_ok _ (List.mem_of_getElem? (i := 82) rfl)⟩, fun h => absurd h (by decide +kernel), zdecF cX12_again zt_492 [42, 182, 2, 165, 62, 27, 3, 29, 184, 2, 87, 153, 0, 12, 28, 3, 4, 184, 2, 87, 154, 0, 6, 16, 254, 172, 42, 180, 0, 28, 19, 2, 13, 6, 28, 96, 104, 16, 35, 96, 46, 154, 0, 5, 2, 172, 27, 6, 160, 0, 6, 16, 252, 172, 42, 6, 28, 96, 27, 182, 2, 206, 27, 172] 64 (by decide +kernel) (Nat.le_of_ble_eq_true rfl) (by decide +kernel)⟩
set_option maxRecDepth 100000 in
theorem zm_494_ok : zOK zm_494 := ⟨zw_q2_ok _ (List.mem_of_getElem? (i := 86) rfl), zw_q2_ok _ (List.mem_of_getElem? (i := 11) rfl), ⟨by decide +kernel, by decide +kernel, by decide +kernel⟩, by decide +kernel, Nat.le_of_ble_eq_true rfl, ⟨Nat.le_of_ble_eq_true rfl, rfl⟩, fun h => absurd h (by decide +kernel), fun _ => ⟨zw_q2_ok _ (List.mem_of_getElem? (i := 84) rfl), zw_q2_ok _ (List.mem_of_getElem? (i := 85) rfl)⟩, fun h => absurd h (by decide +kernel), zdecF cX12_same zt_494 [42, 27, 182, 2, 173, 153, 0, 11, 42, 28, 182, 2, 173, 154, 0, 5, 3, 172, 19, 2, 13, 27, 104, 62, 19, 2, 13, 28, 104, 54, 4, 42, 180, 0, 28, 29, 4, 96, 46, 42, 180, 0, 28, 21, 4, 4, 96, 46, 160, 1, 29, 42, 180, 0, 28, 29, 5, 96, 46, 42, 180, 0, 28, 21, 4, 5, 96, 46, 160, 1, 9, 42, 180, 0, 28, 29, 6, 96, 46, 42, 180, 0, 28, 21, 4, 6, 96, 46, 160, 0, 245, 42, 180, 0, 28, 29, 7, 96, 46, 42, 180, 0, 28, 21, 4, 7, 96, 46, 160, 0, 225, 42, 180, 0, 28, 29, 8, 96, 46, 42, 180, 0, 28, 21, 4, 8, 96, 46, 160, 0, 205, 42, 180, 0, 28, 29, 16, 8, 96, 46, 42, 180, 0, 28, 21, 4, 16, 8, 96, 46, 160, 0, 183, 42, 180, 0, 28, 29, 16, 9, 96, 46, 42, 180, 0, 28, 21, 4, 16, 9, 96, 46, 160, 0, 161, 42, 180, 0, 28, 29, 16, 10, 96, 46, 42, 180, 0, 28, 21, 4, 16, 10, 96, 46, 160, 0, 139, 42, 180, 0, 28, 29, 16, 11, 96, 46, 42, 180, 0, 28, 21, 4, 16, 11, 96, 46, 160, 0, 117, 42, 180, 0, 28, 29, 16, 12, 96, 46, 42, 180, 0, 28, 21, 4, 16, 12, 96, 46, 160, 0, 95, 42, 180, 0, 28, 29, 16, 15, 96, 46, 42, 180, 0, 28, 21, 4, 16, 15, 96, 46, 160, 0, 73, 42, 180, 0, 28, 29, 16, 16, 96, 46, 42, 180, 0, 28, 21, 4, 16, 16, 96, 46, 160, 0, 51, 42, 180, 0, 28, 29, 16, 17, 96, 46, 42, 180, 0, 28, 21, 4, 16, 17, 96, 46, 160, 0, 29, 42, 180, 0, 28, 29, 16, 24, 96, 46, 42, 180, 0, 28, 21, 4, 16, 24, 96, 46, 160, 0, 7, 4, 167, 0, 4, 3, 54, 5, 21, 5, 153, 0, 88, 42, 180, 0, 28, 29, 16, 25, 96, 21, 4, 16, 25, 96, 42, 180, 0, 28, 29, 16, 10, 96, 46, 184, 2, 209, 153, 0, 60, 42, 180, 0, 28, 29, 16, 100, 96, 21, 4, 16, 100, 96, 17, 32, 0, 184, 2, 209, 153, 0, 38, 42, 180, 0, 28, 29, 17, 88, 164, 96, 21, 4, 17, 88, 164, 96, 5, 42, 180, 0, 28, 29, 8, 96, 46, 104, 184, 2, 209, 153, 0, 7, 4, 167, 0, 4, 3, 54, 5, 21, 5, 153, 0, 69, 42, 180, 0, 28, 29, 16, 15, 96, 46, 153, 0, 53, 42, 180, 0, 28, 29, 16, 34, 96, 46, 42, 180, 0, 28, 21, 4, 16, 34, 96, 46, 160, 0, 35, 42, 180, 0, 28, 29, 18, 72, 96, 21, 4, 18, 72, 96, 42, 180, 0, 28, 29, 16, 34, 96, 46, 184, 2, 209, 153, 0, 7, 4, 167, 0, 4, 3, 54, 5, 3, 54, 6, 21, 6, 42, 180, 0, 28, 29, 7, 96, 46, 162, 0, 94, 21, 5, 153, 0, 89, 29, 17, 32, 100, 96, 16, 40, 21, 6, 104, 96, 54, 7, 21, 4, 17, 32, 100, 96, 16, 40, 21, 6, 104, 96, 54, 8, 42, 180, 0, 28, 21, 7, 21, 8, 16, 8, 184, 2, 209, 153, 0, 37, 42, 180, 0, 28, 21, 7, 16, 15, 96, 21, 8, 16, 15, 96, 42, 180, 0, 28, 21, 7, 16, 6, 96, 46, 184, 2, 209, 153, 0, 7, 4, 167, 0, 4, 3, 54, 5, 132, 6, 1, 167, 255, 155, 3, 54, 6, 21, 6, 7, 162, 0, 45, 21, 5, 153, 0, 40, 42, 29, 17, 119, 228, 96, 17, 2, 148, 21, 6, 104, 96, 21, 4, 17, 119, 228, 96, 17, 2, 148, 21, 6, 104, 96, 182, 2, 213, 54, 5, 132, 6, 1, 167, 255, 211, 21, 5, 172] 664 (by decide +kernel) (Nat.le_of_ble_eq_true rfl) (by decide +kernel)⟩
set_option maxRecDepth 100000 in
theorem zm_456_ok : zOK zm_456 := ⟨zw_q2_ok _ (List.mem_of_getElem? (i := 13) rfl), zw_q2_ok _ (List.mem_of_getElem? (i := 11) rfl), ⟨by decide +kernel, by decide +kernel, by decide +kernel⟩, by decide +kernel, Nat.le_of_ble_eq_true rfl, ⟨Nat.le_of_ble_eq_true rfl, rfl⟩, fun _ => zw_q2_ok _ (List.mem_of_getElem? (i := 12) rfl), fun h => absurd h (by decide +kernel), fun h => absurd h (by decide +kernel), zdecF cX12_isIn zt_456 [26, 27, 161, 0, 12, 26, 28, 163, 0, 7, 4, 167, 0, 4, 3, 172] 16 (by decide +kernel) (Nat.le_of_ble_eq_true rfl) (by decide +kernel)⟩
set_option maxRecDepth 100000 in
theorem zm_457_ok : zOK zm_457 := ⟨zw_q2_ok _ (List.mem_of_getElem? (i := 23) rfl), zw_q2_ok _ (List.mem_of_getElem? (i := 11) rfl), ⟨by decide +kernel, by decide +kernel, by decide +kernel⟩, by decide +kernel, Nat.le_of_ble_eq_true rfl, ⟨Nat.le_of_ble_eq_true rfl, rfl⟩, fun h => absurd h (by decide +kernel), fun _ => ⟨zw_q2_ok _ (List.mem_of_getElem? (i := 22) rfl), zw_q2_ok _ (List.mem_of_getElem? (i := 4) rfl)⟩, fun h => absurd h (by decide +kernel), zdecF cX12_isSystem zt_457 [27, 3, 5, 184, 2, 87, 153, 0, 24, 42, 180, 0, 28, 19, 2, 13, 27, 104, 16, 35, 96, 46, 4, 160, 0, 7, 4, 167, 0, 4, 3, 172] 32 (by decide +kernel) (Nat.le_of_ble_eq_true rfl) (by decide +kernel)⟩
set_option maxRecDepth 100000 in
theorem zm_460_ok : zOK zm_460 := ⟨zw_q2_ok _ (List.mem_of_getElem? (i := 21) rfl), zw_q2_ok _ (List.mem_of_getElem? (i := 11) rfl), ⟨by decide +kernel, by decide +kernel, by decide +kernel⟩, by decide +kernel, Nat.le_of_ble_eq_true rfl, ⟨Nat.le_of_ble_eq_true rfl, rfl⟩, fun h => absurd h (by decide +kernel), fun _ => ⟨zw_q2_ok _ (List.mem_of_getElem? (i := 20) rfl), zw_q2_ok _ (List.mem_of_getElem? (i := 3) rfl)⟩, fun h => absurd h (by decide +kernel), zdecF cX12_copyTape zt_460 [3, 60, 27, 42, 180, 2, 162, 162, 0, 25, 42, 180, 0, 101, 27, 42, 180, 2, 158, 27, 51, 17, 0, 255, 126, 79, 132, 1, 1, 167, 255, 229, 42, 42, 180, 2, 162, 181, 0, 87, 42, 3, 181, 2, 162, 177] 46 (by decide +kernel) (Nat.le_of_ble_eq_true rfl) (by decide +kernel)⟩
set_option maxRecDepth 100000 in
theorem zm_461_ok : zOK zm_461 := ⟨zw_q2_ok _ (List.mem_of_getElem? (i := 15) rfl), zw_q2_ok _ (List.mem_of_getElem? (i := 11) rfl), ⟨by decide +kernel, by decide +kernel, by decide +kernel⟩, by decide +kernel, Nat.le_of_ble_eq_true rfl, ⟨Nat.le_of_ble_eq_true rfl, rfl⟩, fun h => absurd h (by decide +kernel), fun _ => ⟨zw_q2_ok _ (List.mem_of_getElem? (i := 14) rfl), zw_q2_ok _ (List.mem_of_getElem? (i := 0) rfl)⟩, fun h => absurd h (by decide +kernel), zdecF cX12_systems zt_461 [3, 60, 3, 61, 28, 6, 162, 0, 25, 27, 42, 180, 0, 28, 19, 2, 13, 28, 104, 16, 35, 96, 46, 96, 60, 132, 2, 1, 167, 255, 232, 27, 172] 33 (by decide +kernel) (Nat.le_of_ble_eq_true rfl) (by decide +kernel)⟩
set_option maxRecDepth 100000 in
theorem zm_473_ok : zOK zm_473 := ⟨zw_q2_ok _ (List.mem_of_getElem? (i := 36) rfl), zw_q2_ok _ (List.mem_of_getElem? (i := 11) rfl), ⟨by decide +kernel, by decide +kernel, by decide +kernel⟩, by decide +kernel, Nat.le_of_ble_eq_true rfl, ⟨Nat.le_of_ble_eq_true rfl, rfl⟩, fun h => absurd h (by decide +kernel), fun _ => ⟨zw_q2_ok _ (List.mem_of_getElem? (i := 35) rfl), zw_q2_ok _ (List.mem_of_getElem? (i := 9) rfl)⟩, fun h => absurd h (by decide +kernel), zdecF cX12_isOf zt_473 [42, 27, 182, 2, 173, 153, 0, 29, 28, 3, 42, 180, 0, 28, 19, 2, 13, 27, 104, 7, 96, 46, 4, 100, 184, 2, 87, 153, 0, 7, 4, 167, 0, 4, 3, 172] 36 (by decide +kernel) (Nat.le_of_ble_eq_true rfl) (by decide +kernel)⟩
set_option maxRecDepth 100000 in
theorem zm_477_ok : zOK zm_477 := ⟨zw_q2_ok _ (List.mem_of_getElem? (i := 47) rfl), zw_q2_ok _ (List.mem_of_getElem? (i := 11) rfl), ⟨by decide +kernel, by decide +kernel, by decide +kernel⟩, by decide +kernel, Nat.le_of_ble_eq_true rfl, ⟨Nat.le_of_ble_eq_true rfl, rfl⟩, fun h => absurd h (by decide +kernel), fun _ => ⟨zw_q2_ok _ (List.mem_of_getElem? (i := 46) rfl), zw_q2_ok _ (List.mem_of_getElem? (i := 10) rfl)⟩, fun h => absurd h (by decide +kernel), zdecF cX12_isEnded zt_477 [42, 27, 28, 182, 2, 179, 153, 0, 57, 42, 180, 0, 28, 19, 2, 13, 27, 104, 17, 32, 100, 96, 16, 40, 28, 104, 96, 3, 96, 46, 4, 160, 0, 32, 42, 180, 0, 28, 19, 2, 13, 27, 104, 17, 32, 100, 96, 16, 40, 28, 104, 96, 16, 7, 96, 46, 154, 0, 7, 4, 167, 0, 4, 3, 172] 65 (by decide +kernel) (Nat.le_of_ble_eq_true rfl) (by decide +kernel)⟩
set_option maxRecDepth 100000 in
theorem zm_330_ok : zOK zm_330 := ⟨zw_q2_ok _ (List.mem_of_getElem? (i := 17) rfl), zw_q2_ok _ (List.mem_of_getElem? (i := 11) rfl), ⟨by decide +kernel, by decide +kernel, by decide +kernel⟩, by decide +kernel, Nat.le_of_ble_eq_true rfl, ⟨Nat.le_of_ble_eq_true rfl, rfl⟩, fun h => absurd h (by decide +kernel), fun _ => ⟨zw_q2_ok _ (List.mem_of_getElem? (i := 16) rfl), zw_q2_ok _ (List.mem_of_getElem? (i := 1) rfl)⟩, fun h => absurd h (by decide +kernel), zdecF cX12_newWord zt_330 [42, 180, 0, 28, 42, 180, 0, 32, 7, 96, 46, 62, 29, 17, 1, 104, 160, 0, 11, 42, 16, 248, 181, 0, 25, 2, 172, 42, 180, 0, 28, 42, 180, 0, 32, 7, 96, 92, 46, 4, 96, 79, 42, 29, 182, 0, 107, 54, 4, 3, 54, 5, 21, 5, 16, 40, 162, 0, 20, 42, 180, 0, 28, 21, 4, 21, 5, 96, 3, 79, 132, 5, 1, 167, 255, 235, 42, 180, 0, 28, 21, 4, 3, 96, 27, 79, 42, 180, 0, 28, 21, 4, 8, 96, 2, 79, 42, 180, 0, 28, 21, 4, 16, 8, 96, 2, 79, 42, 180, 0, 28, 21, 4, 16, 11, 96, 2, 79, 28, 153, 0, 89, 42, 180, 0, 28, 21, 4, 4, 96, 42, 180, 0, 28, 42, 180, 0, 32, 16, 11, 96, 46, 79, 42, 180, 0, 28, 21, 4, 16, 6, 96, 42, 180, 0, 87, 79, 3, 54, 5, 21, 5, 42, 180, 0, 87, 162, 0, 29, 42, 180, 0, 28, 21, 4, 16, 15, 96, 21, 5, 96, 42, 180, 0, 101, 21, 5, 46, 79, 132, 5, 1, 167, 255, 224, 42, 180, 0, 28, 42, 180, 0, 32, 16, 16, 96, 29, 79, 29, 172] 210 (by decide +kernel) (Nat.le_of_ble_eq_true rfl) (by decide +kernel)⟩
set_option maxRecDepth 100000 in
theorem zm_324_ok : zOK zm_324 := ⟨zw_q2_ok _ (List.mem_of_getElem? (i := 19) rfl), zw_q2_ok _ (List.mem_of_getElem? (i := 11) rfl), ⟨by decide +kernel, by decide +kernel, by decide +kernel⟩, by decide +kernel, Nat.le_of_ble_eq_true rfl, ⟨Nat.le_of_ble_eq_true rfl, rfl⟩, fun h => absurd h (by decide +kernel), fun _ => ⟨zw_q2_ok _ (List.mem_of_getElem? (i := 18) rfl), zw_q2_ok _ (List.mem_of_getElem? (i := 2) rfl)⟩, fun h => absurd h (by decide +kernel), zdecF cX12_wordAt zt_324 [42, 180, 0, 32, 17, 32, 100, 96, 16, 40, 27, 104, 96, 172] 14 (by decide +kernel) (Nat.le_of_ble_eq_true rfl) (by decide +kernel)⟩
end
section
def ztL_303 : List (List (Option (Instr × Nat))) := [[some (.iconst 0, 1), some (.istore 4, 2), none, some (.iload 4, 2), none, some (.aload_n 0, 1), some (.getfield 1, 3), none, none, some (.if_icmp .ge 47, 3), none, none, some (.aload_n 0, 1), some (.lload_n 1, 1), some (.iload 4, 2)], [some (.i2l, 1), some (.ladd, 1), some (.iload_n 3, 1), some (.aload_n 0, 1), some (.invokevirtual 39, 3), none, none, some (.ifCond .eq 18, 3), none, none, some (.bipush 8, 2), none, some (.aload_n 0, 1), some (.getfield 1, 3)], [some (.iconst 1, 1), some (.isub, 1), some (.iload 4, 2), none, some (.isub, 1), some (.imul, 1), some (.goto 8, 3), none, none, some (.bipush 8, 2), none, some (.iload 4, 2), none, some (.imul, 1), some (.ishr, 1), some (.invokevirtual 46, 3)], [none, none, some (.iinc 4 1, 3), none, none, some (.goto (-50), 3), none, none, some (.return_, 1)]]
def zt_303 : Nat → Option (Instr × Nat) := fun k => zlook 16 ztL_303 k
def zm_303 : zMe := (yX12_putCell, cX12_putCell, 5, none, 2, 12, 1, fun k => cond (Nat.blt k 57) (zt_303 k) none)
def ztL_301 : List (List (Option (Instr × Nat))) := [[some (.aload_n 0, 1), some (.getfield 28, 3), none, none, some (.aload_n 0, 1), some (.getfield 32, 3), none, none, some (.iconst 2, 1), some (.iadd, 1), some (.iaload, 1), some (.iconst 4, 1), some (.iand, 1), some (.ifCond .eq 7, 3)], [some (.iconst 1, 1), some (.goto 4, 3), none, none, some (.iconst 0, 1), some (.ireturn, 1)]]
def zt_301 : Nat → Option (Instr × Nat) := fun k => zlook 16 ztL_301 k
def zm_301 : zMe := (yX12_high, cX12_high, 1, (some .boolean), 0, 12, 1, fun k => cond (Nat.blt k 22) (zt_301 k) none)
def ztL_300 : List (List (Option (Instr × Nat))) := [[some (.aload_n 0, 1), some (.getfield 28, 3), none, none, some (.aload_n 0, 1), some (.getfield 32, 3), none, none, some (.bipush 100, 2), none, some (.iadd, 1), some (.lload_n 1, 1), some (.l2i, 1), some (.iadd, 1), some (.iload_n 3, 1), some (.sipush 255, 3)], [none, none, some (.iand, 1), some (.iastore, 1), some (.return_, 1)]]
def zt_300 : Nat → Option (Instr × Nat) := fun k => zlook 16 ztL_300 k
def zm_300 : zMe := (yX12_putByte, cX12_putByte, 4, none, 2, 12, 1, fun k => cond (Nat.blt k 21) (zt_300 k) none)
def zw_q3 : List Cond := [.selects RX12 yX12_putCell yX12_putCell, .selects RX12 yX12_high yX12_high, .selects RX12 yX12_putByte yX12_putByte, .initialized RX12, .instanceMethod yX12_putCell, .code yX12_putCell cX12_putCell 5 none, .instanceMethod yX12_high, .code yX12_high cX12_high 1 (some .boolean), .instanceMethod yX12_putByte, .code yX12_putByte cX12_putByte 4 none]
set_option maxRecDepth 100000 in
theorem zw_q3_ok : ∀ w ∈ zw_q3, w ∈ zW := zw_gen _ [100, 101, 102, 279, 2382, 2383, 2386, 2387, 2390, 2391] rfl (by decide +kernel)
set_option maxRecDepth 100000 in
theorem zm_303_ok : zOK zm_303 := ⟨zw_q3_ok _ (List.mem_of_getElem? (i := 5) rfl), zw_q3_ok _ (List.mem_of_getElem? (i := 3) rfl), ⟨by decide +kernel, by decide +kernel, by decide +kernel⟩, by decide +kernel, Nat.le_of_ble_eq_true rfl, ⟨Nat.le_of_ble_eq_true rfl, rfl⟩, fun h => absurd h (by decide +kernel), fun _ => ⟨zw_q3_ok _ (List.mem_of_getElem? (i := 4) rfl), zw_q3_ok _ (List.mem_of_getElem? (i := 0) rfl)⟩, fun h => absurd h (by decide +kernel), zdecF cX12_putCell zt_303 [3, 54, 4, 21, 4, 42, 180, 0, 1, 162, 0, 47, 42, 31, 21, 4, 133, 97, 29, 42, 182, 0, 39, 153, 0, 18, 16, 8, 42, 180, 0, 1, 4, 100, 21, 4, 100, 104, 167, 0, 8, 16, 8, 21, 4, 104, 122, 182, 0, 46, 132, 4, 1, 167, 255, 206, 177] 57 (by decide +kernel) (Nat.le_of_ble_eq_true rfl) (by decide +kernel)⟩
set_option maxRecDepth 100000 in
theorem zm_301_ok : zOK zm_301 := ⟨zw_q3_ok _ (List.mem_of_getElem? (i := 7) rfl), zw_q3_ok _ (List.mem_of_getElem? (i := 3) rfl), ⟨by decide +kernel, by decide +kernel, by decide +kernel⟩, by decide +kernel, Nat.le_of_ble_eq_true rfl, ⟨Nat.le_of_ble_eq_true rfl, rfl⟩, fun h => absurd h (by decide +kernel), fun _ => ⟨zw_q3_ok _ (List.mem_of_getElem? (i := 6) rfl), zw_q3_ok _ (List.mem_of_getElem? (i := 1) rfl)⟩, fun h => absurd h (by decide +kernel), zdecF cX12_high zt_301 [42, 180, 0, 28, 42, 180, 0, 32, 5, 96, 46, 7, 126, 153, 0, 7, 4, 167, 0, 4, 3, 172] 22 (by decide +kernel) (Nat.le_of_ble_eq_true rfl) (by decide +kernel)⟩
set_option maxRecDepth 100000 in
theorem zm_300_ok : zOK zm_300 := ⟨zw_q3_ok _ (List.mem_of_getElem? (i := 9) rfl), zw_q3_ok _ (List.mem_of_getElem? (i := 3) rfl), ⟨by decide +kernel, by decide +kernel, by decide +kernel⟩, by decide +kernel, Nat.le_of_ble_eq_true rfl, ⟨Nat.le_of_ble_eq_true rfl, rfl⟩, fun h => absurd h (by decide +kernel), fun _ => ⟨zw_q3_ok _ (List.mem_of_getElem? (i := 8) rfl), zw_q3_ok _ (List.mem_of_getElem? (i := 2) rfl)⟩, fun h => absurd h (by decide +kernel), zdecF cX12_putByte zt_300 [42, 180, 0, 28, 42, 180, 0, 32, 16, 100, 96, 31, 136, 96, 29, 17, 0, 255, 126, 79, 177] 21 (by decide +kernel) (Nat.le_of_ble_eq_true rfl) (by decide +kernel)⟩
end
section
def zmtL : List (List (Option zMe)) := [[some zm_0, some zm_1, none, none, none, none, none, none, none, none, none, some zm_11, some zm_12, none, none, some zm_15, some zm_16, some zm_17], [], [], [none, none, none, none, none, none, none, some zm_79, none, none, none, none, none, none, none, none, none, some zm_89], [none, none, none, none, none, none, none, none, none, none, none, none, none, none, none, some zm_111], [some zm_120], [none, none, none, some zm_147, none, none, none, none, none, none, none, none, none, none, some zm_158], [none, some zm_169, none, none, none, none, none, some zm_175, none, none, none, none, some zm_180], [], [none, none, none, none, none, none, none, none, none, some zm_225, none, none, none, none, none, none, none, none, none, none, none, none, some zm_238, some zm_239], [none, none, none, none, none, none, none, none, none, none, none, none, none, some zm_253, some zm_254, some zm_255, some zm_256, some zm_257, some zm_258, some zm_259, some zm_260, some zm_261, some zm_262, some zm_263], [some zm_264, some zm_265, some zm_266, some zm_267, some zm_268, some zm_269, some zm_270, some zm_271, some zm_272, some zm_273, some zm_274, some zm_275, some zm_276, some zm_277, some zm_278, some zm_279, some zm_280, some zm_281, some zm_282, some zm_283, some zm_284, some zm_285, some zm_286], [none, none, none, none, none, none, none, none, none, none, none, none, some zm_300, some zm_301, none, some zm_303, some zm_304], [none, none, none, some zm_315, none, none, none, none, none, none, some zm_322, none, some zm_324, none, none, none, none, none, some zm_330, none, some zm_332], [], [none, none, none, none, none, some zm_365], [], [none, none, none, none, none, none, none, none, none, none, none, none, none, none, some zm_422], [none, none, none, none, none, none, none, none, none, some zm_441, none, none, none, none, none, none, none, none, none, none, none, none, none, some zm_455], [some zm_456, some zm_457, some zm_458, some zm_459, some zm_460, some zm_461, some zm_462, some zm_463, some zm_464, some zm_465, some zm_466, some zm_467, some zm_468, some zm_469, some zm_470, some zm_471, some zm_472, some zm_473, some zm_474, some zm_475, some zm_476, some zm_477, some zm_478, some zm_479], [some zm_480, some zm_481, some zm_482, none, some zm_484, some zm_485, some zm_486, some zm_487, some zm_488, some zm_489, none, some zm_491, some zm_492, none, some zm_494, none, none, none, none, none, none, some zm_501, some zm_502, some zm_503], [some zm_504, some zm_505, some zm_506, none, none, none, none, none, none, some zm_513, none, some zm_515]]
def zmt : Nat → Option zMe := fun k => zlook 24 zmtL k
theorem zlook_mem {α : Type} {w k : Nat} {t : List (List (Option α))} {x : α} (h : zlook w t k = some x) : ∃ l ∈ t, some x ∈ l := by
  unfold zlook at h
  rw [List.getD_eq_getElem?_getD, List.getD_eq_getElem?_getD] at h
  cases h1 : t[k / w]? with
  | none => rw [h1] at h; simp at h
  | some l =>
    rw [h1] at h
    refine ⟨l, List.mem_of_getElem? h1, ?_⟩
    cases h2 : l[k % w]? with
    | none => simp [h2] at h
    | some y =>
      simp [h2] at h
      rw [← h]
      exact List.mem_of_getElem? h2
theorem zmtR_0 : ∀ q ∈ ([some zm_0, some zm_1, none, none, none, none, none, none, none, none, none, some zm_11, some zm_12, none, none, some zm_15, some zm_16, some zm_17] : List (Option zMe)), ∀ x, q = some x → zOK x := List.forall_mem_cons.mpr ⟨(fun _ h => by cases h; exact zm_0_ok), List.forall_mem_cons.mpr ⟨(fun _ h => by cases h; exact zm_1_ok), List.forall_mem_cons.mpr ⟨(fun _ h => by cases h), List.forall_mem_cons.mpr ⟨(fun _ h => by cases h), List.forall_mem_cons.mpr ⟨(fun _ h => by cases h), List.forall_mem_cons.mpr ⟨(fun _ h => by cases h), List.forall_mem_cons.mpr ⟨(fun _ h => by cases h), List.forall_mem_cons.mpr ⟨(fun _ h => by cases h), List.forall_mem_cons.mpr ⟨(fun _ h => by cases h), List.forall_mem_cons.mpr ⟨(fun _ h => by cases h), List.forall_mem_cons.mpr ⟨(fun _ h => by cases h), List.forall_mem_cons.mpr ⟨(fun _ h => by cases h; exact zm_11_ok), List.forall_mem_cons.mpr ⟨(fun _ h => by cases h; exact zm_12_ok), List.forall_mem_cons.mpr ⟨(fun _ h => by cases h), List.forall_mem_cons.mpr ⟨(fun _ h => by cases h), List.forall_mem_cons.mpr ⟨(fun _ h => by cases h; exact zm_15_ok), List.forall_mem_cons.mpr ⟨(fun _ h => by cases h; exact zm_16_ok), List.forall_mem_cons.mpr ⟨(fun _ h => by cases h; exact zm_17_ok), (fun q h => by cases h)⟩⟩⟩⟩⟩⟩⟩⟩⟩⟩⟩⟩⟩⟩⟩⟩⟩⟩
theorem zmtR_1 : ∀ q ∈ ([] : List (Option zMe)), ∀ x, q = some x → zOK x := (fun q h => by cases h)
theorem zmtR_2 : ∀ q ∈ ([] : List (Option zMe)), ∀ x, q = some x → zOK x := (fun q h => by cases h)
theorem zmtR_3 : ∀ q ∈ ([none, none, none, none, none, none, none, some zm_79, none, none, none, none, none, none, none, none, none, some zm_89] : List (Option zMe)), ∀ x, q = some x → zOK x := List.forall_mem_cons.mpr ⟨(fun _ h => by cases h), List.forall_mem_cons.mpr ⟨(fun _ h => by cases h), List.forall_mem_cons.mpr ⟨(fun _ h => by cases h), List.forall_mem_cons.mpr ⟨(fun _ h => by cases h), List.forall_mem_cons.mpr ⟨(fun _ h => by cases h), List.forall_mem_cons.mpr ⟨(fun _ h => by cases h), List.forall_mem_cons.mpr ⟨(fun _ h => by cases h), List.forall_mem_cons.mpr ⟨(fun _ h => by cases h; exact zm_79_ok), List.forall_mem_cons.mpr ⟨(fun _ h => by cases h), List.forall_mem_cons.mpr ⟨(fun _ h => by cases h), List.forall_mem_cons.mpr ⟨(fun _ h => by cases h), List.forall_mem_cons.mpr ⟨(fun _ h => by cases h), List.forall_mem_cons.mpr ⟨(fun _ h => by cases h), List.forall_mem_cons.mpr ⟨(fun _ h => by cases h), List.forall_mem_cons.mpr ⟨(fun _ h => by cases h), List.forall_mem_cons.mpr ⟨(fun _ h => by cases h), List.forall_mem_cons.mpr ⟨(fun _ h => by cases h), List.forall_mem_cons.mpr ⟨(fun _ h => by cases h; exact zm_89_ok), (fun q h => by cases h)⟩⟩⟩⟩⟩⟩⟩⟩⟩⟩⟩⟩⟩⟩⟩⟩⟩⟩
theorem zmtR_4 : ∀ q ∈ ([none, none, none, none, none, none, none, none, none, none, none, none, none, none, none, some zm_111] : List (Option zMe)), ∀ x, q = some x → zOK x := List.forall_mem_cons.mpr ⟨(fun _ h => by cases h), List.forall_mem_cons.mpr ⟨(fun _ h => by cases h), List.forall_mem_cons.mpr ⟨(fun _ h => by cases h), List.forall_mem_cons.mpr ⟨(fun _ h => by cases h), List.forall_mem_cons.mpr ⟨(fun _ h => by cases h), List.forall_mem_cons.mpr ⟨(fun _ h => by cases h), List.forall_mem_cons.mpr ⟨(fun _ h => by cases h), List.forall_mem_cons.mpr ⟨(fun _ h => by cases h), List.forall_mem_cons.mpr ⟨(fun _ h => by cases h), List.forall_mem_cons.mpr ⟨(fun _ h => by cases h), List.forall_mem_cons.mpr ⟨(fun _ h => by cases h), List.forall_mem_cons.mpr ⟨(fun _ h => by cases h), List.forall_mem_cons.mpr ⟨(fun _ h => by cases h), List.forall_mem_cons.mpr ⟨(fun _ h => by cases h), List.forall_mem_cons.mpr ⟨(fun _ h => by cases h), List.forall_mem_cons.mpr ⟨(fun _ h => by cases h; exact zm_111_ok), (fun q h => by cases h)⟩⟩⟩⟩⟩⟩⟩⟩⟩⟩⟩⟩⟩⟩⟩⟩
theorem zmtR_5 : ∀ q ∈ ([some zm_120] : List (Option zMe)), ∀ x, q = some x → zOK x := List.forall_mem_cons.mpr ⟨(fun _ h => by cases h; exact zm_120_ok), (fun q h => by cases h)⟩
theorem zmtR_6 : ∀ q ∈ ([none, none, none, some zm_147, none, none, none, none, none, none, none, none, none, none, some zm_158] : List (Option zMe)), ∀ x, q = some x → zOK x := List.forall_mem_cons.mpr ⟨(fun _ h => by cases h), List.forall_mem_cons.mpr ⟨(fun _ h => by cases h), List.forall_mem_cons.mpr ⟨(fun _ h => by cases h), List.forall_mem_cons.mpr ⟨(fun _ h => by cases h; exact zm_147_ok), List.forall_mem_cons.mpr ⟨(fun _ h => by cases h), List.forall_mem_cons.mpr ⟨(fun _ h => by cases h), List.forall_mem_cons.mpr ⟨(fun _ h => by cases h), List.forall_mem_cons.mpr ⟨(fun _ h => by cases h), List.forall_mem_cons.mpr ⟨(fun _ h => by cases h), List.forall_mem_cons.mpr ⟨(fun _ h => by cases h), List.forall_mem_cons.mpr ⟨(fun _ h => by cases h), List.forall_mem_cons.mpr ⟨(fun _ h => by cases h), List.forall_mem_cons.mpr ⟨(fun _ h => by cases h), List.forall_mem_cons.mpr ⟨(fun _ h => by cases h), List.forall_mem_cons.mpr ⟨(fun _ h => by cases h; exact zm_158_ok), (fun q h => by cases h)⟩⟩⟩⟩⟩⟩⟩⟩⟩⟩⟩⟩⟩⟩⟩
theorem zmtR_7 : ∀ q ∈ ([none, some zm_169, none, none, none, none, none, some zm_175, none, none, none, none, some zm_180] : List (Option zMe)), ∀ x, q = some x → zOK x := List.forall_mem_cons.mpr ⟨(fun _ h => by cases h), List.forall_mem_cons.mpr ⟨(fun _ h => by cases h; exact zm_169_ok), List.forall_mem_cons.mpr ⟨(fun _ h => by cases h), List.forall_mem_cons.mpr ⟨(fun _ h => by cases h), List.forall_mem_cons.mpr ⟨(fun _ h => by cases h), List.forall_mem_cons.mpr ⟨(fun _ h => by cases h), List.forall_mem_cons.mpr ⟨(fun _ h => by cases h), List.forall_mem_cons.mpr ⟨(fun _ h => by cases h; exact zm_175_ok), List.forall_mem_cons.mpr ⟨(fun _ h => by cases h), List.forall_mem_cons.mpr ⟨(fun _ h => by cases h), List.forall_mem_cons.mpr ⟨(fun _ h => by cases h), List.forall_mem_cons.mpr ⟨(fun _ h => by cases h), List.forall_mem_cons.mpr ⟨(fun _ h => by cases h; exact zm_180_ok), (fun q h => by cases h)⟩⟩⟩⟩⟩⟩⟩⟩⟩⟩⟩⟩⟩
theorem zmtR_8 : ∀ q ∈ ([] : List (Option zMe)), ∀ x, q = some x → zOK x := (fun q h => by cases h)
theorem zmtR_9 : ∀ q ∈ ([none, none, none, none, none, none, none, none, none, some zm_225, none, none, none, none, none, none, none, none, none, none, none, none, some zm_238, some zm_239] : List (Option zMe)), ∀ x, q = some x → zOK x := List.forall_mem_cons.mpr ⟨(fun _ h => by cases h), List.forall_mem_cons.mpr ⟨(fun _ h => by cases h), List.forall_mem_cons.mpr ⟨(fun _ h => by cases h), List.forall_mem_cons.mpr ⟨(fun _ h => by cases h), List.forall_mem_cons.mpr ⟨(fun _ h => by cases h), List.forall_mem_cons.mpr ⟨(fun _ h => by cases h), List.forall_mem_cons.mpr ⟨(fun _ h => by cases h), List.forall_mem_cons.mpr ⟨(fun _ h => by cases h), List.forall_mem_cons.mpr ⟨(fun _ h => by cases h), List.forall_mem_cons.mpr ⟨(fun _ h => by cases h; exact zm_225_ok), List.forall_mem_cons.mpr ⟨(fun _ h => by cases h), List.forall_mem_cons.mpr ⟨(fun _ h => by cases h), List.forall_mem_cons.mpr ⟨(fun _ h => by cases h), List.forall_mem_cons.mpr ⟨(fun _ h => by cases h), List.forall_mem_cons.mpr ⟨(fun _ h => by cases h), List.forall_mem_cons.mpr ⟨(fun _ h => by cases h), List.forall_mem_cons.mpr ⟨(fun _ h => by cases h), List.forall_mem_cons.mpr ⟨(fun _ h => by cases h), List.forall_mem_cons.mpr ⟨(fun _ h => by cases h), List.forall_mem_cons.mpr ⟨(fun _ h => by cases h), List.forall_mem_cons.mpr ⟨(fun _ h => by cases h), List.forall_mem_cons.mpr ⟨(fun _ h => by cases h), List.forall_mem_cons.mpr ⟨(fun _ h => by cases h; exact zm_238_ok), List.forall_mem_cons.mpr ⟨(fun _ h => by cases h; exact zm_239_ok), (fun q h => by cases h)⟩⟩⟩⟩⟩⟩⟩⟩⟩⟩⟩⟩⟩⟩⟩⟩⟩⟩⟩⟩⟩⟩⟩⟩
theorem zmtR_10 : ∀ q ∈ ([none, none, none, none, none, none, none, none, none, none, none, none, none, some zm_253, some zm_254, some zm_255, some zm_256, some zm_257, some zm_258, some zm_259, some zm_260, some zm_261, some zm_262, some zm_263] : List (Option zMe)), ∀ x, q = some x → zOK x := List.forall_mem_cons.mpr ⟨(fun _ h => by cases h), List.forall_mem_cons.mpr ⟨(fun _ h => by cases h), List.forall_mem_cons.mpr ⟨(fun _ h => by cases h), List.forall_mem_cons.mpr ⟨(fun _ h => by cases h), List.forall_mem_cons.mpr ⟨(fun _ h => by cases h), List.forall_mem_cons.mpr ⟨(fun _ h => by cases h), List.forall_mem_cons.mpr ⟨(fun _ h => by cases h), List.forall_mem_cons.mpr ⟨(fun _ h => by cases h), List.forall_mem_cons.mpr ⟨(fun _ h => by cases h), List.forall_mem_cons.mpr ⟨(fun _ h => by cases h), List.forall_mem_cons.mpr ⟨(fun _ h => by cases h), List.forall_mem_cons.mpr ⟨(fun _ h => by cases h), List.forall_mem_cons.mpr ⟨(fun _ h => by cases h), List.forall_mem_cons.mpr ⟨(fun _ h => by cases h; exact zm_253_ok), List.forall_mem_cons.mpr ⟨(fun _ h => by cases h; exact zm_254_ok), List.forall_mem_cons.mpr ⟨(fun _ h => by cases h; exact zm_255_ok), List.forall_mem_cons.mpr ⟨(fun _ h => by cases h; exact zm_256_ok), List.forall_mem_cons.mpr ⟨(fun _ h => by cases h; exact zm_257_ok), List.forall_mem_cons.mpr ⟨(fun _ h => by cases h; exact zm_258_ok), List.forall_mem_cons.mpr ⟨(fun _ h => by cases h; exact zm_259_ok), List.forall_mem_cons.mpr ⟨(fun _ h => by cases h; exact zm_260_ok), List.forall_mem_cons.mpr ⟨(fun _ h => by cases h; exact zm_261_ok), List.forall_mem_cons.mpr ⟨(fun _ h => by cases h; exact zm_262_ok), List.forall_mem_cons.mpr ⟨(fun _ h => by cases h; exact zm_263_ok), (fun q h => by cases h)⟩⟩⟩⟩⟩⟩⟩⟩⟩⟩⟩⟩⟩⟩⟩⟩⟩⟩⟩⟩⟩⟩⟩⟩
theorem zmtR_11 : ∀ q ∈ ([some zm_264, some zm_265, some zm_266, some zm_267, some zm_268, some zm_269, some zm_270, some zm_271, some zm_272, some zm_273, some zm_274, some zm_275, some zm_276, some zm_277, some zm_278, some zm_279, some zm_280, some zm_281, some zm_282, some zm_283, some zm_284, some zm_285, some zm_286] : List (Option zMe)), ∀ x, q = some x → zOK x := List.forall_mem_cons.mpr ⟨(fun _ h => by cases h; exact zm_264_ok), List.forall_mem_cons.mpr ⟨(fun _ h => by cases h; exact zm_265_ok), List.forall_mem_cons.mpr ⟨(fun _ h => by cases h; exact zm_266_ok), List.forall_mem_cons.mpr ⟨(fun _ h => by cases h; exact zm_267_ok), List.forall_mem_cons.mpr ⟨(fun _ h => by cases h; exact zm_268_ok), List.forall_mem_cons.mpr ⟨(fun _ h => by cases h; exact zm_269_ok), List.forall_mem_cons.mpr ⟨(fun _ h => by cases h; exact zm_270_ok), List.forall_mem_cons.mpr ⟨(fun _ h => by cases h; exact zm_271_ok), List.forall_mem_cons.mpr ⟨(fun _ h => by cases h; exact zm_272_ok), List.forall_mem_cons.mpr ⟨(fun _ h => by cases h; exact zm_273_ok), List.forall_mem_cons.mpr ⟨(fun _ h => by cases h; exact zm_274_ok), List.forall_mem_cons.mpr ⟨(fun _ h => by cases h; exact zm_275_ok), List.forall_mem_cons.mpr ⟨(fun _ h => by cases h; exact zm_276_ok), List.forall_mem_cons.mpr ⟨(fun _ h => by cases h; exact zm_277_ok), List.forall_mem_cons.mpr ⟨(fun _ h => by cases h; exact zm_278_ok), List.forall_mem_cons.mpr ⟨(fun _ h => by cases h; exact zm_279_ok), List.forall_mem_cons.mpr ⟨(fun _ h => by cases h; exact zm_280_ok), List.forall_mem_cons.mpr ⟨(fun _ h => by cases h; exact zm_281_ok), List.forall_mem_cons.mpr ⟨(fun _ h => by cases h; exact zm_282_ok), List.forall_mem_cons.mpr ⟨(fun _ h => by cases h; exact zm_283_ok), List.forall_mem_cons.mpr ⟨(fun _ h => by cases h; exact zm_284_ok), List.forall_mem_cons.mpr ⟨(fun _ h => by cases h; exact zm_285_ok), List.forall_mem_cons.mpr ⟨(fun _ h => by cases h; exact zm_286_ok), (fun q h => by cases h)⟩⟩⟩⟩⟩⟩⟩⟩⟩⟩⟩⟩⟩⟩⟩⟩⟩⟩⟩⟩⟩⟩⟩
theorem zmtR_12 : ∀ q ∈ ([none, none, none, none, none, none, none, none, none, none, none, none, some zm_300, some zm_301, none, some zm_303, some zm_304] : List (Option zMe)), ∀ x, q = some x → zOK x := List.forall_mem_cons.mpr ⟨(fun _ h => by cases h), List.forall_mem_cons.mpr ⟨(fun _ h => by cases h), List.forall_mem_cons.mpr ⟨(fun _ h => by cases h), List.forall_mem_cons.mpr ⟨(fun _ h => by cases h), List.forall_mem_cons.mpr ⟨(fun _ h => by cases h), List.forall_mem_cons.mpr ⟨(fun _ h => by cases h), List.forall_mem_cons.mpr ⟨(fun _ h => by cases h), List.forall_mem_cons.mpr ⟨(fun _ h => by cases h), List.forall_mem_cons.mpr ⟨(fun _ h => by cases h), List.forall_mem_cons.mpr ⟨(fun _ h => by cases h), List.forall_mem_cons.mpr ⟨(fun _ h => by cases h), List.forall_mem_cons.mpr ⟨(fun _ h => by cases h), List.forall_mem_cons.mpr ⟨(fun _ h => by cases h; exact zm_300_ok), List.forall_mem_cons.mpr ⟨(fun _ h => by cases h; exact zm_301_ok), List.forall_mem_cons.mpr ⟨(fun _ h => by cases h), List.forall_mem_cons.mpr ⟨(fun _ h => by cases h; exact zm_303_ok), List.forall_mem_cons.mpr ⟨(fun _ h => by cases h; exact zm_304_ok), (fun q h => by cases h)⟩⟩⟩⟩⟩⟩⟩⟩⟩⟩⟩⟩⟩⟩⟩⟩⟩
theorem zmtR_13 : ∀ q ∈ ([none, none, none, some zm_315, none, none, none, none, none, none, some zm_322, none, some zm_324, none, none, none, none, none, some zm_330, none, some zm_332] : List (Option zMe)), ∀ x, q = some x → zOK x := List.forall_mem_cons.mpr ⟨(fun _ h => by cases h), List.forall_mem_cons.mpr ⟨(fun _ h => by cases h), List.forall_mem_cons.mpr ⟨(fun _ h => by cases h), List.forall_mem_cons.mpr ⟨(fun _ h => by cases h; exact zm_315_ok), List.forall_mem_cons.mpr ⟨(fun _ h => by cases h), List.forall_mem_cons.mpr ⟨(fun _ h => by cases h), List.forall_mem_cons.mpr ⟨(fun _ h => by cases h), List.forall_mem_cons.mpr ⟨(fun _ h => by cases h), List.forall_mem_cons.mpr ⟨(fun _ h => by cases h), List.forall_mem_cons.mpr ⟨(fun _ h => by cases h), List.forall_mem_cons.mpr ⟨(fun _ h => by cases h; exact zm_322_ok), List.forall_mem_cons.mpr ⟨(fun _ h => by cases h), List.forall_mem_cons.mpr ⟨(fun _ h => by cases h; exact zm_324_ok), List.forall_mem_cons.mpr ⟨(fun _ h => by cases h), List.forall_mem_cons.mpr ⟨(fun _ h => by cases h), List.forall_mem_cons.mpr ⟨(fun _ h => by cases h), List.forall_mem_cons.mpr ⟨(fun _ h => by cases h), List.forall_mem_cons.mpr ⟨(fun _ h => by cases h), List.forall_mem_cons.mpr ⟨(fun _ h => by cases h; exact zm_330_ok), List.forall_mem_cons.mpr ⟨(fun _ h => by cases h), List.forall_mem_cons.mpr ⟨(fun _ h => by cases h; exact zm_332_ok), (fun q h => by cases h)⟩⟩⟩⟩⟩⟩⟩⟩⟩⟩⟩⟩⟩⟩⟩⟩⟩⟩⟩⟩⟩
theorem zmtR_14 : ∀ q ∈ ([] : List (Option zMe)), ∀ x, q = some x → zOK x := (fun q h => by cases h)
theorem zmtR_15 : ∀ q ∈ ([none, none, none, none, none, some zm_365] : List (Option zMe)), ∀ x, q = some x → zOK x := List.forall_mem_cons.mpr ⟨(fun _ h => by cases h), List.forall_mem_cons.mpr ⟨(fun _ h => by cases h), List.forall_mem_cons.mpr ⟨(fun _ h => by cases h), List.forall_mem_cons.mpr ⟨(fun _ h => by cases h), List.forall_mem_cons.mpr ⟨(fun _ h => by cases h), List.forall_mem_cons.mpr ⟨(fun _ h => by cases h; exact zm_365_ok), (fun q h => by cases h)⟩⟩⟩⟩⟩⟩
theorem zmtR_16 : ∀ q ∈ ([] : List (Option zMe)), ∀ x, q = some x → zOK x := (fun q h => by cases h)
theorem zmtR_17 : ∀ q ∈ ([none, none, none, none, none, none, none, none, none, none, none, none, none, none, some zm_422] : List (Option zMe)), ∀ x, q = some x → zOK x := List.forall_mem_cons.mpr ⟨(fun _ h => by cases h), List.forall_mem_cons.mpr ⟨(fun _ h => by cases h), List.forall_mem_cons.mpr ⟨(fun _ h => by cases h), List.forall_mem_cons.mpr ⟨(fun _ h => by cases h), List.forall_mem_cons.mpr ⟨(fun _ h => by cases h), List.forall_mem_cons.mpr ⟨(fun _ h => by cases h), List.forall_mem_cons.mpr ⟨(fun _ h => by cases h), List.forall_mem_cons.mpr ⟨(fun _ h => by cases h), List.forall_mem_cons.mpr ⟨(fun _ h => by cases h), List.forall_mem_cons.mpr ⟨(fun _ h => by cases h), List.forall_mem_cons.mpr ⟨(fun _ h => by cases h), List.forall_mem_cons.mpr ⟨(fun _ h => by cases h), List.forall_mem_cons.mpr ⟨(fun _ h => by cases h), List.forall_mem_cons.mpr ⟨(fun _ h => by cases h), List.forall_mem_cons.mpr ⟨(fun _ h => by cases h; exact zm_422_ok), (fun q h => by cases h)⟩⟩⟩⟩⟩⟩⟩⟩⟩⟩⟩⟩⟩⟩⟩
theorem zmtR_18 : ∀ q ∈ ([none, none, none, none, none, none, none, none, none, some zm_441, none, none, none, none, none, none, none, none, none, none, none, none, none, some zm_455] : List (Option zMe)), ∀ x, q = some x → zOK x := List.forall_mem_cons.mpr ⟨(fun _ h => by cases h), List.forall_mem_cons.mpr ⟨(fun _ h => by cases h), List.forall_mem_cons.mpr ⟨(fun _ h => by cases h), List.forall_mem_cons.mpr ⟨(fun _ h => by cases h), List.forall_mem_cons.mpr ⟨(fun _ h => by cases h), List.forall_mem_cons.mpr ⟨(fun _ h => by cases h), List.forall_mem_cons.mpr ⟨(fun _ h => by cases h), List.forall_mem_cons.mpr ⟨(fun _ h => by cases h), List.forall_mem_cons.mpr ⟨(fun _ h => by cases h), List.forall_mem_cons.mpr ⟨(fun _ h => by cases h; exact zm_441_ok), List.forall_mem_cons.mpr ⟨(fun _ h => by cases h), List.forall_mem_cons.mpr ⟨(fun _ h => by cases h), List.forall_mem_cons.mpr ⟨(fun _ h => by cases h), List.forall_mem_cons.mpr ⟨(fun _ h => by cases h), List.forall_mem_cons.mpr ⟨(fun _ h => by cases h), List.forall_mem_cons.mpr ⟨(fun _ h => by cases h), List.forall_mem_cons.mpr ⟨(fun _ h => by cases h), List.forall_mem_cons.mpr ⟨(fun _ h => by cases h), List.forall_mem_cons.mpr ⟨(fun _ h => by cases h), List.forall_mem_cons.mpr ⟨(fun _ h => by cases h), List.forall_mem_cons.mpr ⟨(fun _ h => by cases h), List.forall_mem_cons.mpr ⟨(fun _ h => by cases h), List.forall_mem_cons.mpr ⟨(fun _ h => by cases h), List.forall_mem_cons.mpr ⟨(fun _ h => by cases h; exact zm_455_ok), (fun q h => by cases h)⟩⟩⟩⟩⟩⟩⟩⟩⟩⟩⟩⟩⟩⟩⟩⟩⟩⟩⟩⟩⟩⟩⟩⟩
theorem zmtR_19 : ∀ q ∈ ([some zm_456, some zm_457, some zm_458, some zm_459, some zm_460, some zm_461, some zm_462, some zm_463, some zm_464, some zm_465, some zm_466, some zm_467, some zm_468, some zm_469, some zm_470, some zm_471, some zm_472, some zm_473, some zm_474, some zm_475, some zm_476, some zm_477, some zm_478, some zm_479] : List (Option zMe)), ∀ x, q = some x → zOK x := List.forall_mem_cons.mpr ⟨(fun _ h => by cases h; exact zm_456_ok), List.forall_mem_cons.mpr ⟨(fun _ h => by cases h; exact zm_457_ok), List.forall_mem_cons.mpr ⟨(fun _ h => by cases h; exact zm_458_ok), List.forall_mem_cons.mpr ⟨(fun _ h => by cases h; exact zm_459_ok), List.forall_mem_cons.mpr ⟨(fun _ h => by cases h; exact zm_460_ok), List.forall_mem_cons.mpr ⟨(fun _ h => by cases h; exact zm_461_ok), List.forall_mem_cons.mpr ⟨(fun _ h => by cases h; exact zm_462_ok), List.forall_mem_cons.mpr ⟨(fun _ h => by cases h; exact zm_463_ok), List.forall_mem_cons.mpr ⟨(fun _ h => by cases h; exact zm_464_ok), List.forall_mem_cons.mpr ⟨(fun _ h => by cases h; exact zm_465_ok), List.forall_mem_cons.mpr ⟨(fun _ h => by cases h; exact zm_466_ok), List.forall_mem_cons.mpr ⟨(fun _ h => by cases h; exact zm_467_ok), List.forall_mem_cons.mpr ⟨(fun _ h => by cases h; exact zm_468_ok), List.forall_mem_cons.mpr ⟨(fun _ h => by cases h; exact zm_469_ok), List.forall_mem_cons.mpr ⟨(fun _ h => by cases h; exact zm_470_ok), List.forall_mem_cons.mpr ⟨(fun _ h => by cases h; exact zm_471_ok), List.forall_mem_cons.mpr ⟨(fun _ h => by cases h; exact zm_472_ok), List.forall_mem_cons.mpr ⟨(fun _ h => by cases h; exact zm_473_ok), List.forall_mem_cons.mpr ⟨(fun _ h => by cases h; exact zm_474_ok), List.forall_mem_cons.mpr ⟨(fun _ h => by cases h; exact zm_475_ok), List.forall_mem_cons.mpr ⟨(fun _ h => by cases h; exact zm_476_ok), List.forall_mem_cons.mpr ⟨(fun _ h => by cases h; exact zm_477_ok), List.forall_mem_cons.mpr ⟨(fun _ h => by cases h; exact zm_478_ok), List.forall_mem_cons.mpr ⟨(fun _ h => by cases h; exact zm_479_ok), (fun q h => by cases h)⟩⟩⟩⟩⟩⟩⟩⟩⟩⟩⟩⟩⟩⟩⟩⟩⟩⟩⟩⟩⟩⟩⟩⟩
theorem zmtR_20 : ∀ q ∈ ([some zm_480, some zm_481, some zm_482, none, some zm_484, some zm_485, some zm_486, some zm_487, some zm_488, some zm_489, none, some zm_491, some zm_492, none, some zm_494, none, none, none, none, none, none, some zm_501, some zm_502, some zm_503] : List (Option zMe)), ∀ x, q = some x → zOK x := List.forall_mem_cons.mpr ⟨(fun _ h => by cases h; exact zm_480_ok), List.forall_mem_cons.mpr ⟨(fun _ h => by cases h; exact zm_481_ok), List.forall_mem_cons.mpr ⟨(fun _ h => by cases h; exact zm_482_ok), List.forall_mem_cons.mpr ⟨(fun _ h => by cases h), List.forall_mem_cons.mpr ⟨(fun _ h => by cases h; exact zm_484_ok), List.forall_mem_cons.mpr ⟨(fun _ h => by cases h; exact zm_485_ok), List.forall_mem_cons.mpr ⟨(fun _ h => by cases h; exact zm_486_ok), List.forall_mem_cons.mpr ⟨(fun _ h => by cases h; exact zm_487_ok), List.forall_mem_cons.mpr ⟨(fun _ h => by cases h; exact zm_488_ok), List.forall_mem_cons.mpr ⟨(fun _ h => by cases h; exact zm_489_ok), List.forall_mem_cons.mpr ⟨(fun _ h => by cases h), List.forall_mem_cons.mpr ⟨(fun _ h => by cases h; exact zm_491_ok), List.forall_mem_cons.mpr ⟨(fun _ h => by cases h; exact zm_492_ok), List.forall_mem_cons.mpr ⟨(fun _ h => by cases h), List.forall_mem_cons.mpr ⟨(fun _ h => by cases h; exact zm_494_ok), List.forall_mem_cons.mpr ⟨(fun _ h => by cases h), List.forall_mem_cons.mpr ⟨(fun _ h => by cases h), List.forall_mem_cons.mpr ⟨(fun _ h => by cases h), List.forall_mem_cons.mpr ⟨(fun _ h => by cases h), List.forall_mem_cons.mpr ⟨(fun _ h => by cases h), List.forall_mem_cons.mpr ⟨(fun _ h => by cases h), List.forall_mem_cons.mpr ⟨(fun _ h => by cases h; exact zm_501_ok), List.forall_mem_cons.mpr ⟨(fun _ h => by cases h; exact zm_502_ok), List.forall_mem_cons.mpr ⟨(fun _ h => by cases h; exact zm_503_ok), (fun q h => by cases h)⟩⟩⟩⟩⟩⟩⟩⟩⟩⟩⟩⟩⟩⟩⟩⟩⟩⟩⟩⟩⟩⟩⟩⟩
theorem zmtR_21 : ∀ q ∈ ([some zm_504, some zm_505, some zm_506, none, none, none, none, none, none, some zm_513, none, some zm_515] : List (Option zMe)), ∀ x, q = some x → zOK x := List.forall_mem_cons.mpr ⟨(fun _ h => by cases h; exact zm_504_ok), List.forall_mem_cons.mpr ⟨(fun _ h => by cases h; exact zm_505_ok), List.forall_mem_cons.mpr ⟨(fun _ h => by cases h; exact zm_506_ok), List.forall_mem_cons.mpr ⟨(fun _ h => by cases h), List.forall_mem_cons.mpr ⟨(fun _ h => by cases h), List.forall_mem_cons.mpr ⟨(fun _ h => by cases h), List.forall_mem_cons.mpr ⟨(fun _ h => by cases h), List.forall_mem_cons.mpr ⟨(fun _ h => by cases h), List.forall_mem_cons.mpr ⟨(fun _ h => by cases h), List.forall_mem_cons.mpr ⟨(fun _ h => by cases h; exact zm_513_ok), List.forall_mem_cons.mpr ⟨(fun _ h => by cases h), List.forall_mem_cons.mpr ⟨(fun _ h => by cases h; exact zm_515_ok), (fun q h => by cases h)⟩⟩⟩⟩⟩⟩⟩⟩⟩⟩⟩⟩
theorem zmtR : ∀ l ∈ zmtL, ∀ q ∈ l, ∀ x, q = some x → zOK x := List.forall_mem_cons.mpr ⟨zmtR_0, List.forall_mem_cons.mpr ⟨zmtR_1, List.forall_mem_cons.mpr ⟨zmtR_2, List.forall_mem_cons.mpr ⟨zmtR_3, List.forall_mem_cons.mpr ⟨zmtR_4, List.forall_mem_cons.mpr ⟨zmtR_5, List.forall_mem_cons.mpr ⟨zmtR_6, List.forall_mem_cons.mpr ⟨zmtR_7, List.forall_mem_cons.mpr ⟨zmtR_8, List.forall_mem_cons.mpr ⟨zmtR_9, List.forall_mem_cons.mpr ⟨zmtR_10, List.forall_mem_cons.mpr ⟨zmtR_11, List.forall_mem_cons.mpr ⟨zmtR_12, List.forall_mem_cons.mpr ⟨zmtR_13, List.forall_mem_cons.mpr ⟨zmtR_14, List.forall_mem_cons.mpr ⟨zmtR_15, List.forall_mem_cons.mpr ⟨zmtR_16, List.forall_mem_cons.mpr ⟨zmtR_17, List.forall_mem_cons.mpr ⟨zmtR_18, List.forall_mem_cons.mpr ⟨zmtR_19, List.forall_mem_cons.mpr ⟨zmtR_20, List.forall_mem_cons.mpr ⟨zmtR_21, (fun q h => by cases h)⟩⟩⟩⟩⟩⟩⟩⟩⟩⟩⟩⟩⟩⟩⟩⟩⟩⟩⟩⟩⟩⟩
theorem zmt_ok : ∀ a r, zmt a = some r → zOK r := by
  intro a r h
  obtain ⟨l, h1, h2⟩ := zlook_mem h
  exact zmtR l h1 _ h2 r rfl
end
section
/-! STEPS: the evaluator by hand, an instruction a row -/
section ZR
variable {X : zX} {mt : Nat → Option zMe} {call : zCall} {r : zMe} {n pc len pc' t : Nat} {ls ls' : zL} {st st' rest : List Value} {M M' : zM} {i : Instr} {res : Option (Option Value × zM)}
theorem zr_step (htb : r.2.2.2.2.2.2.2 pc = some (i, len)) (hk : zlok i len = true) (hr : zret r.2.2.2.1 i st = none) (hs : zstep X mt call r pc ls st M i len = some (pc', ls', st', M')) (h : zrun X mt call r n pc' ls' st' M' = res) : zrun X mt call r (n + 1) pc ls st M = res := by
  rw [zrun, htb]
  dsimp only
  rw [if_pos hk, hr]
  dsimp only
  rw [hs]
  exact h
theorem zr_ret {v : Option Value} (htb : r.2.2.2.2.2.2.2 pc = some (i, len)) (hk : zlok i len = true) (hr : zret r.2.2.2.1 i st = some v) : zrun X mt call r (n + 1) pc ls st M = some (v, M) := by
  rw [zrun, htb]
  dsimp only
  rw [if_pos hk, hr]
theorem zr_s0 (htb : r.2.2.2.2.2.2.2 pc = some (i, len)) (hk : zlok i len = true) (hr : zret r.2.2.2.1 i st = none) (hs : zs0 pc ls st r.2.2.1 i len = some (pc', ls', st')) (h : zrun X mt call r n pc' ls' st' M = res) : zrun X mt call r (n + 1) pc ls st M = res := zr_step htb hk hr (by unfold zstep; rw [hs]) h
theorem zr_icmp {c : ClassFile.Cond} {off : Int} {x y : Int32} (htb : r.2.2.2.2.2.2.2 pc = some (.if_icmp c off, 3)) (ht : zjmp pc off = some t) (h1 : zcI c x y = true → zrun X mt call r n t ls rest M = res) (h2 : zcI c x y = false → zrun X mt call r n (pc + 3) ls rest M = res) : zrun X mt call r (n + 1) pc ls (.int y :: .int x :: rest) M = res := by
  refine zr_s0 (pc' := if zcI c x y then t else pc + 3) (ls' := ls) (st' := rest) htb rfl rfl (by simp only [zs0]; rw [ht]) ?_
  cases hq : zcI c x y with
  | true => exact h1 hq
  | false => exact h2 hq
theorem zr_if {c : ClassFile.Cond} {off : Int} {x : Int32} (htb : r.2.2.2.2.2.2.2 pc = some (.ifCond c off, 3)) (ht : zjmp pc off = some t) (h1 : zcI c x 0 = true → zrun X mt call r n t ls rest M = res) (h2 : zcI c x 0 = false → zrun X mt call r n (pc + 3) ls rest M = res) : zrun X mt call r (n + 1) pc ls (.int x :: rest) M = res := by
  refine zr_s0 (pc' := if zcI c x 0 then t else pc + 3) (ls' := ls) (st' := rest) htb rfl rfl (by simp only [zs0]; rw [ht]) ?_
  cases hq : zcI c x 0 with
  | true => exact h1 hq
  | false => exact h2 hq
theorem zr_s1 (htb : r.2.2.2.2.2.2.2 pc = some (i, len)) (hk : zlok i len = true) (hr : zret r.2.2.2.1 i st = none) (h0 : zs0 pc ls st r.2.2.1 i len = none) (hs : zs1 X r.2.2.2.2.2.1 (r.2.2.2.2.2.2.1 == 2) pc ls st M i = some (pc', ls', st', M')) (h : zrun X mt call r n pc' ls' st' M' = res) : zrun X mt call r (n + 1) pc ls st M = res := zr_step htb hk hr (by unfold zstep; rw [h0]; dsimp only; rw [hs]) h
theorem zr_get {x ci k q a : Nat} {fs : List Value} {v : Value} (htb : r.2.2.2.2.2.2.2 pc = some (.getfield x, 3)) (hlk : zlk r.2.2.2.2.2.1 x = some (0, ci, k, q)) (hob : zob M a = some (.inr (ci, fs))) (hv : fs[k]? = some v) (h : zrun X mt call r n (pc + 3) ls (v :: rest) M = res) : zrun X mt call r (n + 1) pc ls (.ref a :: rest) M = res := by
  refine zr_s1 htb rfl rfl rfl ?_ h
  simp only [zs1, hlk, hob, if_true, hv]
theorem zr_put {x ci k q a : Nat} {fs : List Value} {v : Value} {w : vw_C} (htb : r.2.2.2.2.2.2.2 pc = some (.putfield x, 3)) (hlk : zlk r.2.2.2.2.2.1 x = some (0, ci, k, q)) (hob : zob M a = some (.inr (ci, fs))) (hw : zcls[ci]? = some w) (hc : k < fs.length ∧ k < w.2.2 ∧ zfit (zfty ci k) v = true ∧ ((w.2.1 k).2.2.2 = false ∨ ((r.2.2.2.2.2.2.1 == 2) = true ∧ (w.2.1 k).1 = zown r.2.2.2.2.2.1))) (h : zrun X mt call r n (pc + 3) ls rest (zset M a (.inr (ci, fs.set k v))) = res) : zrun X mt call r (n + 1) pc ls (v :: .ref a :: rest) M = res := by
  refine zr_s1 htb rfl rfl rfl ?_ h
  simp only [zs1, hlk, hob, hw]
  rw [if_pos ⟨trivial, hc⟩]
theorem zr_iald {a m : Nat} {f : Nat → Int32} {j : Int32} (htb : r.2.2.2.2.2.2.2 pc = some (.iaload, 1)) (ha : a < 1000000) (hob : zob M a = some (.inl (0, m, .inl f))) (hin : vp_in j m) (h : zrun X mt call r n (pc + 1) ls (.int (f j.toNatClampNeg) :: rest) M = res) : zrun X mt call r (n + 1) pc ls (.int j :: .ref a :: rest) M = res := by
  refine zr_s1 htb rfl rfl rfl ?_ h
  simp only [zs1, hob]
  rw [if_neg (Nat.ne_of_lt (Nat.lt_trans ha (by decide))), if_neg hin]
theorem zr_bald {a m : Nat} {f : Nat → Int32} {j : Int32} (htb : r.2.2.2.2.2.2.2 pc = some (.baload, 1)) (ha : a < 1000000) (hob : zob M a = some (.inl (1, m, .inl f))) (hin : vp_in j m) (h : zrun X mt call r n (pc + 1) ls (.int (f j.toNatClampNeg) :: rest) M = res) : zrun X mt call r (n + 1) pc ls (.int j :: .ref a :: rest) M = res := by
  refine zr_s1 htb rfl rfl rfl ?_ h
  have hz : zstat a = none := by
    unfold zstat
    rw [if_neg (by omega), if_neg (by omega), if_neg (by omega)]
  simp only [zs1, hz, hob]
  rw [if_neg hin]
theorem zr_iast {a m : Nat} {f : Nat → Int32} {j v : Int32} (htb : r.2.2.2.2.2.2.2 pc = some (.iastore, 1)) (hob : zob M a = some (.inl (0, m, .inl f))) (hin : vp_in j m) (h : zrun X mt call r n (pc + 1) ls rest (zset M a (.inl (0, m, .inl (upd f j.toNatClampNeg v)))) = res) : zrun X mt call r (n + 1) pc ls (.int v :: .int j :: .ref a :: rest) M = res := by
  refine zr_s1 htb rfl rfl rfl ?_ h
  simp only [zs1, hob]
  rw [if_neg hin]
theorem zr_bast {a m : Nat} {f : Nat → Int32} {j v : Int32} (htb : r.2.2.2.2.2.2.2 pc = some (.bastore, 1)) (hob : zob M a = some (.inl (1, m, .inl f))) (hin : vp_in j m) (h : zrun X mt call r n (pc + 1) ls rest (zset M a (.inl (1, m, .inl (upd f j.toNatClampNeg (vp_nar .byte v))))) = res) : zrun X mt call r (n + 1) pc ls (.int v :: .int j :: .ref a :: rest) M = res := by
  refine zr_s1 htb rfl rfl rfl ?_ h
  simp only [zs1, hob]
  rw [if_neg hin]
theorem zr_alen {a t : Nat} {x : vp_A} (htb : r.2.2.2.2.2.2.2 pc = some (.arraylength, 1)) (ha : a < 1000000) (hob : zob M a = some (.inl (t, x))) (h : zrun X mt call r n (pc + 1) ls (.int (Int32.ofNat x.1) :: rest) M = res) : zrun X mt call r (n + 1) pc ls (.ref a :: rest) M = res := by
  refine zr_s1 htb rfl rfl rfl ?_ h
  simp only [zs1, hob]
  rw [if_neg (Nat.ne_of_lt (Nat.lt_trans ha (by decide)))]
end ZR
theorem zob_lt {M : zM} {a : Nat} {e : zE} (h : zob M a = some e) : a < M.1 := by
  unfold zob at h
  by_cases q : a < M.1
  · exact q
  · rw [if_neg q] at h; cases h
theorem zob_set {M : zM} {a : Nat} {e e0 : zE} (h : zob M a = some e0) : zob (zset M a e) a = some e := by
  have := zob_lt h
  unfold zob zset
  dsimp only
  rw [if_pos this]
  unfold va_up
  rw [if_pos rfl]
theorem zob_set_ne {M : zM} {a b : Nat} {e : zE} (h : b ≠ a) : zob (zset M a e) b = zob M b := by
  unfold zob zset
  dsimp only
  unfold va_up
  rw [if_neg h]
theorem zset_set {M : zM} {a : Nat} {e e2 : zE} : zset (zset M a e) a e2 = zset M a e2 := by
  unfold zset
  dsimp only
  refine congrArg (fun z => (M.1, M.2.1, z)) (funext fun j => ?_)
  unfold va_up
  split <;> rfl
theorem zset_comm {M : zM} {a b : Nat} {e e2 : zE} (h : a ≠ b) : zset (zset M a e) b e2 = zset (zset M b e2) a e := by
  unfold zset
  dsimp only
  refine congrArg (fun z => (M.1, M.2.1, z)) (funext fun j => ?_)
  unfold va_up
  by_cases q : j = a
  · subst q
    rw [if_neg h, if_pos rfl, if_pos rfl]
  · rw [if_neg q, if_neg q]
theorem zset_self {M : zM} {a : Nat} {e : zE} (h : zob M a = some e) : zset M a e = M := by
  have h1 := zob_lt h
  unfold zob at h
  rw [if_pos h1] at h
  have h := Option.some.inj h
  unfold zset
  have : va_up M.2.2 a e = M.2.2 := by
    funext j
    unfold va_up
    split
    · rename_i q
      rw [q, h]
    · rfl
  rw [this]
/-- Arrays.fill of a row of bytes -/
def zbf (f : Nat → Int32) (v : Int32) (i : Nat) : Nat → Int32 := fun j => if j < i then v else f j
theorem zbf_S (f : Nat → Int32) (v : Int32) (i : Nat) : upd (zbf f v i) i v = zbf f v (i + 1) := by
  funext j
  unfold upd zbf
  by_cases h : j = i
  · subst h
    rw [if_pos rfl, if_pos (by omega)]
  · rw [if_neg h]
    by_cases h2 : j < i
    · rw [if_pos h2, if_pos (by omega)]
    · rw [if_neg h2, if_neg (by omega)]
end
section
theorem fill_loop {X : zX} {call : zCall} {a m : Nat} {v : Int32} {f : Nat → Int32} {M : zM} (ha : a < 1000000) (hob : zob M a = some (.inl (1, m, .inl f))) (hm : m < 2 ^ 31) (hv : vp_nar .byte v = v) : ∀ (k i : Nat), i + k = m → zrun X zmt call zm_513 (9 * k + 4) 5 [(0, .ref a), (1, .int v), (2, .int (nI i)), (3, .int (nI m))] [] (zset M a (.inl (1, m, .inl (zbf f v i)))) = some (none, zset M a (.inl (1, m, .inl (zbf f v m)))) := by
  intro k
  induction k with
  | zero =>
    intro i hi
    have hi : i = m := by omega
    subst hi
    show zrun X zmt call zm_513 (3 + 1) 5 _ _ _ = _
    refine zr_s0 rfl rfl rfl rfl ?_
    refine zr_s0 rfl rfl rfl rfl ?_
    refine zr_icmp (t := 20) rfl rfl (fun h => ?_) (fun h => ?_)
    · exact zr_ret rfl rfl rfl
    · exact absurd (Int32.le_refl (nI i)) (by simpa [zcI] using h)
  | succ k ih =>
    intro i hi
    have e : 9 * (k + 1) + 4 = (9 * k + 4) + 9 := by omega
    rw [e]
    refine zr_s0 rfl rfl rfl rfl ?_
    refine zr_s0 rfl rfl rfl rfl ?_
    refine zr_icmp (t := 20) rfl rfl (fun h => ?_) (fun h => ?_)
    · exact absurd (by simpa [zcI] using h) (nI_ge (by omega) hm)
    · refine zr_s0 rfl rfl rfl rfl ?_
      refine zr_s0 rfl rfl rfl rfl ?_
      refine zr_s0 rfl rfl rfl rfl ?_
      refine zr_bast rfl (zob_set hob) (vp_in_nI (by omega) (by omega)) ?_
      rw [zset_set, nI_clamp (by omega), hv, zbf_S]
      refine zr_s0 rfl rfl rfl rfl ?_
      refine zr_s0 rfl rfl rfl rfl ?_
      have e2 : nI i + Int32.ofInt 1 = nI (i + 1) := nI_1 i
      rw [e2]
      exact ih (i + 1) (by omega)
end
section
section ZRC
variable {X : zX} {mt : Nat → Option zMe} {call : zCall} {r r' : zMe} {n pc len pc' t a k p x : Nat} {ls ls' : zL} {st st' rest : List Value} {M M' : zM} {i : Instr} {res : Option (Option Value × zM)} {v : Option Value}
theorem zr_s3 (htb : r.2.2.2.2.2.2.2 pc = some (i, len)) (hk : zlok i len = true) (hr : zret r.2.2.2.1 i st = none) (h0 : zs0 pc ls st r.2.2.1 i len = none) (h1 : zs1 X r.2.2.2.2.2.1 (r.2.2.2.2.2.2.1 == 2) pc ls st M i = none) (hs : zs3 X r.2.2.2.2.2.1 pc ls st M i = some (pc', ls', st', M')) (h : zrun X mt call r n pc' ls' st' M' = res) : zrun X mt call r (n + 1) pc ls st M = res := zr_step htb hk hr (by unfold zstep; rw [h0]; dsimp only; rw [h1]; dsimp only; rw [hs]) h
theorem zr_s2 (htb : r.2.2.2.2.2.2.2 pc = some (i, len)) (hk : zlok i len = true) (hr : zret r.2.2.2.1 i st = none) (h0 : zs0 pc ls st r.2.2.1 i len = none) (h1 : zs1 X r.2.2.2.2.2.1 (r.2.2.2.2.2.2.1 == 2) pc ls st M i = none) (h3 : zs3 X r.2.2.2.2.2.1 pc ls st M i = none) (hs : zs2 mt call r.2.2.2.2.2.1 pc ls st M i = some (pc', ls', st', M')) (h : zrun X mt call r n pc' ls' st' M' = res) : zrun X mt call r (n + 1) pc ls st M = res := zr_step htb hk hr (by unfold zstep; rw [h0]; dsimp only; rw [h1]; dsimp only; rw [h3]; exact hs) h
theorem zr_callS (htb : r.2.2.2.2.2.2.2 pc = some (.invokestatic x, 3)) (hlk : zlk r.2.2.2.2.2.1 x = some (t, a, k, p)) (hmt : mt a = some r') (hc : (t = 1 ∨ t = 2) ∧ zmn a = r'.1 ∧ r'.2.2.2.2.1 = k ∧ r'.2.2.2.2.2.2.1 = 0 ∧ (st.take k).length = k ∧ ((st.drop k).map fun v => v.category).sum ≤ 8) (hcall : call a (st.take k).reverse M = some (v, M')) (h : zrun X mt call r n (pc + 3) ls (v.toList ++ st.drop k) M' = res) : zrun X mt call r (n + 1) pc ls st M = res := by
  refine zr_s2 htb rfl rfl rfl ?_ rfl ?_ h
  · rcases hc.1 with rfl | rfl <;> simp only [zs1, hlk]
  · simp only [zs2, hlk, hmt]
    rw [if_pos hc, hcall]
theorem zr_callI {b : Nat} (htb : r.2.2.2.2.2.2.2 pc = some (.invokespecial x, 3)) (hlk : zlk r.2.2.2.2.2.1 x = some (t, a, k, p)) (hmt : mt a = some r') (hst : st.drop k = .ref b :: rest) (hc : (t = 1 ∨ t = 2) ∧ zmn a = r'.1 ∧ r'.2.2.2.2.1 = k ∧ r'.2.2.2.2.2.2.1 = 2 ∧ (st.take k).length = k ∧ (rest.map fun v => v.category).sum ≤ 8) (hcall : call a (.ref b :: (st.take k).reverse) M = some (v, M')) (h : zrun X mt call r n (pc + 3) ls (v.toList ++ rest) M' = res) : zrun X mt call r (n + 1) pc ls st M = res := by
  refine zr_s2 htb rfl rfl rfl ?_ rfl ?_ h
  · rcases hc.1 with rfl | rfl <;> simp only [zs1, hlk]
  · simp only [zs2, hlk, hmt, hst]
    rw [if_pos hc, hcall]
theorem zr_callV {b ci : Nat} {fs : List Value} {w : vw_C} (htb : r.2.2.2.2.2.2.2 pc = some (.invokevirtual x, 3)) (hlk : zlk r.2.2.2.2.2.1 x = some (t, a, k, p)) (hmt : mt a = some r') (hst : st.drop k = .ref b :: rest) (hb : b < 1000000) (hob : zob M b = some (.inr (ci, fs))) (hw : zcls[ci]? = some w) (hc : (t = 1 ∨ t = 2) ∧ zmn a = r'.1 ∧ r'.2.2.2.2.1 = k ∧ r'.2.2.2.2.2.2.1 = 1 ∧ w.1 = r'.1.cls ∧ (st.take k).length = k ∧ (rest.map fun v => v.category).sum ≤ 8) (hcall : call a (.ref b :: (st.take k).reverse) M = some (v, M')) (h : zrun X mt call r n (pc + 3) ls (v.toList ++ rest) M' = res) : zrun X mt call r (n + 1) pc ls st M = res := by
  refine zr_s2 htb rfl rfl rfl rfl rfl ?_ h
  simp only [zs2, hlk, hmt, hst]
  rw [if_neg (fun q => absurd (Nat.lt_of_le_of_lt q.1 hb) (Nat.lt_irrefl _)), hob]
  simp only [hw]
  rw [if_pos hc, hcall]
theorem zr_callT {b : Nat} (htb : r.2.2.2.2.2.2.2 pc = some (.invokevirtual x, 3)) (hlk : zlk r.2.2.2.2.2.1 x = some (t, a, k, p)) (hmt : mt a = some r') (hst : st.drop k = .ref b :: rest) (hb : 1000000 ≤ b ∧ b < 1000013) (hc : (t = 1 ∨ t = 2) ∧ zmn a = r'.1 ∧ r'.2.2.2.2.1 = k ∧ r'.2.2.2.2.2.2.1 = 1 ∧ "java/lang/String" = r'.1.cls ∧ (st.take k).length = k ∧ (rest.map fun v => v.category).sum ≤ 8) (hcall : call a (.ref b :: (st.take k).reverse) M = some (v, M')) (h : zrun X mt call r n (pc + 3) ls (v.toList ++ rest) M' = res) : zrun X mt call r (n + 1) pc ls st M = res := by
  refine zr_s2 htb rfl rfl rfl rfl rfl ?_ h
  simp only [zs2, hlk, hmt, hst]
  rw [if_pos hb, if_pos hc, hcall]
end ZRC
theorem zev_S {th : Nat} {X : zX} {mt : Nat → Option zMe} {ov : zCall} {d n a : Nat} {av : List Value} {M : zM} {r : zMe} {res : Option (Option Value × zM)} (ho : ov a av M = none) (hr : mt a = some r) (hl : (lg_sl av).length ≤ r.2.2.1) (h : zrun X mt (zev th X mt ov d n) r n 0 (lv_args 0 av) [] M = res) : zev th X mt ov (d + 1) n a av M = res := by
  rw [zev, ho]
  dsimp only
  rw [hr]
  dsimp only
  rw [if_pos hl]
  exact h
theorem zr_reti {X : zX} {mt : Nat → Option zMe} {call : zCall} {r : zMe} {n pc : Nat} {ls : zL} {M : zM} {v : Int32} (htb : r.2.2.2.2.2.2.2 pc = some (.ireturn, 1)) (hr : r.2.2.2.1 = some .int) : zrun X mt call r (n + 1) pc ls [.int v] M = some (some (.int v), M) := zr_ret htb rfl (by rw [hr]; simp [zret, narrow])
theorem zr_retn {X : zX} {mt : Nat → Option zMe} {call : zCall} {r : zMe} {n pc : Nat} {ls : zL} {M : zM} {v : Int32} {ty : FieldType} (htb : r.2.2.2.2.2.2.2 pc = some (.ireturn, 1)) (hr : r.2.2.2.1 = some ty) (h : narrow ty (.int v) = .int v) : zrun X mt call r (n + 1) pc ls [.int v] M = some (some (.int v), M) := zr_ret htb rfl (by rw [hr]; simp [zret, h])
def zov0 : zCall := fun _ _ _ => none
theorem zov0_ok {th : Nat} {l : Launch} {base : Nat} {ex : Nat → Nat} {dC : Nat → ClassId} {dI : Nat → Nat → Nat} {X : zX} {mt : Nat → Option zMe} : zOv th l base ex dC dI X mt zov0 := fun _ _ _ _ _ h => by cases h
theorem shr0 (x : Int32) : x >>> ((0 : Int32) &&& 31) = x := by
  have e : ((0 : Int32) &&& 31) = 0 := by decide
  rw [e]
  simp
/-- String.length() and charAt(k) of a constant -/
theorem str_coder {X : zX} {call : zCall} {M : zM} {q n : Nat} (hq : 1000000 ≤ q ∧ q < 1000013) : zrun X zmt call zm_503 (n + 6) 0 [(0, .ref q)] [] M = some (some (.int 0), M) := by
  refine zr_s3 rfl rfl rfl rfl rfl rfl ?_
  refine zr_if (t := 13) rfl rfl (fun h => absurd h (by decide)) (fun _ => ?_)
  refine zr_s0 rfl rfl rfl rfl ?_
  refine zr_s3 (pc' := 10) (ls' := [(0, .ref q)]) (st' := [.int 0]) (M' := M) rfl rfl rfl rfl rfl (by
    show (if 1000000 ≤ q ∧ q < 1000013 then _ else none) = _
    rw [if_pos hq]
    rfl) ?_
  refine zr_s0 rfl rfl rfl rfl ?_
  exact zr_ret rfl rfl rfl
theorem str_arr {X : zX} {own : Nat} {ini : Bool} {pc : Nat} {ls : zL} {M : zM} {q : Nat} {r : List Value} (hq : 1000000 ≤ q ∧ q < 1000013) (hM : M.1 ≤ 1000000) : zs1 X own ini pc ls (.ref (q + 20) :: r) M .arraylength = none ∧ ∀ j, zs1 X own ini pc ls (.int j :: .ref (q + 20) :: r) M .baload = none := by
  have hq' : @LE.le Nat _ 1000000 q ∧ @LT.lt Nat _ q 1000013 := hq
  have hob : zob M (q + 20) = none := by
    unfold zob
    rw [if_neg (by omega)]
  have h16 : ¬ q + 20 = 1000016 := by omega
  have hst : zstat (q + 20) = none := by
    unfold zstat
    rw [if_neg (by omega), if_neg (by omega), if_neg (by omega)]
  refine ⟨?_, fun j => ?_⟩
  · simp only [zs1]
    rw [if_neg h16, hob]
  · simp only [zs1]
    rw [hst, hob]
theorem zr_slen {X : zX} {mt : Nat → Option zMe} {call : zCall} {r : zMe} {n pc : Nat} {ls : zL} {M : zM} {q : Nat} {rest : List Value} {res : Option (Option Value × zM)} (htb : r.2.2.2.2.2.2.2 pc = some (.arraylength, 1)) (hq : 1000000 ≤ q ∧ q < 1000013) (hM : M.1 ≤ 1000000) (h : zrun X mt call r n (pc + 1) ls (.int (nI (zsb (q - 1000000)).length) :: rest) M = res) : zrun X mt call r (n + 1) pc ls (.ref (q + 20) :: rest) M = res := by
  refine zr_s3 htb rfl rfl rfl (str_arr hq hM).1 ?_ h
  have hq' : @LE.le Nat _ 1000000 q ∧ @LT.lt Nat _ q 1000013 := hq
  have e1 : q + 20 - 1000020 = q - 1000000 := by omega
  simp only [zs3]
  rw [if_pos (show @LE.le Nat _ 1000020 (q + 20) ∧ @LT.lt Nat _ (q + 20) 1000033 by omega), e1]
  rfl
theorem zr_sbald {X : zX} {mt : Nat → Option zMe} {call : zCall} {r : zMe} {n pc : Nat} {ls : zL} {M : zM} {q k : Nat} {rest : List Value} {res : Option (Option Value × zM)} (htb : r.2.2.2.2.2.2.2 pc = some (.baload, 1)) (hq : 1000000 ≤ q ∧ q < 1000013) (hM : M.1 ≤ 1000000) (hk : k < (zsb (q - 1000000)).length) (hk2 : k < 2 ^ 31) (h : zrun X mt call r n (pc + 1) ls (.int ((zsb (q - 1000000)).getD k 0) :: rest) M = res) : zrun X mt call r (n + 1) pc ls (.int (nI k) :: .ref (q + 20) :: rest) M = res := by
  refine zr_s3 htb rfl rfl rfl ((str_arr hq hM).2 _) ?_ h
  have hq' : @LE.le Nat _ 1000000 q ∧ @LT.lt Nat _ q 1000013 := hq
  have e1 : q + 20 - 1000020 = q - 1000000 := by omega
  simp only [zs3]
  rw [if_pos (show @LE.le Nat _ 1000020 (q + 20) ∧ @LT.lt Nat _ (q + 20) 1000033 by omega), e1, nI_clamp hk2, if_neg]
  intro z
  rcases z with z | z
  · exact nI_pos hk2 z
  · omega
theorem str_length {X : zX} {call : zCall} {M : zM} {q n : Nat} (hq : 1000000 ≤ q ∧ q < 1000013) (hM : M.1 ≤ 1000000) (hc : call 503 [.ref q] M = some (some (.int 0), M)) : zrun X zmt call zm_501 (n + 7) 0 [(0, .ref q)] [] M = some (some (.int (nI (zsb (q - 1000000)).length)), M) := by
  refine zr_s0 rfl rfl rfl rfl ?_
  refine zr_s3 (pc' := 4) (ls' := [(0, .ref q)]) (st' := [.ref (q + 20)]) (M' := M) rfl rfl rfl rfl rfl (by
    show (if 1000000 ≤ q ∧ q < 1000013 then _ else none) = _
    rw [if_pos hq]
    rfl) ?_
  refine zr_slen rfl hq hM ?_
  refine zr_s0 rfl rfl rfl rfl ?_
  refine zr_callT rfl rfl rfl rfl hq ⟨Or.inl rfl, rfl, rfl, rfl, rfl, rfl, Nat.le_of_ble_eq_true rfl⟩ hc ?_
  refine zr_s0 rfl rfl rfl rfl ?_
  rw [shr0]
  exact zr_reti rfl rfl
theorem str_latin {X : zX} {call : zCall} {M : zM} {q n : Nat} (hq : 1000000 ≤ q ∧ q < 1000013) : zrun X zmt call zm_504 (n + 8) 0 [(0, .ref q)] [] M = some (some (.int 1), M) := by
  refine zr_s3 rfl rfl rfl rfl rfl rfl ?_
  refine zr_if (t := 17) rfl rfl (fun h => absurd h (by decide)) (fun _ => ?_)
  refine zr_s0 rfl rfl rfl rfl ?_
  refine zr_s3 (pc' := 10) (ls' := [(0, .ref q)]) (st' := [.int 0]) (M' := M) rfl rfl rfl rfl rfl (by
    show (if 1000000 ≤ q ∧ q < 1000013 then _ else none) = _
    rw [if_pos hq]
    rfl) ?_
  refine zr_if (t := 17) rfl rfl (fun h => absurd h (by decide)) (fun _ => ?_)
  refine zr_s0 rfl rfl rfl rfl ?_
  refine zr_s0 rfl rfl rfl rfl ?_
  exact zr_ret rfl rfl rfl
theorem str_pre {X : zX} {call : zCall} {M : zM} {k m n : Nat} {v : Value} (hk : k < m) (hm : m < 2 ^ 31) (hv : v.category = 1) : zrun X zmt call zm_515 (n + 7) 0 [(0, .int (nI k)), (1, .int (nI m)), (2, v)] [] M = some (some (.int (nI k)), M) := by
  refine zr_s0 rfl rfl rfl rfl ?_
  refine zr_if (t := 9) rfl rfl (fun h => absurd (by simpa [zcI] using h) (nI_pos (by omega))) (fun _ => ?_)
  refine zr_s0 rfl rfl rfl rfl ?_
  refine zr_s0 rfl rfl rfl rfl ?_
  refine zr_icmp (t := 16) rfl rfl (fun _ => ?_) (fun h => absurd (nI_lt hk hm) (by simpa [zcI] using h))
  refine zr_s0 rfl rfl rfl rfl ?_
  exact zr_reti rfl rfl
theorem str_check {X : zX} {call : zCall} {M : zM} {k m n : Nat} (hc : ∀ v : Value, v.category = 1 → call 515 [.int (nI k), .int (nI m), v] M = some (some (.int (nI k)), M)) : zrun X zmt call zm_505 (n + 6) 0 [(0, .int (nI k)), (1, .int (nI m))] [] M = some (none, M) := by
  refine zr_s0 rfl rfl rfl rfl ?_
  refine zr_s0 rfl rfl rfl rfl ?_
  refine zr_s3 rfl rfl rfl rfl rfl rfl ?_
  refine zr_callS rfl rfl rfl ⟨Or.inl rfl, rfl, rfl, rfl, rfl, Nat.le_of_ble_eq_true rfl⟩ (hc _ (by split <;> rfl)) ?_
  refine zr_s0 rfl rfl rfl rfl ?_
  exact zr_ret rfl rfl rfl
def zchar (b : Int32) : Int32 := ((b &&& 255).toUInt32 % 65536).toInt32
theorem zsb_char : ∀ i, i < 13 → (zsb i).length < 2 ^ 31 ∧ ∀ b ∈ zsb i, narrow .char (.int (zchar b)) = .int (zchar b) ∧ zchar b = b := by decide +kernel
theorem getD_mem {l : List Int32} {k : Nat} (hk : k < l.length) : l.getD k 0 ∈ l := by
  rw [List.getD_eq_getElem?_getD, List.getElem?_eq_getElem hk]
  exact List.getElem_mem hk
theorem zsb_at {i k : Nat} (hi : i < 13) (hk : k < (zsb i).length) : (zsb i).length < 2 ^ 31 ∧ narrow .char (.int ((zsb i).getD k 0)) = .int ((zsb i).getD k 0) ∧ zchar ((zsb i).getD k 0) = (zsb i).getD k 0 := by
  obtain ⟨c1, c2⟩ := zsb_char i hi
  obtain ⟨c3, c4⟩ := c2 _ (getD_mem hk)
  rw [c4] at c3
  exact ⟨c1, c3, c4⟩
theorem str_l1' {X : zX} {call : zCall} {M : zM} {q k n len : Nat} {b : Int32} (h1 : ∀ (n : Nat) (rest : List Value) (pc : Nat) (ls : zL) (res : Option (Option Value × zM)), zm_506.2.2.2.2.2.2.2 pc = some (.arraylength, 1) → zrun X zmt call zm_506 n (pc + 1) ls (.int (nI len) :: rest) M = res → zrun X zmt call zm_506 (n + 1) pc ls (.ref q :: rest) M = res) (h2 : ∀ (n : Nat) (rest : List Value) (pc : Nat) (ls : zL) (res : Option (Option Value × zM)), zm_506.2.2.2.2.2.2.2 pc = some (.baload, 1) → zrun X zmt call zm_506 n (pc + 1) ls (.int b :: rest) M = res → zrun X zmt call zm_506 (n + 1) pc ls (.int (nI k) :: .ref q :: rest) M = res) (hc : call 505 [.int (nI k), .int (nI len)] M = some (none, M)) (c3 : narrow .char (.int b) = .int b) (c4 : zchar b = b) : zrun X zmt call zm_506 (n + 11) 0 [(0, .ref q), (1, .int (nI k))] [] M = some (some (.int b), M) := by
  refine zr_s0 rfl rfl rfl rfl ?_
  refine zr_s0 rfl rfl rfl rfl ?_
  refine h1 _ _ _ _ _ rfl ?_
  refine zr_callS rfl rfl rfl ⟨Or.inl rfl, rfl, rfl, rfl, rfl, Nat.le_of_ble_eq_true rfl⟩ hc ?_
  refine zr_s0 rfl rfl rfl rfl ?_
  refine zr_s0 rfl rfl rfl rfl ?_
  refine h2 _ _ _ _ _ rfl ?_
  refine zr_s0 rfl rfl rfl rfl ?_
  refine zr_s0 rfl rfl rfl rfl ?_
  refine zr_s0 (pc' := 14) (ls' := [(0, .ref q), (1, .int (nI k))]) (st' := [.int (zchar b)]) rfl rfl rfl rfl ?_
  rw [c4]
  exact zr_retn rfl rfl c3
theorem str_l1 {X : zX} {call : zCall} {M : zM} {q k n : Nat} (hq : 1000000 ≤ q ∧ q < 1000013) (hM : M.1 ≤ 1000000) (hk : k < (zsb (q - 1000000)).length) (hc : call 505 [.int (nI k), .int (nI (zsb (q - 1000000)).length)] M = some (none, M)) : zrun X zmt call zm_506 (n + 11) 0 [(0, .ref (q + 20)), (1, .int (nI k))] [] M = some (some (.int ((zsb (q - 1000000)).getD k 0)), M) := by
  have hq' : @LE.le Nat _ 1000000 q ∧ @LT.lt Nat _ q 1000013 := hq
  have hi : q - 1000000 < 13 := by omega
  obtain ⟨c1, c3, c4⟩ := zsb_at hi hk
  exact str_l1' (fun n rest pc ls res htb h => zr_slen htb hq hM h) (fun n rest pc ls res htb h => zr_sbald htb hq hM hk (Nat.lt_trans hk c1) h) hc c3 c4
theorem str_charAt {X : zX} {call : zCall} {M : zM} {q k n : Nat} {b : Int32} (hq : 1000000 ≤ q ∧ q < 1000013) (hc1 : call 504 [.ref q] M = some (some (.int 1), M)) (hc2 : call 506 [.ref (q + 20), .int (nI k)] M = some (some (.int b), M)) (c3 : narrow .char (.int b) = .int b) : zrun X zmt call zm_502 (n + 8) 0 [(0, .ref q), (1, .int (nI k))] [] M = some (some (.int b), M) := by
  refine zr_s0 rfl rfl rfl rfl ?_
  refine zr_callT rfl rfl rfl rfl hq ⟨Or.inl rfl, rfl, rfl, rfl, rfl, rfl, Nat.le_of_ble_eq_true rfl⟩ hc1 ?_
  refine zr_if (t := 16) rfl rfl (fun h => absurd h (by decide)) (fun _ => ?_)
  refine zr_s0 rfl rfl rfl rfl ?_
  refine zr_s3 (pc' := 11) (ls' := [(0, .ref q), (1, .int (nI k))]) (st' := [.ref (q + 20)]) (M' := M) rfl rfl rfl rfl rfl (by
    show (if 1000000 ≤ q ∧ q < 1000013 then _ else none) = _
    rw [if_pos hq]
    rfl) ?_
  refine zr_s0 rfl rfl rfl rfl ?_
  refine zr_callS rfl rfl rfl ⟨Or.inl rfl, rfl, rfl, rfl, rfl, Nat.le_of_ble_eq_true rfl⟩ hc2 ?_
  exact zr_retn rfl rfl c3
theorem zsl3 {a b : Int32} {v : Value} (hv : v.category = 1) : (lg_sl [.int a, .int b, v]).length ≤ 3 := by
  have h : ¬ v.category = 2 := by omega
  have e : lg_sl [.int a, .int b, v] = [.val (.int a), .val (.int b)] ++ ((if v.category = 2 then [.val v, .second] else [.val v]) ++ []) := rfl
  rw [e, if_neg h]
  exact Nat.le_refl _
theorem zrun_fuel {X : zX} {mt : Nat → Option zMe} {call : zCall} {r : zMe} : ∀ (n pc : Nat) (ls : zL) (st : List Value) (M : zM) (res : Option Value × zM), zrun X mt call r n pc ls st M = some res → ∀ m, n ≤ m → zrun X mt call r m pc ls st M = some res := by
  intro n
  induction n with
  | zero => intro pc ls st M res h; cases h
  | succ n ih =>
    intro pc ls st M res h m hm
    obtain ⟨m', rfl⟩ : ∃ m', m = m' + 1 := ⟨m - 1, by omega⟩
    unfold zrun at h ⊢
    split at h
    · cases h
    · rename_i i len htb
      split at h
      · rename_i hk
        rw [if_pos hk]
        split at h
        · exact h
        · split at h
          · exact ih _ _ _ _ _ h _ (by omega)
          · cases h
      · cases h
theorem zev_ovS {th : Nat} {X : zX} {mt : Nat → Option zMe} {ov : zCall} {d n a : Nat} {av : List Value} {M : zM} {q : Option Value × zM} (ho : ov a av M = some q) (hd : th ≤ d + 1) : zev th X mt ov (d + 1) n a av M = some q := by
  rw [zev, ho]
  dsimp only
  rw [if_pos hd]
theorem zev_length {X : zX} {M : zM} {q d : Nat} (hq : 1000000 ≤ q ∧ q < 1000013) (hM : M.1 ≤ 1000000) : zev 0 X zmt zov0 (d + 2) 20 501 [.ref q] M = some (some (.int (nI (zsb (q - 1000000)).length)), M) :=
  zev_S rfl rfl (show 1 ≤ 1 by decide) (str_length (n := 13) hq hM (zev_S rfl rfl (show 1 ≤ 1 by decide) (str_coder (n := 14) hq)))
theorem zev_charAt {X : zX} {M : zM} {q k d : Nat} (hq : 1000000 ≤ q ∧ q < 1000013) (hM : M.1 ≤ 1000000) (hk : k < (zsb (q - 1000000)).length) : zev 0 X zmt zov0 (d + 5) 20 502 [.ref q, .int (nI k)] M = some (some (.int ((zsb (q - 1000000)).getD k 0)), M) := by
  have hq' : @LE.le Nat _ 1000000 q ∧ @LT.lt Nat _ q 1000013 := hq
  have hi : q - 1000000 < 13 := by omega
  obtain ⟨c1, c3, c4⟩ := zsb_at hi hk
  have p1 : zev 0 X zmt zov0 (d + 4) 20 504 [.ref q] M = some (some (.int 1), M) := zev_S rfl rfl (show 1 ≤ 1 by decide) (str_latin (n := 12) hq)
  have p5 : ∀ v : Value, v.category = 1 → zev 0 X zmt zov0 (d + 2) 20 515 [.int (nI k), .int (nI (zsb (q - 1000000)).length), v] M = some (some (.int (nI k)), M) := fun v hv => zev_S rfl rfl (zsl3 hv) (str_pre (n := 13) hk c1 hv)
  have p4 : zev 0 X zmt zov0 (d + 3) 20 505 [.int (nI k), .int (nI (zsb (q - 1000000)).length)] M = some (none, M) := zev_S rfl rfl (show 2 ≤ 2 by decide) (str_check (n := 14) p5)
  have p3 : zev 0 X zmt zov0 (d + 4) 20 506 [.ref (q + 20), .int (nI k)] M = some (some (.int ((zsb (q - 1000000)).getD k 0)), M) := zev_S rfl rfl (show 2 ≤ 2 by decide) (str_l1 (n := 9) hq hM hk p4)
  exact zev_S rfl rfl (show 2 ≤ 2 by decide) (str_charAt (n := 12) hq p1 p3 c3)
end
section
/-- what is known: String.length, String.charAt of constants, Arrays.fill of bytes -/
def zovS : zCall := fun a av M =>
  if a = 501 then (match av with
    | [.ref q] => if 1000000 ≤ q ∧ q < 1000013 ∧ M.1 ≤ 1000000 then some (some (.int (nI (zsb (q - 1000000)).length)), M) else none
    | _ => none)
  else if a = 502 then (match av with
    | [.ref q, .int k] => if (1000000 ≤ q ∧ q < 1000013) ∧ M.1 ≤ 1000000 ∧ ¬ k < 0 ∧ k.toNatClampNeg < (zsb (q - 1000000)).length then some (some (.int ((zsb (q - 1000000)).getD k.toNatClampNeg 0)), M) else none
    | _ => none)
  else if a = 513 then (match av with
    | [.ref o, .int v] => if o < 1000000 ∧ vp_nar .byte v = v then (match zob M o with
      | some (.inl (1, m, .inl f)) => if m < 2147483648 then some (none, zset M o (.inl (1, m, .inl (zbf f v m)))) else none
      | _ => none) else none
    | _ => none)
  else none
theorem zovS_ok {l : Launch} {base : Nat} {ex : Nat → Nat} {dC : Nat → ClassId} {dI : Nat → Nat → Nat} {X : zX} : zOv 8 l base ex dC dI X zmt zovS := by
  intro a av M v M' h
  unfold zovS at h
  split at h
  · rename_i ha
    subst ha
    split at h
    · rename_i q
      split at h
      · rename_i hq
        cases h
        refine ⟨⟨Nat.le_refl _, Nat.le_refl _⟩, fun d hd r hr => ?_⟩
        obtain ⟨d', rfl⟩ : ∃ d', d = d' + 2 := ⟨d - 2, by omega⟩
        exact zev_ok (th := 0) zmt_ok zov0_ok _ _ _ _ _ _ _ (zev_length ⟨hq.1, hq.2.1⟩ hq.2.2) r hr
      · cases h
    · cases h
  · split at h
    · rename_i ha
      subst ha
      split at h
      · rename_i q k
        split at h
        · rename_i hq
          cases h
          obtain ⟨hq1, hq2, hq3, hq4⟩ := hq
          obtain ⟨j, hj, rfl⟩ := nI_of hq3
          rw [nI_clamp hj] at hq4 ⊢
          refine ⟨⟨Nat.le_refl _, Nat.le_refl _⟩, fun d hd r hr => ?_⟩
          obtain ⟨d', rfl⟩ : ∃ d', d = d' + 5 := ⟨d - 5, by omega⟩
          exact zev_ok (th := 0) zmt_ok zov0_ok _ _ _ _ _ _ _ (zev_charAt hq1 hq2 hq4) r hr
        · cases h
      · cases h
    · split at h
      · rename_i ha
        subst ha
        split at h
        · rename_i o v0
          split at h
          · rename_i hq
            split at h
            · rename_i m f hob
              split at h
              · rename_i hm
                cases h
                refine ⟨zset_mono, fun d hd r hr => ?_⟩
                obtain ⟨d', rfl⟩ : ∃ d', d = d' + 1 := ⟨d - 1, by omega⟩
                refine zMet_of (call := zov0) (n := 9 * m + 4 + 5) zmt_ok hr (fun _ _ _ _ _ h => by cases h) (fun _ _ _ _ _ h => by cases h) ?_ ?_
                · cases hr
                  exact Nat.le_of_ble_eq_true rfl
                · cases hr
                  refine zr_s0 rfl rfl rfl rfl ?_
                  refine zr_s0 rfl rfl rfl rfl ?_
                  refine zr_s0 rfl rfl rfl rfl ?_
                  refine zr_alen rfl hq.1 hob ?_
                  refine zr_s0 rfl rfl rfl rfl ?_
                  have hz : zset M o (.inl (1, m, .inl (zbf f v0 0))) = M := by
                    have : zbf f v0 0 = f := by
                      funext j
                      unfold zbf
                      rw [if_neg (by omega)]
                    rw [this]
                    exact zset_self hob
                  have := fill_loop (X := X) (call := zov0) hq.1 hob hm hq.2 m 0 (by omega)
                  rw [hz] at this
                  exact this
              · cases h
            · cases h
          · cases h
        · cases h
      · cases h
def zX0 (z : Nat) : zX := (2147483648, fun _ => 0, z)
def zM0 : zM := (0, 0, fun _ => .inr (0, []))
end
section
/-! Words(): its lines are spelled into rows -/
abbrev zwS : Type := Nat × (Nat → Int32) × (Nat → Int32) × (Nat → Int32) × (Nat → Int32) × (Nat → Int32)
def zwFlag (t : Nat) : Int32 := vp_nar .byte ((zTRAITS.getD t 0 &&& Int32.ofInt 1).toInt8.toInt32)
/-- a sign of a line: (words, lists, does, flags, lengths, names) -/
def zal1 (s : zwS) (c : Int32) : zwS := match s with
  | (t, fL, fD, fF, fN, fM) => if c = 32 then (t + 1, upd fL t (vp_nar .byte (Int32.ofInt 1)), upd fD t (Int32.ofInt (-1)), upd fF t (zwFlag t), fN, fM) else (t, fL, fD, fF, upd fN t (vp_nar .byte ((fN t + Int32.ofInt 1).toInt8.toInt32)), upd fM (24 * t + (fN t).toNatClampNeg) (vp_nar .byte c.toInt8.toInt32))
def zal (s : zwS) : List Int32 → zwS
  | [] => s
  | c :: cs => zal (zal1 s c) cs
def zgood : List Int32 → Nat → Nat → Bool
  | [], _, _ => true
  | c :: cs, t, k => if c = 32 then (Nat.blt t 172 && zgood cs (t + 1) 0) else (Nat.blt t 172 && Nat.blt k 23 && zgood cs t (k + 1))
def zwInv (s : zwS) (k : Nat) : Prop := s.2.2.2.2.1 s.1 = nI k ∧ ∀ j, s.1 < j → s.2.2.2.2.1 j = 0
def zwF (b t : Nat) : List Value := [.ref b, .ref (b + 1), .ref (b + 2), .ref (b + 3), .ref (b + 4), .ref (b + 5), .ref (b + 6), .ref (b + 7), .ref (b + 8), .ref (b + 9), .ref (b + 10), .ref (b + 11), .int (nI t), .int (Int32.ofInt (-1))]
def zwE (M : zM) (o b : Nat) (s : zwS) (k : Nat) : zE :=
  if k = o then .inr (10, zwF b s.1)
  else if k = b + 2 then .inl (1, 360, .inl s.2.1)
  else if k = b + 5 then .inl (0, 360, .inl s.2.2.1)
  else if k = b + 1 then .inl (1, 360, .inl s.2.2.2.1)
  else if k = b + 6 then .inl (1, 360, .inl s.2.2.2.2.1)
  else if k = b + 7 then .inl (1, 8640, .inl s.2.2.2.2.2)
  else M.2.2 k
def zwM (M : zM) (o b : Nat) (s : zwS) : zM := (M.1, M.2.1, zwE M o b s)
section ZWORDS
variable {M : zM} {o b : Nat} {s : zwS}
theorem zw_o (ho : o < b) (hb : b + 12 ≤ M.1) : zob (zwM M o b s) o = some (.inr (10, zwF b s.1)) := by
  unfold zob zwM zwE
  dsimp only
  rw [if_pos (by omega), if_pos rfl]
theorem zw_L (ho : o < b) (hb : b + 12 ≤ M.1) : zob (zwM M o b s) (b + 2) = some (.inl (1, 360, .inl s.2.1)) := by
  unfold zob zwM zwE
  dsimp only
  rw [if_pos (by omega), if_neg (by omega), if_pos rfl]
theorem zw_D (ho : o < b) (hb : b + 12 ≤ M.1) : zob (zwM M o b s) (b + 5) = some (.inl (0, 360, .inl s.2.2.1)) := by
  unfold zob zwM zwE
  dsimp only
  rw [if_pos (by omega), if_neg (by omega), if_neg (by omega), if_pos rfl]
theorem zw_F (ho : o < b) (hb : b + 12 ≤ M.1) : zob (zwM M o b s) (b + 1) = some (.inl (1, 360, .inl s.2.2.2.1)) := by
  unfold zob zwM zwE
  dsimp only
  rw [if_pos (by omega), if_neg (by omega), if_neg (by omega), if_neg (by omega), if_pos rfl]
theorem zw_N (ho : o < b) (hb : b + 12 ≤ M.1) : zob (zwM M o b s) (b + 6) = some (.inl (1, 360, .inl s.2.2.2.2.1)) := by
  unfold zob zwM zwE
  dsimp only
  rw [if_pos (by omega), if_neg (by omega), if_neg (by omega), if_neg (by omega), if_neg (by omega), if_pos rfl]
theorem zw_M (ho : o < b) (hb : b + 12 ≤ M.1) : zob (zwM M o b s) (b + 7) = some (.inl (1, 8640, .inl s.2.2.2.2.2)) := by
  unfold zob zwM zwE
  dsimp only
  rw [if_pos (by omega), if_neg (by omega), if_neg (by omega), if_neg (by omega), if_neg (by omega), if_neg (by omega), if_pos rfl]
theorem zw_ext {a : Nat} {e : zE} {s' : zwS} (h : ∀ k, (if k = a then e else zwE M o b s k) = zwE M o b s' k) : zset (zwM M o b s) a e = zwM M o b s' := by
  unfold zset zwM
  dsimp only
  refine congrArg (fun z => (M.1, M.2.1, z)) (funext fun k => ?_)
  unfold va_up
  exact h k
theorem zws_o (ho : o < b) {t' : Nat} : zset (zwM M o b s) o (.inr (10, zwF b t')) = zwM M o b (t', s.2) := zw_ext fun k => by
  unfold zwE
  dsimp only
  split
  · rfl
  · rfl
theorem zws_L (ho : o < b) {f : Nat → Int32} : zset (zwM M o b s) (b + 2) (.inl (1, 360, .inl f)) = zwM M o b (s.1, f, s.2.2) := zw_ext fun k => by
  unfold zwE
  dsimp only
  by_cases q : k = b + 2
  · subst q
    rw [if_pos rfl, if_neg (by omega), if_pos rfl]
  · rw [if_neg q, if_neg q, if_neg q]
theorem zws_D (ho : o < b) {f : Nat → Int32} : zset (zwM M o b s) (b + 5) (.inl (0, 360, .inl f)) = zwM M o b (s.1, s.2.1, f, s.2.2.2) := zw_ext fun k => by
  unfold zwE
  dsimp only
  by_cases q : k = b + 5
  · subst q
    rw [if_pos rfl, if_neg (by omega), if_neg (by omega), if_pos rfl]
  · rw [if_neg q, if_neg q, if_neg q]
theorem zws_F (ho : o < b) {f : Nat → Int32} : zset (zwM M o b s) (b + 1) (.inl (1, 360, .inl f)) = zwM M o b (s.1, s.2.1, s.2.2.1, f, s.2.2.2.2) := zw_ext fun k => by
  unfold zwE
  dsimp only
  by_cases q : k = b + 1
  · subst q
    rw [if_pos rfl, if_neg (by omega), if_neg (by omega), if_neg (by omega), if_pos rfl]
  · rw [if_neg q, if_neg q, if_neg q]
theorem zws_N (ho : o < b) {f : Nat → Int32} : zset (zwM M o b s) (b + 6) (.inl (1, 360, .inl f)) = zwM M o b (s.1, s.2.1, s.2.2.1, s.2.2.2.1, f, s.2.2.2.2.2) := zw_ext fun k => by
  unfold zwE
  dsimp only
  by_cases q : k = b + 6
  · subst q
    rw [if_pos rfl, if_neg (by omega), if_neg (by omega), if_neg (by omega), if_neg (by omega), if_pos rfl]
  · rw [if_neg q, if_neg q, if_neg q]
theorem zws_M (ho : o < b) {f : Nat → Int32} : zset (zwM M o b s) (b + 7) (.inl (1, 8640, .inl f)) = zwM M o b (s.1, s.2.1, s.2.2.1, s.2.2.2.1, s.2.2.2.2.1, f) := zw_ext fun k => by
  unfold zwE
  dsimp only
  by_cases q : k = b + 7
  · subst q
    rw [if_pos rfl, if_neg (by omega), if_neg (by omega), if_neg (by omega), if_neg (by omega), if_neg (by omega), if_pos rfl]
  · rw [if_neg q, if_neg q, if_neg q]
end ZWORDS
theorem zr_stb {X : zX} {mt : Nat → Option zMe} {call : zCall} {r : zMe} {n pc a k : Nat} {ls : zL} {M : zM} {rest : List Value} {l : List Int32} {res : Option (Option Value × zM)} (htb : r.2.2.2.2.2.2.2 pc = some (.baload, 1)) (hz : zstat a = some l) (hk : k < l.length) (hk2 : k < 2 ^ 31) (h : zrun X mt call r n (pc + 1) ls (.int (l.getD k 0) :: rest) M = res) : zrun X mt call r (n + 1) pc ls (.int (nI k) :: .ref a :: rest) M = res := by
  refine zr_s1 htb rfl rfl rfl ?_ h
  simp only [zs1, hz]
  rw [nI_clamp hk2, if_neg]
  intro z
  rcases z with z | z
  · exact nI_pos hk2 z
  · omega
theorem zfit_int (v : Int32) : zfit .int (.int v) = true := by simp [zfit, narrow, fits]
theorem zwF_S (b t : Nat) : (zwF b t).set 12 (.int (nI t + Int32.ofInt 1)) = zwF b (t + 1) := by
  have e : nI t + Int32.ofInt 1 = nI (t + 1) := nI_1 t
  rw [e]
  rfl
theorem zw_len : ∀ k, k < 23 → vp_nar .byte ((nI k + Int32.ofInt 1).toInt8.toInt32) = nI (k + 1) := by decide +kernel
theorem nI_mul (a b : Nat) : nI a * nI b = nI (a * b) := by
  unfold nI
  simp
set_option maxHeartbeats 4000000 in
theorem addLine_loop {X : zX} {call : zCall} {M : zM} {o b q : Nat} (ho : o < b) (hb : b + 12 ≤ M.1) (hM : M.1 ≤ 1000000) (cs0 : List Int32) (hlen : cs0.length < 2 ^ 31) (hcL : ∀ M : zM, M.1 ≤ 1000000 → call 501 [.ref q] M = some (some (.int (nI cs0.length)), M)) (hcC : ∀ (M : zM) (k : Nat), M.1 ≤ 1000000 → k < cs0.length → call 502 [.ref q, .int (nI k)] M = some (some (.int (cs0.getD k 0)), M)) (hq : 1000000 ≤ q ∧ q < 1000013) : ∀ (cs : List Int32) (i k : Nat) (s : zwS), i ≤ cs0.length → cs0.drop i = cs → zwInv s k → zgood cs s.1 k = true → k < 24 → ∀ n, 42 * cs.length + 5 ≤ n → zrun X zmt call zm_239 n 2 [(0, .ref o), (1, .ref q), (2, .int (nI i))] [] (zwM M o b s) = some (none, zwM M o b (zal s cs)) := by
  intro cs
  induction cs with
  | nil =>
    intro i k s hile hd hi hg hk n hn5
    have hle : cs0.length ≤ i := List.drop_eq_nil_iff.mp hd
    have hi2 : i = cs0.length := by omega
    subst hi2
    obtain ⟨n, rfl⟩ : ∃ n', n = n' + 5 := ⟨n - 5, by omega⟩
    refine zr_s0 rfl rfl rfl rfl ?_
    refine zr_s0 rfl rfl rfl rfl ?_
    refine zr_callT rfl rfl rfl rfl hq ⟨Or.inl rfl, rfl, rfl, rfl, rfl, rfl, Nat.le_of_ble_eq_true rfl⟩ (hcL _ hM) ?_
    refine zr_icmp (t := 121) rfl rfl (fun _ => ?_) (fun h => by simp [zcI] at h)
    exact zr_ret rfl rfl rfl
  | cons c cs ih =>
    intro i k s hile hd hi hg hk n0 hn0
    rw [List.length_cons] at hn0
    obtain ⟨t, fL, fD, fF, fN, fM⟩ := s
    obtain ⟨hN, hN2⟩ := hi
    have hN : fN t = nI k := hN
    have hN2 : ∀ j, t < j → fN j = 0 := hN2
    have hlt : i < cs0.length := by
      by_cases z : i < cs0.length
      · exact z
      · rw [List.drop_eq_nil_of_le (by omega)] at hd
        cases hd
    have hc : cs0.getD i 0 = c := by
      rw [List.drop_eq_getElem_cons hlt] at hd
      rw [List.getD_eq_getElem?_getD, List.getElem?_eq_getElem hlt]
      exact (List.cons.inj hd).1
    have hd2 : cs0.drop (i + 1) = cs := by
      rw [List.drop_eq_getElem_cons hlt] at hd
      exact (List.cons.inj hd).2
    have e2 : nI i + Int32.ofInt 1 = nI (i + 1) := nI_1 i
    have hg' : zgood (c :: cs) t k = true := hg
    unfold zgood at hg'
    by_cases h32 : c = 32
    · rw [if_pos h32, Bool.and_eq_true] at hg'
      have ht : t < 172 := Nat.le_of_ble_eq_true hg'.1
      obtain ⟨n, rfl⟩ : ∃ n', n0 = n' + 42 := ⟨n0 - 42, by omega⟩
      have hn := ih (i + 1) 0 (t + 1, upd fL t (vp_nar .byte (Int32.ofInt 1)), upd fD t (Int32.ofInt (-1)), upd fF t (zwFlag t), fN, fM) (by omega) hd2 ⟨hN2 (t + 1) (by omega), fun j hj => hN2 j (by have : t + 1 < j := hj; omega)⟩ hg'.2 (by omega) n (by omega)
      have ez : zal (t, fL, fD, fF, fN, fM) (c :: cs) = zal (t + 1, upd fL t (vp_nar .byte (Int32.ofInt 1)), upd fD t (Int32.ofInt (-1)), upd fF t (zwFlag t), fN, fM) cs := by
        show zal (zal1 _ c) cs = _
        unfold zal1
        dsimp only
        rw [if_pos h32]
      rw [ez]
      refine zr_s0 rfl rfl rfl rfl ?_
      refine zr_s0 rfl rfl rfl rfl ?_
      refine zr_callT rfl rfl rfl rfl hq ⟨Or.inl rfl, rfl, rfl, rfl, rfl, rfl, Nat.le_of_ble_eq_true rfl⟩ (hcL _ hM) ?_
      refine zr_icmp (t := 121) rfl rfl (fun h => absurd (by simpa [zcI] using h) (nI_ge hlt hlen)) (fun _ => ?_)
      refine zr_s0 rfl rfl rfl rfl ?_
      refine zr_s0 rfl rfl rfl rfl ?_
      refine zr_callT rfl rfl rfl rfl hq ⟨Or.inl rfl, rfl, rfl, rfl, rfl, rfl, Nat.le_of_ble_eq_true rfl⟩ (hcC _ _ hM hlt) ?_
      rw [hc]
      refine zr_s0 rfl rfl rfl rfl ?_
      refine zr_icmp (t := 73) rfl rfl (fun h => absurd h32 (by simpa [zcI] using h)) (fun _ => ?_)
      -- lists
      refine zr_s0 rfl rfl rfl rfl ?_
      refine zr_get rfl rfl (zw_o ho hb) rfl ?_
      refine zr_s0 rfl rfl rfl rfl ?_
      refine zr_get rfl rfl (zw_o ho hb) rfl ?_
      refine zr_s0 rfl rfl rfl rfl ?_
      refine zr_bast rfl (zw_L ho hb) (vp_in_nI (show t < 360 by omega) (by omega)) ?_
      rw [zws_L ho, nI_clamp (by omega)]
      -- does
      refine zr_s0 rfl rfl rfl rfl ?_
      refine zr_get rfl rfl (zw_o ho hb) rfl ?_
      refine zr_s0 rfl rfl rfl rfl ?_
      refine zr_get rfl rfl (zw_o ho hb) rfl ?_
      refine zr_s0 rfl rfl rfl rfl ?_
      refine zr_iast rfl (zw_D ho hb) (vp_in_nI (show t < 360 by omega) (by omega)) ?_
      rw [zws_D ho, nI_clamp (by omega)]
      -- flags
      refine zr_s0 rfl rfl rfl rfl ?_
      refine zr_get rfl rfl (zw_o ho hb) rfl ?_
      refine zr_s0 rfl rfl rfl rfl ?_
      refine zr_get rfl rfl (zw_o ho hb) rfl ?_
      refine zr_s1 rfl rfl rfl rfl rfl ?_
      refine zr_s0 rfl rfl rfl rfl ?_
      refine zr_get rfl rfl (zw_o ho hb) rfl ?_
      refine zr_stb rfl rfl (show t < zTRAITS.length by rw [show zTRAITS.length = 172 from by decide +kernel]; exact ht) (by omega) ?_
      refine zr_s0 rfl rfl rfl rfl ?_
      refine zr_s0 rfl rfl rfl rfl ?_
      refine zr_s0 (pc' := 59) (ls' := [(0, .ref o), (1, .ref q), (2, .int (nI i))]) (st' := [.int ((zTRAITS.getD t 0 &&& Int32.ofInt 1).toInt8.toInt32), .int (nI t), .ref (b + 1)]) rfl rfl rfl rfl ?_
      refine zr_bast rfl (zw_F ho hb) (vp_in_nI (show t < 360 by omega) (by omega)) ?_
      rw [zws_F ho, nI_clamp (by omega)]
      -- total
      refine zr_s0 rfl rfl rfl rfl ?_
      refine zr_s0 rfl rfl rfl rfl ?_
      refine zr_get rfl rfl (zw_o ho hb) rfl ?_
      refine zr_s0 rfl rfl rfl rfl ?_
      refine zr_s0 rfl rfl rfl rfl ?_
      refine zr_put rfl rfl (zw_o ho hb) rfl ⟨Nat.le_of_ble_eq_true rfl, Nat.le_of_ble_eq_true rfl, zfit_int _, Or.inl rfl⟩ ?_
      rw [zwF_S, zws_o ho]
      refine zr_s0 rfl rfl rfl rfl ?_
      refine zr_s0 rfl rfl rfl rfl ?_
      rw [e2]
      refine zr_s0 rfl rfl rfl rfl ?_
      exact hn
    · rw [if_neg h32, Bool.and_eq_true, Bool.and_eq_true] at hg'
      have ht : t < 172 := Nat.le_of_ble_eq_true hg'.1.1
      have hk2 : k < 23 := Nat.le_of_ble_eq_true hg'.1.2
      have hv : vp_nar .byte ((fN t + Int32.ofInt 1).toInt8.toInt32) = nI (k + 1) := by
        rw [hN]
        exact zw_len k hk2
      have hkc : (fN t).toNatClampNeg = k := by
        rw [hN]
        exact nI_clamp (by omega)
      obtain ⟨n, rfl⟩ : ∃ n', n0 = n' + 38 := ⟨n0 - 38, by omega⟩
      have hn := ih (i + 1) (k + 1) (t, fL, fD, fF, upd fN t (vp_nar .byte ((fN t + Int32.ofInt 1).toInt8.toInt32)), upd fM (24 * t + (fN t).toNatClampNeg) (vp_nar .byte c.toInt8.toInt32)) (by omega) hd2 ⟨by
        show upd fN t _ t = nI (k + 1)
        unfold upd
        rw [if_pos rfl, hv], fun j hj => by
        have hj : t < j := hj
        show upd fN t _ j = 0
        unfold upd
        rw [if_neg (by omega)]
        exact hN2 j hj⟩ hg'.2 (by omega) n (by omega)
      have ez : zal (t, fL, fD, fF, fN, fM) (c :: cs) = zal (t, fL, fD, fF, upd fN t (vp_nar .byte ((fN t + Int32.ofInt 1).toInt8.toInt32)), upd fM (24 * t + (fN t).toNatClampNeg) (vp_nar .byte c.toInt8.toInt32)) cs := by
        show zal (zal1 _ c) cs = _
        unfold zal1
        dsimp only
        rw [if_neg h32]
      rw [ez]
      have hidx : nI t * (Int8.ofInt 24).toInt32 + nI k = nI (24 * t + k) := by
        have e24 : (Int8.ofInt 24).toInt32 = nI 24 := by decide
        rw [e24, nI_mul, nI_add, Nat.mul_comm]
      refine zr_s0 rfl rfl rfl rfl ?_
      refine zr_s0 rfl rfl rfl rfl ?_
      refine zr_callT rfl rfl rfl rfl hq ⟨Or.inl rfl, rfl, rfl, rfl, rfl, rfl, Nat.le_of_ble_eq_true rfl⟩ (hcL _ hM) ?_
      refine zr_icmp (t := 121) rfl rfl (fun h => absurd (by simpa [zcI] using h) (nI_ge hlt hlen)) (fun _ => ?_)
      refine zr_s0 rfl rfl rfl rfl ?_
      refine zr_s0 rfl rfl rfl rfl ?_
      refine zr_callT rfl rfl rfl rfl hq ⟨Or.inl rfl, rfl, rfl, rfl, rfl, rfl, Nat.le_of_ble_eq_true rfl⟩ (hcC _ _ hM hlt) ?_
      rw [hc]
      refine zr_s0 rfl rfl rfl rfl ?_
      refine zr_icmp (t := 73) rfl rfl (fun _ => ?_) (fun h => absurd (by simpa [zcI] using h) h32)
      refine zr_s0 rfl rfl rfl rfl ?_
      refine zr_get rfl rfl (zw_o ho hb) rfl ?_
      refine zr_s0 rfl rfl rfl rfl ?_
      refine zr_get rfl rfl (zw_o ho hb) rfl ?_
      refine zr_s0 rfl rfl rfl rfl ?_
      refine zr_s0 rfl rfl rfl rfl ?_
      refine zr_s0 rfl rfl rfl rfl ?_
      refine zr_get rfl rfl (zw_o ho hb) rfl ?_
      refine zr_s0 rfl rfl rfl rfl ?_
      refine zr_get rfl rfl (zw_o ho hb) rfl ?_
      refine zr_bald rfl (by omega) (zw_N ho hb) (vp_in_nI (show t < 360 by omega) (by omega)) ?_
      rw [nI_clamp (show t < 2 ^ 31 by omega)]
      refine zr_s0 (pc' := 94) (ls' := [(0, .ref o), (1, .ref q), (2, .int (nI i))]) (st' := [.int (nI (24 * t + k)), .ref (b + 7)]) rfl rfl rfl (by
        rw [← hidx, ← hN]
        rfl) ?_
      refine zr_s0 rfl rfl rfl rfl ?_
      refine zr_s0 rfl rfl rfl rfl ?_
      refine zr_callT rfl rfl rfl rfl hq ⟨Or.inl rfl, rfl, rfl, rfl, rfl, rfl, Nat.le_of_ble_eq_true rfl⟩ (hcC _ _ hM hlt) ?_
      rw [hc]
      refine zr_s0 (pc' := 100) (ls' := [(0, .ref o), (1, .ref q), (2, .int (nI i))]) (st' := [.int c.toInt8.toInt32, .int (nI (24 * t + k)), .ref (b + 7)]) rfl rfl rfl rfl ?_
      refine zr_bast rfl (zw_M ho hb) (vp_in_nI (show 24 * t + k < 8640 by omega) (by omega)) ?_
      rw [zws_M ho, nI_clamp (by omega)]
      refine zr_s0 rfl rfl rfl rfl ?_
      refine zr_get rfl rfl (zw_o ho hb) rfl ?_
      refine zr_s0 rfl rfl rfl rfl ?_
      refine zr_get rfl rfl (zw_o ho hb) rfl ?_
      refine zr_s0 rfl rfl rfl rfl ?_
      refine zr_bald rfl (by omega) (zw_N ho hb) (vp_in_nI (show t < 360 by omega) (by omega)) ?_
      rw [nI_clamp (show t < 2 ^ 31 by omega)]
      refine zr_s0 rfl rfl rfl rfl ?_
      refine zr_s0 rfl rfl rfl rfl ?_
      refine zr_s0 (pc' := 114) (ls' := [(0, .ref o), (1, .ref q), (2, .int (nI i))]) (st' := [.int ((fN t + Int32.ofInt 1).toInt8.toInt32), .int (nI t), .ref (b + 6)]) rfl rfl rfl rfl ?_
      refine zr_bast rfl (zw_N ho hb) (vp_in_nI (show t < 360 by omega) (by omega)) ?_
      rw [zws_N ho, nI_clamp (show t < 2 ^ 31 by omega)]
      refine zr_s0 rfl rfl rfl rfl ?_
      rw [e2]
      refine zr_s0 rfl rfl rfl rfl ?_
      rw [hkc] at hn ⊢
      exact hn
end
section
theorem zob_push_lt {M : zM} {a : Nat} {e x : zE} (h : zob M a = some e) : zob (zpush M x) a = some e := by
  have h1 := zob_lt h
  unfold zob at h ⊢
  rw [if_pos h1] at h
  show (if a < M.1 + 1 then some (va_up M.2.2 M.1 x a) else none) = _
  rw [if_pos (by omega)]
  unfold va_up
  rw [if_neg (by omega)]
  exact h
theorem zob_push {M : zM} {x : zE} : zob (zpush M x) M.1 = some x := by
  unfold zob
  show (if M.1 < M.1 + 1 then some (va_up M.2.2 M.1 x M.1) else none) = _
  rw [if_pos (by omega)]
  unfold va_up
  rw [if_pos rfl]
theorem zr_newa {X : zX} {mt : Nat → Option zMe} {call : zCall} {r : zMe} {n pc k N : Nat} {ls : zL} {M : zM} {rest : List Value} {t : ArrayType} {m : Int32} {res : Option (Option Value × zM)} (htb : r.2.2.2.2.2.2.2 pc = some (.newarray t, 2)) (hk : zatype t = some k) (hm : ¬ m < 0) (hN : m.toNatClampNeg = N) (hM : M.1 < 1000000) (hby : N * componentBytes (zty k) ≤ 536870912) (h : zrun X mt call r n (pc + 2) ls (.ref M.1 :: rest) (zpush M (.inl (k, N, .inl (fun _ => 0)))) = res) : zrun X mt call r (n + 1) pc ls (.int m :: rest) M = res := by
  subst hN
  refine zr_s1 htb rfl rfl rfl ?_ h
  simp only [zs1, hk]
  rw [if_neg]
  intro z
  rcases z with z | z | z
  · exact hm z
  · exact z hM
  · exact z hby
theorem zr_objinit {X : zX} {mt : Nat → Option zMe} {call : zCall} {r : zMe} {n pc x a b p q : Nat} {ls : zL} {M : zM} {rest : List Value} {res : Option (Option Value × zM)} (htb : r.2.2.2.2.2.2.2 pc = some (.invokespecial x, 3)) (hlk : zlk r.2.2.2.2.2.1 x = some (9, a, b, p)) (hs : (rest.map fun v => v.category).sum ≤ 8) (h : zrun X mt call r n (pc + 3) ls rest M = res) : zrun X mt call r (n + 1) pc ls (.ref q :: rest) M = res := by
  refine zr_s1 htb rfl rfl rfl ?_ h
  simp only [zs1, hlk]
  rw [if_pos hs]
theorem zfit_null {ty : FieldType} (h : (∃ n, ty = .object n) ∨ ∃ t, ty = .array t) (a : Nat) : zfit ty (.ref a) = true := by
  rcases h with ⟨n, rfl⟩ | ⟨t, rfl⟩ <;> simp [zfit, narrow, fits]
def zwst (M : zM) (o j t n : Nat) (fs : List Value) : zM := zset (zpush M (.inl (t, n, .inl (fun _ => 0)))) o (.inr (10, fs.set j (.ref M.1)))
def zwf (b : Nat) : Nat → List Value
  | 0 => zdef 10 14
  | i + 1 => (zwf b i).set i (.ref (b + i))
def zwB0 (M : zM) (_ : Nat) : zM := M
def zwB1 (M : zM) (o : Nat) : zM := zwst (zwB0 M o) o 0 1 360 (zwf M.1 0)
def zwB2 (M : zM) (o : Nat) : zM := zwst (zwB1 M o) o 1 1 360 (zwf M.1 1)
def zwB3 (M : zM) (o : Nat) : zM := zwst (zwB2 M o) o 2 1 360 (zwf M.1 2)
def zwB4 (M : zM) (o : Nat) : zM := zwst (zwB3 M o) o 3 0 360 (zwf M.1 3)
def zwB5 (M : zM) (o : Nat) : zM := zwst (zwB4 M o) o 4 0 360 (zwf M.1 4)
def zwB6 (M : zM) (o : Nat) : zM := zwst (zwB5 M o) o 5 0 360 (zwf M.1 5)
def zwB7 (M : zM) (o : Nat) : zM := zwst (zwB6 M o) o 6 1 360 (zwf M.1 6)
def zwB8 (M : zM) (o : Nat) : zM := zwst (zwB7 M o) o 7 1 8640 (zwf M.1 7)
def zwB9 (M : zM) (o : Nat) : zM := zwst (zwB8 M o) o 8 1 360 (zwf M.1 8)
def zwB10 (M : zM) (o : Nat) : zM := zwst (zwB9 M o) o 9 0 360 (zwf M.1 9)
def zwB11 (M : zM) (o : Nat) : zM := zwst (zwB10 M o) o 10 0 360 (zwf M.1 10)
def zwB12 (M : zM) (o : Nat) : zM := zwst (zwB11 M o) o 11 0 360 (zwf M.1 11)
theorem zwB_0 {M : zM} {o : Nat} (h : zob M o = some (.inr (10, zdef 10 14))) : (zwB0 M o).1 = M.1 + 0 ∧ zob (zwB0 M o) o = some (.inr (10, zwf M.1 0)) := ⟨rfl, h⟩
theorem zwB_1 {M : zM} {o : Nat} (h : zob M o = some (.inr (10, zdef 10 14))) : (zwB1 M o).1 = M.1 + 1 ∧ zob (zwB1 M o) o = some (.inr (10, zwf M.1 1)) := ⟨by show (zwB0 M o).1 + 1 = _; rw [(zwB_0 h).1], by
  have h1 := zwB_0 h
  show zob (zset (zpush (zwB0 M o) _) o (.inr (10, (zwf M.1 0).set 0 (.ref (zwB0 M o).1)))) o = _
  rw [h1.1]
  exact zob_set (zob_push_lt h1.2)⟩
theorem zwB_2 {M : zM} {o : Nat} (h : zob M o = some (.inr (10, zdef 10 14))) : (zwB2 M o).1 = M.1 + 2 ∧ zob (zwB2 M o) o = some (.inr (10, zwf M.1 2)) := ⟨by show (zwB1 M o).1 + 1 = _; rw [(zwB_1 h).1], by
  have h1 := zwB_1 h
  show zob (zset (zpush (zwB1 M o) _) o (.inr (10, (zwf M.1 1).set 1 (.ref (zwB1 M o).1)))) o = _
  rw [h1.1]
  exact zob_set (zob_push_lt h1.2)⟩
theorem zwB_3 {M : zM} {o : Nat} (h : zob M o = some (.inr (10, zdef 10 14))) : (zwB3 M o).1 = M.1 + 3 ∧ zob (zwB3 M o) o = some (.inr (10, zwf M.1 3)) := ⟨by show (zwB2 M o).1 + 1 = _; rw [(zwB_2 h).1], by
  have h1 := zwB_2 h
  show zob (zset (zpush (zwB2 M o) _) o (.inr (10, (zwf M.1 2).set 2 (.ref (zwB2 M o).1)))) o = _
  rw [h1.1]
  exact zob_set (zob_push_lt h1.2)⟩
theorem zwB_4 {M : zM} {o : Nat} (h : zob M o = some (.inr (10, zdef 10 14))) : (zwB4 M o).1 = M.1 + 4 ∧ zob (zwB4 M o) o = some (.inr (10, zwf M.1 4)) := ⟨by show (zwB3 M o).1 + 1 = _; rw [(zwB_3 h).1], by
  have h1 := zwB_3 h
  show zob (zset (zpush (zwB3 M o) _) o (.inr (10, (zwf M.1 3).set 3 (.ref (zwB3 M o).1)))) o = _
  rw [h1.1]
  exact zob_set (zob_push_lt h1.2)⟩
theorem zwB_5 {M : zM} {o : Nat} (h : zob M o = some (.inr (10, zdef 10 14))) : (zwB5 M o).1 = M.1 + 5 ∧ zob (zwB5 M o) o = some (.inr (10, zwf M.1 5)) := ⟨by show (zwB4 M o).1 + 1 = _; rw [(zwB_4 h).1], by
  have h1 := zwB_4 h
  show zob (zset (zpush (zwB4 M o) _) o (.inr (10, (zwf M.1 4).set 4 (.ref (zwB4 M o).1)))) o = _
  rw [h1.1]
  exact zob_set (zob_push_lt h1.2)⟩
theorem zwB_6 {M : zM} {o : Nat} (h : zob M o = some (.inr (10, zdef 10 14))) : (zwB6 M o).1 = M.1 + 6 ∧ zob (zwB6 M o) o = some (.inr (10, zwf M.1 6)) := ⟨by show (zwB5 M o).1 + 1 = _; rw [(zwB_5 h).1], by
  have h1 := zwB_5 h
  show zob (zset (zpush (zwB5 M o) _) o (.inr (10, (zwf M.1 5).set 5 (.ref (zwB5 M o).1)))) o = _
  rw [h1.1]
  exact zob_set (zob_push_lt h1.2)⟩
theorem zwB_7 {M : zM} {o : Nat} (h : zob M o = some (.inr (10, zdef 10 14))) : (zwB7 M o).1 = M.1 + 7 ∧ zob (zwB7 M o) o = some (.inr (10, zwf M.1 7)) := ⟨by show (zwB6 M o).1 + 1 = _; rw [(zwB_6 h).1], by
  have h1 := zwB_6 h
  show zob (zset (zpush (zwB6 M o) _) o (.inr (10, (zwf M.1 6).set 6 (.ref (zwB6 M o).1)))) o = _
  rw [h1.1]
  exact zob_set (zob_push_lt h1.2)⟩
theorem zwB_8 {M : zM} {o : Nat} (h : zob M o = some (.inr (10, zdef 10 14))) : (zwB8 M o).1 = M.1 + 8 ∧ zob (zwB8 M o) o = some (.inr (10, zwf M.1 8)) := ⟨by show (zwB7 M o).1 + 1 = _; rw [(zwB_7 h).1], by
  have h1 := zwB_7 h
  show zob (zset (zpush (zwB7 M o) _) o (.inr (10, (zwf M.1 7).set 7 (.ref (zwB7 M o).1)))) o = _
  rw [h1.1]
  exact zob_set (zob_push_lt h1.2)⟩
theorem zwB_9 {M : zM} {o : Nat} (h : zob M o = some (.inr (10, zdef 10 14))) : (zwB9 M o).1 = M.1 + 9 ∧ zob (zwB9 M o) o = some (.inr (10, zwf M.1 9)) := ⟨by show (zwB8 M o).1 + 1 = _; rw [(zwB_8 h).1], by
  have h1 := zwB_8 h
  show zob (zset (zpush (zwB8 M o) _) o (.inr (10, (zwf M.1 8).set 8 (.ref (zwB8 M o).1)))) o = _
  rw [h1.1]
  exact zob_set (zob_push_lt h1.2)⟩
theorem zwB_10 {M : zM} {o : Nat} (h : zob M o = some (.inr (10, zdef 10 14))) : (zwB10 M o).1 = M.1 + 10 ∧ zob (zwB10 M o) o = some (.inr (10, zwf M.1 10)) := ⟨by show (zwB9 M o).1 + 1 = _; rw [(zwB_9 h).1], by
  have h1 := zwB_9 h
  show zob (zset (zpush (zwB9 M o) _) o (.inr (10, (zwf M.1 9).set 9 (.ref (zwB9 M o).1)))) o = _
  rw [h1.1]
  exact zob_set (zob_push_lt h1.2)⟩
theorem zwB_11 {M : zM} {o : Nat} (h : zob M o = some (.inr (10, zdef 10 14))) : (zwB11 M o).1 = M.1 + 11 ∧ zob (zwB11 M o) o = some (.inr (10, zwf M.1 11)) := ⟨by show (zwB10 M o).1 + 1 = _; rw [(zwB_10 h).1], by
  have h1 := zwB_10 h
  show zob (zset (zpush (zwB10 M o) _) o (.inr (10, (zwf M.1 10).set 10 (.ref (zwB10 M o).1)))) o = _
  rw [h1.1]
  exact zob_set (zob_push_lt h1.2)⟩
theorem zwB_12 {M : zM} {o : Nat} (h : zob M o = some (.inr (10, zdef 10 14))) : (zwB12 M o).1 = M.1 + 12 ∧ zob (zwB12 M o) o = some (.inr (10, zwf M.1 12)) := ⟨by show (zwB11 M o).1 + 1 = _; rw [(zwB_11 h).1], by
  have h1 := zwB_11 h
  show zob (zset (zpush (zwB11 M o) _) o (.inr (10, (zwf M.1 11).set 11 (.ref (zwB11 M o).1)))) o = _
  rw [h1.1]
  exact zob_set (zob_push_lt h1.2)⟩
theorem zwB_a1_2 {M : zM} {o : Nat} (h : zob M o = some (.inr (10, zdef 10 14))) : zob (zwB2 M o) (M.1 + 1) = some (.inl (1, 360, .inl (fun _ => 0))) := by
  have ho := zob_lt h
  have h1 := zwB_1 h
  show zob (zset (zpush (zwB1 M o) _) o _) _ = _
  rw [zob_set_ne (by omega)]
  rw [← h1.1]
  exact zob_push
theorem zwB_a1_3 {M : zM} {o : Nat} (h : zob M o = some (.inr (10, zdef 10 14))) : zob (zwB3 M o) (M.1 + 1) = some (.inl (1, 360, .inl (fun _ => 0))) := by
  have ho := zob_lt h
  have h1 := zwB_2 h
  show zob (zset (zpush (zwB2 M o) _) o _) _ = _
  rw [zob_set_ne (by omega)]
  exact zob_push_lt (zwB_a1_2 h)
theorem zwB_a1_4 {M : zM} {o : Nat} (h : zob M o = some (.inr (10, zdef 10 14))) : zob (zwB4 M o) (M.1 + 1) = some (.inl (1, 360, .inl (fun _ => 0))) := by
  have ho := zob_lt h
  have h1 := zwB_3 h
  show zob (zset (zpush (zwB3 M o) _) o _) _ = _
  rw [zob_set_ne (by omega)]
  exact zob_push_lt (zwB_a1_3 h)
theorem zwB_a1_5 {M : zM} {o : Nat} (h : zob M o = some (.inr (10, zdef 10 14))) : zob (zwB5 M o) (M.1 + 1) = some (.inl (1, 360, .inl (fun _ => 0))) := by
  have ho := zob_lt h
  have h1 := zwB_4 h
  show zob (zset (zpush (zwB4 M o) _) o _) _ = _
  rw [zob_set_ne (by omega)]
  exact zob_push_lt (zwB_a1_4 h)
theorem zwB_a1_6 {M : zM} {o : Nat} (h : zob M o = some (.inr (10, zdef 10 14))) : zob (zwB6 M o) (M.1 + 1) = some (.inl (1, 360, .inl (fun _ => 0))) := by
  have ho := zob_lt h
  have h1 := zwB_5 h
  show zob (zset (zpush (zwB5 M o) _) o _) _ = _
  rw [zob_set_ne (by omega)]
  exact zob_push_lt (zwB_a1_5 h)
theorem zwB_a1_7 {M : zM} {o : Nat} (h : zob M o = some (.inr (10, zdef 10 14))) : zob (zwB7 M o) (M.1 + 1) = some (.inl (1, 360, .inl (fun _ => 0))) := by
  have ho := zob_lt h
  have h1 := zwB_6 h
  show zob (zset (zpush (zwB6 M o) _) o _) _ = _
  rw [zob_set_ne (by omega)]
  exact zob_push_lt (zwB_a1_6 h)
theorem zwB_a1_8 {M : zM} {o : Nat} (h : zob M o = some (.inr (10, zdef 10 14))) : zob (zwB8 M o) (M.1 + 1) = some (.inl (1, 360, .inl (fun _ => 0))) := by
  have ho := zob_lt h
  have h1 := zwB_7 h
  show zob (zset (zpush (zwB7 M o) _) o _) _ = _
  rw [zob_set_ne (by omega)]
  exact zob_push_lt (zwB_a1_7 h)
theorem zwB_a1_9 {M : zM} {o : Nat} (h : zob M o = some (.inr (10, zdef 10 14))) : zob (zwB9 M o) (M.1 + 1) = some (.inl (1, 360, .inl (fun _ => 0))) := by
  have ho := zob_lt h
  have h1 := zwB_8 h
  show zob (zset (zpush (zwB8 M o) _) o _) _ = _
  rw [zob_set_ne (by omega)]
  exact zob_push_lt (zwB_a1_8 h)
theorem zwB_a1_10 {M : zM} {o : Nat} (h : zob M o = some (.inr (10, zdef 10 14))) : zob (zwB10 M o) (M.1 + 1) = some (.inl (1, 360, .inl (fun _ => 0))) := by
  have ho := zob_lt h
  have h1 := zwB_9 h
  show zob (zset (zpush (zwB9 M o) _) o _) _ = _
  rw [zob_set_ne (by omega)]
  exact zob_push_lt (zwB_a1_9 h)
theorem zwB_a1_11 {M : zM} {o : Nat} (h : zob M o = some (.inr (10, zdef 10 14))) : zob (zwB11 M o) (M.1 + 1) = some (.inl (1, 360, .inl (fun _ => 0))) := by
  have ho := zob_lt h
  have h1 := zwB_10 h
  show zob (zset (zpush (zwB10 M o) _) o _) _ = _
  rw [zob_set_ne (by omega)]
  exact zob_push_lt (zwB_a1_10 h)
theorem zwB_a1_12 {M : zM} {o : Nat} (h : zob M o = some (.inr (10, zdef 10 14))) : zob (zwB12 M o) (M.1 + 1) = some (.inl (1, 360, .inl (fun _ => 0))) := by
  have ho := zob_lt h
  have h1 := zwB_11 h
  show zob (zset (zpush (zwB11 M o) _) o _) _ = _
  rw [zob_set_ne (by omega)]
  exact zob_push_lt (zwB_a1_11 h)
theorem zwB_a2_3 {M : zM} {o : Nat} (h : zob M o = some (.inr (10, zdef 10 14))) : zob (zwB3 M o) (M.1 + 2) = some (.inl (1, 360, .inl (fun _ => 0))) := by
  have ho := zob_lt h
  have h1 := zwB_2 h
  show zob (zset (zpush (zwB2 M o) _) o _) _ = _
  rw [zob_set_ne (by omega)]
  rw [← h1.1]
  exact zob_push
theorem zwB_a2_4 {M : zM} {o : Nat} (h : zob M o = some (.inr (10, zdef 10 14))) : zob (zwB4 M o) (M.1 + 2) = some (.inl (1, 360, .inl (fun _ => 0))) := by
  have ho := zob_lt h
  have h1 := zwB_3 h
  show zob (zset (zpush (zwB3 M o) _) o _) _ = _
  rw [zob_set_ne (by omega)]
  exact zob_push_lt (zwB_a2_3 h)
theorem zwB_a2_5 {M : zM} {o : Nat} (h : zob M o = some (.inr (10, zdef 10 14))) : zob (zwB5 M o) (M.1 + 2) = some (.inl (1, 360, .inl (fun _ => 0))) := by
  have ho := zob_lt h
  have h1 := zwB_4 h
  show zob (zset (zpush (zwB4 M o) _) o _) _ = _
  rw [zob_set_ne (by omega)]
  exact zob_push_lt (zwB_a2_4 h)
theorem zwB_a2_6 {M : zM} {o : Nat} (h : zob M o = some (.inr (10, zdef 10 14))) : zob (zwB6 M o) (M.1 + 2) = some (.inl (1, 360, .inl (fun _ => 0))) := by
  have ho := zob_lt h
  have h1 := zwB_5 h
  show zob (zset (zpush (zwB5 M o) _) o _) _ = _
  rw [zob_set_ne (by omega)]
  exact zob_push_lt (zwB_a2_5 h)
theorem zwB_a2_7 {M : zM} {o : Nat} (h : zob M o = some (.inr (10, zdef 10 14))) : zob (zwB7 M o) (M.1 + 2) = some (.inl (1, 360, .inl (fun _ => 0))) := by
  have ho := zob_lt h
  have h1 := zwB_6 h
  show zob (zset (zpush (zwB6 M o) _) o _) _ = _
  rw [zob_set_ne (by omega)]
  exact zob_push_lt (zwB_a2_6 h)
theorem zwB_a2_8 {M : zM} {o : Nat} (h : zob M o = some (.inr (10, zdef 10 14))) : zob (zwB8 M o) (M.1 + 2) = some (.inl (1, 360, .inl (fun _ => 0))) := by
  have ho := zob_lt h
  have h1 := zwB_7 h
  show zob (zset (zpush (zwB7 M o) _) o _) _ = _
  rw [zob_set_ne (by omega)]
  exact zob_push_lt (zwB_a2_7 h)
theorem zwB_a2_9 {M : zM} {o : Nat} (h : zob M o = some (.inr (10, zdef 10 14))) : zob (zwB9 M o) (M.1 + 2) = some (.inl (1, 360, .inl (fun _ => 0))) := by
  have ho := zob_lt h
  have h1 := zwB_8 h
  show zob (zset (zpush (zwB8 M o) _) o _) _ = _
  rw [zob_set_ne (by omega)]
  exact zob_push_lt (zwB_a2_8 h)
theorem zwB_a2_10 {M : zM} {o : Nat} (h : zob M o = some (.inr (10, zdef 10 14))) : zob (zwB10 M o) (M.1 + 2) = some (.inl (1, 360, .inl (fun _ => 0))) := by
  have ho := zob_lt h
  have h1 := zwB_9 h
  show zob (zset (zpush (zwB9 M o) _) o _) _ = _
  rw [zob_set_ne (by omega)]
  exact zob_push_lt (zwB_a2_9 h)
theorem zwB_a2_11 {M : zM} {o : Nat} (h : zob M o = some (.inr (10, zdef 10 14))) : zob (zwB11 M o) (M.1 + 2) = some (.inl (1, 360, .inl (fun _ => 0))) := by
  have ho := zob_lt h
  have h1 := zwB_10 h
  show zob (zset (zpush (zwB10 M o) _) o _) _ = _
  rw [zob_set_ne (by omega)]
  exact zob_push_lt (zwB_a2_10 h)
theorem zwB_a2_12 {M : zM} {o : Nat} (h : zob M o = some (.inr (10, zdef 10 14))) : zob (zwB12 M o) (M.1 + 2) = some (.inl (1, 360, .inl (fun _ => 0))) := by
  have ho := zob_lt h
  have h1 := zwB_11 h
  show zob (zset (zpush (zwB11 M o) _) o _) _ = _
  rw [zob_set_ne (by omega)]
  exact zob_push_lt (zwB_a2_11 h)
theorem zwB_a5_6 {M : zM} {o : Nat} (h : zob M o = some (.inr (10, zdef 10 14))) : zob (zwB6 M o) (M.1 + 5) = some (.inl (0, 360, .inl (fun _ => 0))) := by
  have ho := zob_lt h
  have h1 := zwB_5 h
  show zob (zset (zpush (zwB5 M o) _) o _) _ = _
  rw [zob_set_ne (by omega)]
  rw [← h1.1]
  exact zob_push
theorem zwB_a5_7 {M : zM} {o : Nat} (h : zob M o = some (.inr (10, zdef 10 14))) : zob (zwB7 M o) (M.1 + 5) = some (.inl (0, 360, .inl (fun _ => 0))) := by
  have ho := zob_lt h
  have h1 := zwB_6 h
  show zob (zset (zpush (zwB6 M o) _) o _) _ = _
  rw [zob_set_ne (by omega)]
  exact zob_push_lt (zwB_a5_6 h)
theorem zwB_a5_8 {M : zM} {o : Nat} (h : zob M o = some (.inr (10, zdef 10 14))) : zob (zwB8 M o) (M.1 + 5) = some (.inl (0, 360, .inl (fun _ => 0))) := by
  have ho := zob_lt h
  have h1 := zwB_7 h
  show zob (zset (zpush (zwB7 M o) _) o _) _ = _
  rw [zob_set_ne (by omega)]
  exact zob_push_lt (zwB_a5_7 h)
theorem zwB_a5_9 {M : zM} {o : Nat} (h : zob M o = some (.inr (10, zdef 10 14))) : zob (zwB9 M o) (M.1 + 5) = some (.inl (0, 360, .inl (fun _ => 0))) := by
  have ho := zob_lt h
  have h1 := zwB_8 h
  show zob (zset (zpush (zwB8 M o) _) o _) _ = _
  rw [zob_set_ne (by omega)]
  exact zob_push_lt (zwB_a5_8 h)
theorem zwB_a5_10 {M : zM} {o : Nat} (h : zob M o = some (.inr (10, zdef 10 14))) : zob (zwB10 M o) (M.1 + 5) = some (.inl (0, 360, .inl (fun _ => 0))) := by
  have ho := zob_lt h
  have h1 := zwB_9 h
  show zob (zset (zpush (zwB9 M o) _) o _) _ = _
  rw [zob_set_ne (by omega)]
  exact zob_push_lt (zwB_a5_9 h)
theorem zwB_a5_11 {M : zM} {o : Nat} (h : zob M o = some (.inr (10, zdef 10 14))) : zob (zwB11 M o) (M.1 + 5) = some (.inl (0, 360, .inl (fun _ => 0))) := by
  have ho := zob_lt h
  have h1 := zwB_10 h
  show zob (zset (zpush (zwB10 M o) _) o _) _ = _
  rw [zob_set_ne (by omega)]
  exact zob_push_lt (zwB_a5_10 h)
theorem zwB_a5_12 {M : zM} {o : Nat} (h : zob M o = some (.inr (10, zdef 10 14))) : zob (zwB12 M o) (M.1 + 5) = some (.inl (0, 360, .inl (fun _ => 0))) := by
  have ho := zob_lt h
  have h1 := zwB_11 h
  show zob (zset (zpush (zwB11 M o) _) o _) _ = _
  rw [zob_set_ne (by omega)]
  exact zob_push_lt (zwB_a5_11 h)
theorem zwB_a6_7 {M : zM} {o : Nat} (h : zob M o = some (.inr (10, zdef 10 14))) : zob (zwB7 M o) (M.1 + 6) = some (.inl (1, 360, .inl (fun _ => 0))) := by
  have ho := zob_lt h
  have h1 := zwB_6 h
  show zob (zset (zpush (zwB6 M o) _) o _) _ = _
  rw [zob_set_ne (by omega)]
  rw [← h1.1]
  exact zob_push
theorem zwB_a6_8 {M : zM} {o : Nat} (h : zob M o = some (.inr (10, zdef 10 14))) : zob (zwB8 M o) (M.1 + 6) = some (.inl (1, 360, .inl (fun _ => 0))) := by
  have ho := zob_lt h
  have h1 := zwB_7 h
  show zob (zset (zpush (zwB7 M o) _) o _) _ = _
  rw [zob_set_ne (by omega)]
  exact zob_push_lt (zwB_a6_7 h)
theorem zwB_a6_9 {M : zM} {o : Nat} (h : zob M o = some (.inr (10, zdef 10 14))) : zob (zwB9 M o) (M.1 + 6) = some (.inl (1, 360, .inl (fun _ => 0))) := by
  have ho := zob_lt h
  have h1 := zwB_8 h
  show zob (zset (zpush (zwB8 M o) _) o _) _ = _
  rw [zob_set_ne (by omega)]
  exact zob_push_lt (zwB_a6_8 h)
theorem zwB_a6_10 {M : zM} {o : Nat} (h : zob M o = some (.inr (10, zdef 10 14))) : zob (zwB10 M o) (M.1 + 6) = some (.inl (1, 360, .inl (fun _ => 0))) := by
  have ho := zob_lt h
  have h1 := zwB_9 h
  show zob (zset (zpush (zwB9 M o) _) o _) _ = _
  rw [zob_set_ne (by omega)]
  exact zob_push_lt (zwB_a6_9 h)
theorem zwB_a6_11 {M : zM} {o : Nat} (h : zob M o = some (.inr (10, zdef 10 14))) : zob (zwB11 M o) (M.1 + 6) = some (.inl (1, 360, .inl (fun _ => 0))) := by
  have ho := zob_lt h
  have h1 := zwB_10 h
  show zob (zset (zpush (zwB10 M o) _) o _) _ = _
  rw [zob_set_ne (by omega)]
  exact zob_push_lt (zwB_a6_10 h)
theorem zwB_a6_12 {M : zM} {o : Nat} (h : zob M o = some (.inr (10, zdef 10 14))) : zob (zwB12 M o) (M.1 + 6) = some (.inl (1, 360, .inl (fun _ => 0))) := by
  have ho := zob_lt h
  have h1 := zwB_11 h
  show zob (zset (zpush (zwB11 M o) _) o _) _ = _
  rw [zob_set_ne (by omega)]
  exact zob_push_lt (zwB_a6_11 h)
theorem zwB_a7_8 {M : zM} {o : Nat} (h : zob M o = some (.inr (10, zdef 10 14))) : zob (zwB8 M o) (M.1 + 7) = some (.inl (1, 8640, .inl (fun _ => 0))) := by
  have ho := zob_lt h
  have h1 := zwB_7 h
  show zob (zset (zpush (zwB7 M o) _) o _) _ = _
  rw [zob_set_ne (by omega)]
  rw [← h1.1]
  exact zob_push
theorem zwB_a7_9 {M : zM} {o : Nat} (h : zob M o = some (.inr (10, zdef 10 14))) : zob (zwB9 M o) (M.1 + 7) = some (.inl (1, 8640, .inl (fun _ => 0))) := by
  have ho := zob_lt h
  have h1 := zwB_8 h
  show zob (zset (zpush (zwB8 M o) _) o _) _ = _
  rw [zob_set_ne (by omega)]
  exact zob_push_lt (zwB_a7_8 h)
theorem zwB_a7_10 {M : zM} {o : Nat} (h : zob M o = some (.inr (10, zdef 10 14))) : zob (zwB10 M o) (M.1 + 7) = some (.inl (1, 8640, .inl (fun _ => 0))) := by
  have ho := zob_lt h
  have h1 := zwB_9 h
  show zob (zset (zpush (zwB9 M o) _) o _) _ = _
  rw [zob_set_ne (by omega)]
  exact zob_push_lt (zwB_a7_9 h)
theorem zwB_a7_11 {M : zM} {o : Nat} (h : zob M o = some (.inr (10, zdef 10 14))) : zob (zwB11 M o) (M.1 + 7) = some (.inl (1, 8640, .inl (fun _ => 0))) := by
  have ho := zob_lt h
  have h1 := zwB_10 h
  show zob (zset (zpush (zwB10 M o) _) o _) _ = _
  rw [zob_set_ne (by omega)]
  exact zob_push_lt (zwB_a7_10 h)
theorem zwB_a7_12 {M : zM} {o : Nat} (h : zob M o = some (.inr (10, zdef 10 14))) : zob (zwB12 M o) (M.1 + 7) = some (.inl (1, 8640, .inl (fun _ => 0))) := by
  have ho := zob_lt h
  have h1 := zwB_11 h
  show zob (zset (zpush (zwB11 M o) _) o _) _ = _
  rw [zob_set_ne (by omega)]
  exact zob_push_lt (zwB_a7_11 h)
theorem zwM_self {M : zM} {o b : Nat} {s : zwS} (h0 : zob M o = some (.inr (10, zwF b s.1))) (h1 : zob M (b + 2) = some (.inl (1, 360, .inl s.2.1))) (h2 : zob M (b + 5) = some (.inl (0, 360, .inl s.2.2.1))) (h3 : zob M (b + 1) = some (.inl (1, 360, .inl s.2.2.2.1))) (h4 : zob M (b + 6) = some (.inl (1, 360, .inl s.2.2.2.2.1))) (h5 : zob M (b + 7) = some (.inl (1, 8640, .inl s.2.2.2.2.2))) : zwM M o b s = M := by
  have key : ∀ {a : Nat} {e : zE}, zob M a = some e → M.2.2 a = e := by
    intro a e h
    have h1 := zob_lt h
    unfold zob at h
    rw [if_pos h1] at h
    exact Option.some.inj h
  unfold zwM
  have : zwE M o b s = M.2.2 := by
    funext k
    unfold zwE
    split
    · rename_i q; rw [q, key h0]
    · split
      · rename_i q; rw [q, key h1]
      · split
        · rename_i q; rw [q, key h2]
        · split
          · rename_i q; rw [q, key h3]
          · split
            · rename_i q; rw [q, key h4]
            · split
              · rename_i q; rw [q, key h5]
              · rfl
  rw [this]
def zwS0 : zwS := (0, fun _ => 0, fun _ => 0, fun _ => 0, fun _ => 0, fun _ => 0)
def zwAll : Nat → zwS
  | 0 => zwS0
  | i + 1 => zal (zwAll i) (zsb i)
theorem zal_app (s : zwS) : ∀ (l : List Int32), (zal s l).1 = s.1 + (l.filter (fun c => decide (c = 32))).length := by
  intro l
  induction l generalizing s with
  | nil => rfl
  | cons c l ih =>
    show (zal (zal1 s c) l).1 = _
    rw [ih]
    obtain ⟨t, fL, fD, fF, fN, fM⟩ := s
    unfold zal1
    dsimp only
    by_cases h : c = 32
    · rw [if_pos h, List.filter_cons_of_pos (by simpa using h), List.length_cons]
      dsimp only
      omega
    · rw [if_neg h, List.filter_cons_of_neg (by simpa using h)]
/-- how long the word is that a line leaves open -/
def zrest : List Int32 → Nat → Nat
  | [], k => k
  | c :: cs, k => if c = 32 then zrest cs 0 else zrest cs (k + 1)
theorem zal_inv : ∀ (l : List Int32) (s : zwS) (k : Nat), zwInv s k → zgood l s.1 k = true → k < 24 → zwInv (zal s l) (zrest l k) := by
  intro l
  induction l with
  | nil => intro s k h _ _; exact h
  | cons c l ih =>
    intro s k hi hg hk
    obtain ⟨t, fL, fD, fF, fN, fM⟩ := s
    obtain ⟨hN, hN2⟩ := hi
    have hN : fN t = nI k := hN
    have hN2 : ∀ j, t < j → fN j = 0 := hN2
    have hg' : zgood (c :: l) t k = true := hg
    unfold zgood at hg'
    show zwInv (zal (zal1 _ c) l) _
    unfold zal1 zrest
    dsimp only
    by_cases h32 : c = 32
    · rw [if_pos h32, Bool.and_eq_true] at hg'
      rw [if_pos h32, if_pos h32]
      exact ih _ 0 ⟨hN2 (t + 1) (by omega), fun j hj => hN2 j (by have : t + 1 < j := hj; omega)⟩ hg'.2 (by omega)
    · rw [if_neg h32, Bool.and_eq_true, Bool.and_eq_true] at hg'
      rw [if_neg h32, if_neg h32]
      have hk2 : k < 23 := Nat.le_of_ble_eq_true hg'.1.2
      have hv : vp_nar .byte ((fN t + Int32.ofInt 1).toInt8.toInt32) = nI (k + 1) := by
        rw [hN]
        exact zw_len k hk2
      refine ih _ (k + 1) ⟨?_, fun j hj => ?_⟩ hg'.2 (by omega)
      · show upd fN t _ t = nI (k + 1)
        unfold upd
        rw [if_pos rfl, hv]
      · have hj : t < j := hj
        show upd fN t _ j = 0
        unfold upd
        rw [if_neg (by omega)]
        exact hN2 j hj
end
section
theorem zwf_get {b i : Nat} : True := trivial
def zwC (M : zM) (o : Nat) : zM := zset (zwB12 M o) o (.inr (10, zwF M.1 0))
/-- the memory behind Words() -/
def zwEnd (M : zM) (o : Nat) : zM := zwM (zwC M o) o M.1 (zwAll 9)
theorem zwC_self {M : zM} {o : Nat} (h : zob M o = some (.inr (10, zdef 10 14))) : zwM (zwC M o) o M.1 zwS0 = zwC M o := by
  have ho := zob_lt h
  refine zwM_self (zob_set (zwB_12 h).2) ?_ ?_ ?_ ?_ ?_
  · exact (zob_set_ne (by omega)).trans (zwB_a2_12 h)
  · exact (zob_set_ne (by omega)).trans (zwB_a5_12 h)
  · exact (zob_set_ne (by omega)).trans (zwB_a1_12 h)
  · exact (zob_set_ne (by omega)).trans (zwB_a6_12 h)
  · exact (zob_set_ne (by omega)).trans (zwB_a7_12 h)
theorem zwC_1 {M : zM} {o : Nat} (h : zob M o = some (.inr (10, zdef 10 14))) : (zwC M o).1 = M.1 + 12 := (zwB_12 h).1
set_option maxHeartbeats 4000000 in
theorem words_init {X : zX} {call : zCall} {M : zM} {o n : Nat} (h : zob M o = some (.inr (10, zdef 10 14))) (hM : M.1 + 12 ≤ 1000000) (hadd : ∀ i, i < 9 → call 239 [.ref o, .ref (1000000 + i)] (zwM (zwC M o) o M.1 (zwAll i)) = some (none, zwM (zwC M o) o M.1 (zwAll (i + 1)))) : zrun X zmt call zm_238 (n + 81) 0 [(0, .ref o)] [] M = some (none, zwEnd M o) := by
  have ho := zob_lt h
  have hb : M.1 + 12 ≤ (zwC M o).1 := by rw [zwC_1 h]; exact Nat.le_refl _
  refine zr_s0 rfl rfl rfl rfl ?_
  refine zr_objinit rfl rfl (Nat.le_of_ble_eq_true rfl) ?_
  refine zr_s0 rfl rfl rfl rfl ?_
  refine zr_s0 rfl rfl rfl rfl ?_
  refine zr_newa (k := 1) (N := 360) (M := zwB0 M o) rfl rfl (by decide) (by decide) (by rw [(zwB_0 h).1]; omega) (by decide) ?_
  refine zr_put rfl rfl (zob_push_lt (zwB_0 h).2) rfl ⟨Nat.le_of_ble_eq_true rfl, Nat.le_of_ble_eq_true rfl, zfit_null (Or.inr ⟨_, rfl⟩) _, Or.inr ⟨rfl, rfl⟩⟩ ?_
  show zrun X zmt call zm_238 _ _ _ [] (zwB1 M o) = _
  refine zr_s0 rfl rfl rfl rfl ?_
  refine zr_s0 rfl rfl rfl rfl ?_
  refine zr_newa (k := 1) (N := 360) (M := zwB1 M o) rfl rfl (by decide) (by decide) (by rw [(zwB_1 h).1]; omega) (by decide) ?_
  refine zr_put rfl rfl (zob_push_lt (zwB_1 h).2) rfl ⟨Nat.le_of_ble_eq_true rfl, Nat.le_of_ble_eq_true rfl, zfit_null (Or.inr ⟨_, rfl⟩) _, Or.inr ⟨rfl, rfl⟩⟩ ?_
  show zrun X zmt call zm_238 _ _ _ [] (zwB2 M o) = _
  refine zr_s0 rfl rfl rfl rfl ?_
  refine zr_s0 rfl rfl rfl rfl ?_
  refine zr_newa (k := 1) (N := 360) (M := zwB2 M o) rfl rfl (by decide) (by decide) (by rw [(zwB_2 h).1]; omega) (by decide) ?_
  refine zr_put rfl rfl (zob_push_lt (zwB_2 h).2) rfl ⟨Nat.le_of_ble_eq_true rfl, Nat.le_of_ble_eq_true rfl, zfit_null (Or.inr ⟨_, rfl⟩) _, Or.inr ⟨rfl, rfl⟩⟩ ?_
  show zrun X zmt call zm_238 _ _ _ [] (zwB3 M o) = _
  refine zr_s0 rfl rfl rfl rfl ?_
  refine zr_s0 rfl rfl rfl rfl ?_
  refine zr_newa (k := 0) (N := 360) (M := zwB3 M o) rfl rfl (by decide) (by decide) (by rw [(zwB_3 h).1]; omega) (by decide) ?_
  refine zr_put rfl rfl (zob_push_lt (zwB_3 h).2) rfl ⟨Nat.le_of_ble_eq_true rfl, Nat.le_of_ble_eq_true rfl, zfit_null (Or.inr ⟨_, rfl⟩) _, Or.inr ⟨rfl, rfl⟩⟩ ?_
  show zrun X zmt call zm_238 _ _ _ [] (zwB4 M o) = _
  refine zr_s0 rfl rfl rfl rfl ?_
  refine zr_s0 rfl rfl rfl rfl ?_
  refine zr_newa (k := 0) (N := 360) (M := zwB4 M o) rfl rfl (by decide) (by decide) (by rw [(zwB_4 h).1]; omega) (by decide) ?_
  refine zr_put rfl rfl (zob_push_lt (zwB_4 h).2) rfl ⟨Nat.le_of_ble_eq_true rfl, Nat.le_of_ble_eq_true rfl, zfit_null (Or.inr ⟨_, rfl⟩) _, Or.inr ⟨rfl, rfl⟩⟩ ?_
  show zrun X zmt call zm_238 _ _ _ [] (zwB5 M o) = _
  refine zr_s0 rfl rfl rfl rfl ?_
  refine zr_s0 rfl rfl rfl rfl ?_
  refine zr_newa (k := 0) (N := 360) (M := zwB5 M o) rfl rfl (by decide) (by decide) (by rw [(zwB_5 h).1]; omega) (by decide) ?_
  refine zr_put rfl rfl (zob_push_lt (zwB_5 h).2) rfl ⟨Nat.le_of_ble_eq_true rfl, Nat.le_of_ble_eq_true rfl, zfit_null (Or.inr ⟨_, rfl⟩) _, Or.inr ⟨rfl, rfl⟩⟩ ?_
  show zrun X zmt call zm_238 _ _ _ [] (zwB6 M o) = _
  refine zr_s0 rfl rfl rfl rfl ?_
  refine zr_s0 rfl rfl rfl rfl ?_
  refine zr_newa (k := 1) (N := 360) (M := zwB6 M o) rfl rfl (by decide) (by decide) (by rw [(zwB_6 h).1]; omega) (by decide) ?_
  refine zr_put rfl rfl (zob_push_lt (zwB_6 h).2) rfl ⟨Nat.le_of_ble_eq_true rfl, Nat.le_of_ble_eq_true rfl, zfit_null (Or.inr ⟨_, rfl⟩) _, Or.inr ⟨rfl, rfl⟩⟩ ?_
  show zrun X zmt call zm_238 _ _ _ [] (zwB7 M o) = _
  refine zr_s0 rfl rfl rfl rfl ?_
  refine zr_s0 rfl rfl rfl rfl ?_
  refine zr_newa (k := 1) (N := 8640) (M := zwB7 M o) rfl rfl (by decide) (by decide) (by rw [(zwB_7 h).1]; omega) (by decide) ?_
  refine zr_put rfl rfl (zob_push_lt (zwB_7 h).2) rfl ⟨Nat.le_of_ble_eq_true rfl, Nat.le_of_ble_eq_true rfl, zfit_null (Or.inr ⟨_, rfl⟩) _, Or.inr ⟨rfl, rfl⟩⟩ ?_
  show zrun X zmt call zm_238 _ _ _ [] (zwB8 M o) = _
  refine zr_s0 rfl rfl rfl rfl ?_
  refine zr_s0 rfl rfl rfl rfl ?_
  refine zr_newa (k := 1) (N := 360) (M := zwB8 M o) rfl rfl (by decide) (by decide) (by rw [(zwB_8 h).1]; omega) (by decide) ?_
  refine zr_put rfl rfl (zob_push_lt (zwB_8 h).2) rfl ⟨Nat.le_of_ble_eq_true rfl, Nat.le_of_ble_eq_true rfl, zfit_null (Or.inr ⟨_, rfl⟩) _, Or.inr ⟨rfl, rfl⟩⟩ ?_
  show zrun X zmt call zm_238 _ _ _ [] (zwB9 M o) = _
  refine zr_s0 rfl rfl rfl rfl ?_
  refine zr_s0 rfl rfl rfl rfl ?_
  refine zr_newa (k := 0) (N := 360) (M := zwB9 M o) rfl rfl (by decide) (by decide) (by rw [(zwB_9 h).1]; omega) (by decide) ?_
  refine zr_put rfl rfl (zob_push_lt (zwB_9 h).2) rfl ⟨Nat.le_of_ble_eq_true rfl, Nat.le_of_ble_eq_true rfl, zfit_null (Or.inr ⟨_, rfl⟩) _, Or.inr ⟨rfl, rfl⟩⟩ ?_
  show zrun X zmt call zm_238 _ _ _ [] (zwB10 M o) = _
  refine zr_s0 rfl rfl rfl rfl ?_
  refine zr_s0 rfl rfl rfl rfl ?_
  refine zr_newa (k := 0) (N := 360) (M := zwB10 M o) rfl rfl (by decide) (by decide) (by rw [(zwB_10 h).1]; omega) (by decide) ?_
  refine zr_put rfl rfl (zob_push_lt (zwB_10 h).2) rfl ⟨Nat.le_of_ble_eq_true rfl, Nat.le_of_ble_eq_true rfl, zfit_null (Or.inr ⟨_, rfl⟩) _, Or.inr ⟨rfl, rfl⟩⟩ ?_
  show zrun X zmt call zm_238 _ _ _ [] (zwB11 M o) = _
  refine zr_s0 rfl rfl rfl rfl ?_
  refine zr_s0 rfl rfl rfl rfl ?_
  refine zr_newa (k := 0) (N := 360) (M := zwB11 M o) rfl rfl (by decide) (by decide) (by rw [(zwB_11 h).1]; omega) (by decide) ?_
  refine zr_put rfl rfl (zob_push_lt (zwB_11 h).2) rfl ⟨Nat.le_of_ble_eq_true rfl, Nat.le_of_ble_eq_true rfl, zfit_null (Or.inr ⟨_, rfl⟩) _, Or.inr ⟨rfl, rfl⟩⟩ ?_
  show zrun X zmt call zm_238 _ _ _ [] (zwB12 M o) = _
  refine zr_s0 rfl rfl rfl rfl ?_
  refine zr_s0 rfl rfl rfl rfl ?_
  refine zr_put rfl rfl (zwB_12 h).2 rfl ⟨Nat.le_of_ble_eq_true rfl, Nat.le_of_ble_eq_true rfl, zfit_int _, Or.inl rfl⟩ ?_
  show zrun X zmt call zm_238 _ _ _ [] (zwC M o) = _
  rw [← zwC_self h]
  refine zr_s0 rfl rfl rfl rfl ?_
  refine zr_s1 rfl rfl rfl rfl rfl ?_
  refine zr_callV rfl rfl rfl rfl (by omega) (zw_o ho hb) rfl ⟨Or.inl rfl, rfl, rfl, rfl, rfl, rfl, Nat.le_of_ble_eq_true rfl⟩ (hadd 0 (by decide)) ?_
  refine zr_s0 rfl rfl rfl rfl ?_
  refine zr_s1 rfl rfl rfl rfl rfl ?_
  refine zr_callV rfl rfl rfl rfl (by omega) (zw_o ho hb) rfl ⟨Or.inl rfl, rfl, rfl, rfl, rfl, rfl, Nat.le_of_ble_eq_true rfl⟩ (hadd 1 (by decide)) ?_
  refine zr_s0 rfl rfl rfl rfl ?_
  refine zr_s1 rfl rfl rfl rfl rfl ?_
  refine zr_callV rfl rfl rfl rfl (by omega) (zw_o ho hb) rfl ⟨Or.inl rfl, rfl, rfl, rfl, rfl, rfl, Nat.le_of_ble_eq_true rfl⟩ (hadd 2 (by decide)) ?_
  refine zr_s0 rfl rfl rfl rfl ?_
  refine zr_s1 rfl rfl rfl rfl rfl ?_
  refine zr_callV rfl rfl rfl rfl (by omega) (zw_o ho hb) rfl ⟨Or.inl rfl, rfl, rfl, rfl, rfl, rfl, Nat.le_of_ble_eq_true rfl⟩ (hadd 3 (by decide)) ?_
  refine zr_s0 rfl rfl rfl rfl ?_
  refine zr_s1 rfl rfl rfl rfl rfl ?_
  refine zr_callV rfl rfl rfl rfl (by omega) (zw_o ho hb) rfl ⟨Or.inl rfl, rfl, rfl, rfl, rfl, rfl, Nat.le_of_ble_eq_true rfl⟩ (hadd 4 (by decide)) ?_
  refine zr_s0 rfl rfl rfl rfl ?_
  refine zr_s1 rfl rfl rfl rfl rfl ?_
  refine zr_callV rfl rfl rfl rfl (by omega) (zw_o ho hb) rfl ⟨Or.inl rfl, rfl, rfl, rfl, rfl, rfl, Nat.le_of_ble_eq_true rfl⟩ (hadd 5 (by decide)) ?_
  refine zr_s0 rfl rfl rfl rfl ?_
  refine zr_s1 rfl rfl rfl rfl rfl ?_
  refine zr_callV rfl rfl rfl rfl (by omega) (zw_o ho hb) rfl ⟨Or.inl rfl, rfl, rfl, rfl, rfl, rfl, Nat.le_of_ble_eq_true rfl⟩ (hadd 6 (by decide)) ?_
  refine zr_s0 rfl rfl rfl rfl ?_
  refine zr_s1 rfl rfl rfl rfl rfl ?_
  refine zr_callV rfl rfl rfl rfl (by omega) (zw_o ho hb) rfl ⟨Or.inl rfl, rfl, rfl, rfl, rfl, rfl, Nat.le_of_ble_eq_true rfl⟩ (hadd 7 (by decide)) ?_
  refine zr_s0 rfl rfl rfl rfl ?_
  refine zr_s1 rfl rfl rfl rfl rfl ?_
  refine zr_callV rfl rfl rfl rfl (by omega) (zw_o ho hb) rfl ⟨Or.inl rfl, rfl, rfl, rfl, rfl, rfl, Nat.le_of_ble_eq_true rfl⟩ (hadd 8 (by decide)) ?_
  exact zr_ret rfl rfl rfl
def zwN : Nat → Nat
  | 0 => 0
  | i + 1 => zwN i + ((zsb i).filter (fun c => decide (c = 32))).length
theorem zwAll_N : ∀ i, (zwAll i).1 = zwN i := by
  intro i
  induction i with
  | zero => rfl
  | succ i ih =>
    show (zal (zwAll i) (zsb i)).1 = zwN i + _
    rw [zal_app, ih]
theorem zw_lines : ∀ i, i < 9 → zgood (zsb i) (zwN i) 0 = true ∧ zrest (zsb i) 0 = 0 := by decide +kernel
theorem zwAll_ok : ∀ i, i < 10 → zwInv (zwAll i) 0 := by
  intro i
  induction i with
  | zero => exact fun _ => ⟨rfl, fun _ _ => rfl⟩
  | succ i ih =>
    intro hi
    obtain ⟨h2, h3⟩ := zw_lines i (by omega)
    rw [← zwAll_N] at h2
    have := zal_inv (zsb i) (zwAll i) 0 (ih (by omega)) h2 (by decide)
    rw [h3] at this
    exact this
theorem zovS_L {q : Nat} {M : zM} (hq : 1000000 ≤ q ∧ q < 1000013) (hM : M.1 ≤ 1000000) : zovS 501 [.ref q] M = some (some (.int (nI (zsb (q - 1000000)).length)), M) := by
  unfold zovS
  rw [if_pos rfl]
  dsimp only
  rw [if_pos ⟨hq.1, hq.2, hM⟩]
theorem zovS_C {q k : Nat} {M : zM} (hq : 1000000 ≤ q ∧ q < 1000013) (hM : M.1 ≤ 1000000) (hk : k < (zsb (q - 1000000)).length) (hk2 : k < 2 ^ 31) : zovS 502 [.ref q, .int (nI k)] M = some (some (.int ((zsb (q - 1000000)).getD k 0)), M) := by
  unfold zovS
  rw [if_neg (by decide), if_pos rfl]
  dsimp only
  rw [nI_clamp hk2, if_pos ⟨hq, hM, nI_pos hk2, hk⟩]
theorem zev_addLine {X : zX} {M : zM} {o b i d n : Nat} (ho : o < b) (hb : b + 12 ≤ M.1) (hM : M.1 ≤ 1000000) (hi : i < 9) (hn : 42 * (zsb i).length + 7 ≤ n) (hd : 8 ≤ d) : zev 8 X zmt zovS (d + 1) n 239 [.ref o, .ref (1000000 + i)] (zwM M o b (zwAll i)) = some (none, zwM M o b (zwAll (i + 1))) := by
  obtain ⟨c1, c2⟩ := zsb_char i (by omega)
  obtain ⟨h2, h3⟩ := zw_lines i hi
  rw [← zwAll_N] at h2
  have hq : @LE.le Nat _ 1000000 (1000000 + i) ∧ @LT.lt Nat _ (1000000 + i) 1000013 := by omega
  have e : 1000000 + i - 1000000 = i := by omega
  obtain ⟨n, rfl⟩ : ∃ n', n = n' + 2 := ⟨n - 2, by omega⟩
  obtain ⟨d, rfl⟩ : ∃ d', d = d' + 1 := ⟨d - 1, by omega⟩
  refine zev_S rfl rfl (Nat.le_of_ble_eq_true rfl) ?_
  refine zr_s0 rfl rfl rfl rfl ?_
  refine zr_s0 rfl rfl rfl rfl ?_
  exact addLine_loop ho hb hM (zsb i) c1 (fun M' hM' => zev_ovS (by rw [zovS_L hq hM', e]) hd) (fun M' k hM' hk => zev_ovS (by rw [zovS_C hq hM' (by rw [e]; exact hk) (Nat.lt_trans hk c1), e]) hd) hq (zsb i) 0 0 (zwAll i) (Nat.zero_le _) rfl (zwAll_ok i (by omega)) h2 (by decide) n (by omega)
theorem zev_Words {X : zX} {M : zM} {o d n : Nat} (h : zob M o = some (.inr (10, zdef 10 14))) (hM : M.1 + 12 ≤ 1000000) (hd : 8 ≤ d) (hn : 42 * 400 + 7 ≤ n) : zev 8 X zmt zovS (d + 2) n 238 [.ref o] M = some (none, zwEnd M o) := by
  have ho := zob_lt h
  obtain ⟨n', rfl⟩ : ∃ n', n = n' + 81 := ⟨n - 81, by omega⟩
  refine zev_S rfl rfl (Nat.le_of_ble_eq_true rfl) (words_init h hM ?_)
  intro i hi
  have hl : (zsb i).length ≤ 400 := by
    have : ∀ i, i < 9 → (zsb i).length ≤ 400 := by decide +kernel
    exact this i hi
  exact zev_addLine ho (by rw [zwC_1 h]; exact Nat.le_refl _) (by rw [zwC_1 h]; exact hM) hi (by omega) hd
end
section
/-- what is known, with Words() -/
def zovT : zCall := fun a av M =>
  if a = 238 then (match av with
    | [.ref o] => (match zob M o with
      | some (.inr (10, fs)) => if fs = zdef 10 14 ∧ M.1 + 12 ≤ 1000000 then some (none, zwEnd M o) else none
      | _ => none)
    | _ => none)
  else zovS a av M
theorem zovT_ok {l : Launch} {base : Nat} {ex : Nat → Nat} {dC : Nat → ClassId} {dI : Nat → Nat → Nat} {X : zX} : zOv 10 l base ex dC dI X zmt zovT := by
  intro a av M v M' h
  unfold zovT at h
  split at h
  · rename_i ha
    subst ha
    split at h
    · rename_i o
      split at h
      · rename_i fs hob
        split at h
        · rename_i hq
          cases h
          obtain ⟨rfl, hM⟩ := hq
          have key : ∀ d, 8 ≤ d → zev 8 X zmt zovS (d + 2) (42 * 400 + 7) 238 [.ref o] M = some (none, zwEnd M o) := fun d hd => zev_Words hob hM hd (Nat.le_refl _)
          refine ⟨zev_mono (zovS_ok (l := l) (base := base) (ex := ex) (dC := dC) (dI := dI)) _ _ _ _ _ _ _ (key 8 (Nat.le_refl _)), fun d hd r hr => ?_⟩
          obtain ⟨d', rfl⟩ : ∃ d', d = d' + 2 := ⟨d - 2, by omega⟩
          exact zev_ok zmt_ok zovS_ok _ _ _ _ _ _ _ (key d' (by omega)) r hr
        · cases h
      · cases h
    · cases h
  · obtain ⟨h1, h2⟩ := zovS_ok (l := l) (base := base) (ex := ex) (dC := dC) (dI := dI) (X := X) a av M v M' h
    exact ⟨h1, fun d hd => h2 d (by omega)⟩
end
section
/-! a run that does not read the script is the same with every script -/
theorem zX0_big (z : Nat) : ¬ (zX0 z).1 < 2147483648 := Nat.lt_irrefl _
theorem zs1_X {X : zX} {z own : Nat} {ini : Bool} {pc : Nat} {ls : zL} {st : List Value} {M : zM} {i : Instr} {q} (h : zs1 (zX0 z) own ini pc ls st M i = some q) : zs1 X own ini pc ls st M i = some q := by
  cases i <;> simp only [zs1, reduceCtorEq] at h ⊢ <;> try exact h
  case iaload =>
    split at h
    · split at h
      · rename_i ha
        split at h
        · cases h
        · rename_i hn
          exact absurd (Or.inr (Or.inr (zX0_big z))) hn
      · rename_i ha
        rw [if_neg ha]
        exact h
    · cases h
  case arraylength =>
    split at h
    · split at h
      · rename_i ha
        split at h
        · rename_i hn
          exact absurd hn (zX0_big z)
        · cases h
      · rename_i ha
        rw [if_neg ha]
        exact h
    · cases h
theorem zs1_Xn {X : zX} {z own : Nat} {ini : Bool} {pc : Nat} {ls : zL} {st : List Value} {M : zM} {i : Instr} {mt : Nat → Option zMe} {c1 : zCall} {x2 : zX} (h : zs1 (zX0 z) own ini pc ls st M i = none) : zs1 X own ini pc ls st M i = none ∨ (zs3 x2 own pc ls st M i = none ∧ zs2 mt c1 own pc ls st M i = none) := by
  cases i <;> simp only [zs1] at h ⊢ <;> try exact Or.inl h
  case iaload => exact Or.inr ⟨rfl, rfl⟩
  case arraylength =>
    match st with
    | .ref a :: r =>
      dsimp only at h ⊢
      by_cases ha : a = 1000016
      · refine Or.inr ⟨?_, rfl⟩
        subst ha
        rfl
      · rw [if_neg ha] at h ⊢
        exact Or.inl h
    | [] => exact Or.inl rfl
    | .int _ :: _ => exact Or.inl rfl
    | .long _ :: _ => exact Or.inl rfl
    | .null :: _ => exact Or.inl rfl
    | .float _ :: _ => exact Or.inl rfl
    | .double _ :: _ => exact Or.inl rfl
    | .retAddr _ :: _ => exact Or.inl rfl
theorem zs3_X {X : zX} {z own : Nat} (hz : X.2.2 = 0 ↔ z = 0) {pc : Nat} {ls : zL} {st : List Value} {M : zM} {i : Instr} : zs3 (zX0 z) own pc ls st M i = zs3 X own pc ls st M i := by
  have e : (if (zX0 z).2.2 = 0 then Value.null else .ref 1000040) = (if X.2.2 = 0 then Value.null else .ref 1000040) := by
    by_cases h : z = 0
    · rw [if_pos (show (zX0 z).2.2 = 0 from h), if_pos (hz.mpr h)]
    · rw [if_neg (show ¬ (zX0 z).2.2 = 0 from h), if_neg (fun w => h (hz.mp w))]
  cases i <;> simp only [zs3]
  case getstatic => rw [e]
theorem zs2_X {mt : Nat → Option zMe} {c1 c2 : zCall} (hc : ∀ a av M q, c1 a av M = some q → c2 a av M = some q) {own pc : Nat} {ls : zL} {st : List Value} {M : zM} {i : Instr} {q} (h : zs2 mt c1 own pc ls st M i = some q) : zs2 mt c2 own pc ls st M i = some q := by
  cases i <;> simp only [zs2, reduceCtorEq] at h ⊢ <;> try exact h
  all_goals
    (repeat' split at h)
    all_goals first
      | (cases h; done)
      | (rename_i hcc; rw [hc _ _ _ _ hcc, if_pos (by assumption)]; exact h)
      | (rename_i hcc; rw [hc _ _ _ _ hcc, if_pos (by assumption), if_pos (by assumption)]; exact h)
      | (rename_i hcc; rw [hc _ _ _ _ hcc, if_neg (by assumption), if_pos (by assumption)]; exact h)
theorem zstep_X {X : zX} {z : Nat} (hz : X.2.2 = 0 ↔ z = 0) {mt : Nat → Option zMe} {c1 c2 : zCall} (hc : ∀ a av M q, c1 a av M = some q → c2 a av M = some q) {r : zMe} {pc : Nat} {ls : zL} {st : List Value} {M : zM} {i : Instr} {len : Nat} {q} (h : zstep (zX0 z) mt c1 r pc ls st M i len = some q) : zstep X mt c2 r pc ls st M i len = some q := by
  unfold zstep at h ⊢
  cases h0 : zs0 pc ls st r.2.2.1 i len with
  | some a => rw [h0] at h; exact h
  | none =>
    rw [h0] at h
    dsimp only at h ⊢
    cases h1 : zs1 (zX0 z) r.2.2.2.2.2.1 (r.2.2.2.2.2.2.1 == 2) pc ls st M i with
    | some a => rw [h1] at h; rw [zs1_X h1]; exact h
    | none =>
      rw [h1] at h
      dsimp only at h
      rcases zs1_Xn (X := X) (x2 := zX0 z) (mt := mt) (c1 := c1) h1 with h2 | ⟨h2, h3⟩
      · rw [h2]
        dsimp only
        rw [zs3_X hz] at h
        cases h3 : zs3 X r.2.2.2.2.2.1 pc ls st M i with
        | some a => rw [h3] at h; exact h
        | none => rw [h3] at h; exact zs2_X hc h
      · rw [h2, h3] at h
        cases h
theorem zrun_X {X : zX} {z : Nat} (hz : X.2.2 = 0 ↔ z = 0) {mt : Nat → Option zMe} {c1 c2 : zCall} (hc : ∀ a av M q, c1 a av M = some q → c2 a av M = some q) {r : zMe} : ∀ (n pc : Nat) (ls : zL) (st : List Value) (M : zM) q, zrun (zX0 z) mt c1 r n pc ls st M = some q → zrun X mt c2 r n pc ls st M = some q := by
  intro n
  induction n with
  | zero => intro pc ls st M q h; cases h
  | succ n ih =>
    intro pc ls st M q h
    cases htb : r.2.2.2.2.2.2.2 pc with
    | none => unfold zrun at h; rw [htb] at h; cases h
    | some x =>
      obtain ⟨i, len⟩ := x
      by_cases hk : zlok i len = true
      · cases hr : zret r.2.2.2.1 i st with
        | some v =>
          unfold zrun at h ⊢
          rw [htb] at h ⊢
          dsimp only at h ⊢
          rw [if_pos hk, hr] at h ⊢
          exact h
        | none =>
          unfold zrun at h
          rw [htb] at h
          dsimp only at h
          rw [if_pos hk, hr] at h
          dsimp only at h
          cases hs : zstep (zX0 z) mt c1 r pc ls st M i len with
          | none => rw [hs] at h; cases h
          | some y =>
            obtain ⟨pc', ls', st', M'⟩ := y
            rw [hs] at h
            exact zr_step htb hk hr (zstep_X hz hc hs) (ih _ _ _ _ _ h)
      · unfold zrun at h
        rw [htb] at h
        dsimp only at h
        rw [if_neg hk] at h
        cases h
theorem zev_X {X : zX} {z th : Nat} (hz : X.2.2 = 0 ↔ z = 0) {mt : Nat → Option zMe} {ov : zCall} : ∀ (d n a : Nat) (av : List Value) (M : zM) q, zev th (zX0 z) mt ov d n a av M = some q → zev th X mt ov d n a av M = some q := by
  intro d
  induction d with
  | zero => intro n a av M q h; cases h
  | succ d ih =>
    intro n a av M q h
    unfold zev at h ⊢
    split at h
    · exact h
    · split at h
      · cases h
      · split at h
        · rename_i hl
          rw [if_pos hl]
          exact zrun_X hz (fun a av M q => ih n a av M q) _ _ _ _ _ _ h
        · cases h
end
section
/-! what the constructors leave (numbers by gen23.py) -/
def zko (M : zM) (k c : Nat) (fs : List Value) : Bool := match zob M k with
  | some (.inr (c1, f1)) => decide (c1 = c ∧ f1 = fs)
  | _ => false
def zka (M : zM) (k t n : Nat) (p : (Nat → Int32) → Bool) : Bool := match zob M k with
  | some (.inl (t1, n1, .inl f)) => decide (t1 = t ∧ n1 = n) && p f
  | _ => false
def zkr (M : zM) (k t n : Nat) (p : (Nat → Option Nat) → Bool) : Bool := match zob M k with
  | some (.inl (t1, n1, .inr (.inr (.inr (.inr f))))) => decide (t1 = t ∧ n1 = n) && p f
  | _ => false
theorem zko_spec {M : zM} {k c : Nat} {fs : List Value} (h : zko M k c fs = true) : zob M k = some (.inr (c, fs)) := by
  unfold zko at h
  split at h
  · rename_i c1 f1 hz
    obtain ⟨rfl, rfl⟩ := of_decide_eq_true h
    exact hz
  · cases h
theorem zka_spec {M : zM} {k t n : Nat} {p : (Nat → Int32) → Bool} (h : zka M k t n p = true) : ∃ f, zob M k = some (.inl (t, n, .inl f)) ∧ p f = true := by
  unfold zka at h
  split at h
  · rename_i t1 n1 f hz
    obtain ⟨h1, h2⟩ := Bool.and_eq_true _ _ ▸ h
    obtain ⟨rfl, rfl⟩ := of_decide_eq_true h1
    exact ⟨f, hz, h2⟩
  · cases h
theorem zkr_spec {M : zM} {k t n : Nat} {p : (Nat → Option Nat) → Bool} (h : zkr M k t n p = true) : ∃ f, zob M k = some (.inl (t, n, .inr (.inr (.inr (.inr f))))) ∧ p f = true := by
  unfold zkr at h
  split at h
  · rename_i t1 n1 f hz
    obtain ⟨h1, h2⟩ := Bool.and_eq_true _ _ ▸ h
    obtain ⟨rfl, rfl⟩ := of_decide_eq_true h1
    exact ⟨f, hz, h2⟩
  · cases h
def zf_0 : List Value := [.ref 1, .int 0, .ref 2, .int 0, .ref 3, .ref 4, .ref 5]
def zf_5 : List Value := [.ref 6, .int 0, .ref 7, .ref 9, .int 0, .int 0, .int 0, .ref 16, .ref 17, .ref 18, .int 0]
def zf_9 : List Value := [.ref 7, .ref 10, .ref 11, .ref 12, .ref 13, .ref 14, .ref 15, .int 0, .int 0, .int 0, .int 0, .int 0, .int 0, .int (-1), .int 0, .int 0, .int (-1), .int 0]
def zf_19 : List Value := [.ref 20, .ref 22, .ref 35, .ref 38, .ref 46, .ref 56, .ref 65, .ref 69, .ref 81, .int 0, .int 0, .int 0, .int 0, .int 0, .int (-1), .int 0, .int (-1), .int 0]
def zf_20 : List Value := [.ref 21, .int 0, .int 0, .int 256, .int 128]
def zf_474 : List Value := [.ref 475, .ref 476, .int 0, .int 0, .int 0, .int 0, .int 0, .ref 477, .ref 478, .ref 479, .int 0, .int 0, .long 0, .long 0, .int 0, .ref 480, .ref 481, .int 0, .int 0, .int 0, .int 0, .int 0, .int 0, .int 0, .int 0, .ref 482, .ref 483, .int 0, .int 0, .int 0, .int 0, .int 0, .ref 484, .ref 485, .int 0]
def zk2 (M : zM) : Bool := Nat.beq M.1 486 && Nat.ble M.2.1 7000000 && (zko M 0 11 zf_0 && (zko M 5 0 zf_5 && (zko M 9 8 zf_9 && (zko M 19 1 zf_19 && (zko M 20 7 zf_20 && (zko M 474 12 zf_474 && (zka M 1 1 1024 (fun _ => true) && (zka M 21 1 4096 (fun _ => true) && (zka M 476 1 1024 (fun _ => true) && (zka M 479 0 4100 (fun _ => true) && (zka M 4 2 2 (fun f => decide (f 0 = 0 ∧ f 1 = 0)) && (zka M 475 0 238220 (fun f => decide (f 35 = 0 ∧ f 39735 = 0 ∧ f 79435 = 0 ∧ f 119135 = 0 ∧ f 158835 = 0)) && (zkr M 2 3 3 (fun f => decide (f 0 = some 19)))))))))))))))
def zchk (f : zM → Bool) (r : Option (Option Value × zM)) : Bool := match r with
  | some (none, M) => f M
  | _ => false
def zM1 : zM := zpush zM0 (.inr (11, zdef 11 7))
def zk1 (z : Nat) (M : zM) : Bool := Nat.beq M.1 474 && zchk zk2 (zev 10 (zX0 z) zmt zovT 14 1000 455 [.ref 474] (zpush M (.inr (12, zdef 12 35))))
set_option maxRecDepth 100000 in
theorem ctors_0 : zchk (zk1 0) (zev 10 (zX0 0) zmt zovT 14 1000 253 [.ref 0] zM1) = true := by decide +kernel
set_option maxRecDepth 100000 in
theorem ctors_1 : zchk (zk1 1) (zev 10 (zX0 1) zmt zovT 14 1000 253 [.ref 0] zM1) = true := by decide +kernel
end
section
/-! calls of a new object that answer at once (by gen24.py) -/
theorem zc_ltge {x y : Int32} (h1 : zcI .lt x y = false) (h2 : zcI .ge x y = false) {p : Prop} : p := by
  have e1 := of_decide_eq_false h1
  have e2 := of_decide_eq_false h2
  rw [Int32.lt_iff_toInt_lt] at e1
  rw [Int32.le_iff_toInt_le] at e2
  omega
theorem zr_putS {X : zX} {mt : Nat → Option zMe} {call : zCall} {r : zMe} {n pc : Nat} {ls : zL} {rest : List Value} {M : zM} {res : Option (Option Value × zM)} {x ci k q a : Nat} {fs : List Value} {v : Value} {w : vw_C} (htb : r.2.2.2.2.2.2.2 pc = some (.putfield x, 3)) (hlk : zlk r.2.2.2.2.2.1 x = some (0, ci, k, q)) (hob : zob M a = some (.inr (ci, fs))) (hw : zcls[ci]? = some w) (hc : k < fs.length ∧ k < w.2.2 ∧ zfit (zfty ci k) v = true ∧ ((w.2.1 k).2.2.2 = false ∨ ((r.2.2.2.2.2.2.1 == 2) = true ∧ (w.2.1 k).1 = zown r.2.2.2.2.2.1))) (he : fs.set k v = fs) (h : zrun X mt call r n (pc + 3) ls rest M = res) : zrun X mt call r (n + 1) pc ls (v :: .ref a :: rest) M = res := by
  refine zr_put htb hlk hob hw hc ?_
  rw [he, zset_self hob]
  exact h
section ZNEW
variable {X : zX} {call : zCall} {M : zM} {f4 f475 : Nat → Int32}
theorem x_wipe (h0 : zob M 0 = some (.inr (11, zf_0))) {n : Nat} : zrun X zmt call zm_255 (n + 8) 0 [(0, .ref 0)] [] M = some (some (.int 0), M) := by
  refine zr_s0 rfl rfl rfl rfl ?_
  refine zr_get rfl rfl h0 rfl ?_
  refine zr_s0 rfl rfl rfl rfl ?_
  refine zr_s0 rfl rfl rfl rfl ?_
  refine zr_s0 rfl rfl rfl rfl ?_
  refine zr_putS rfl rfl h0 rfl ⟨Nat.le_of_ble_eq_true rfl, Nat.le_of_ble_eq_true rfl, zfit_int _, Or.inl rfl⟩ rfl ?_
  refine zr_s0 rfl rfl rfl rfl ?_
  exact zr_ret rfl rfl rfl
theorem x_systemOf {va : Int32}(h0 : zob M 0 = some (.inr (11, zf_0))) {n : Nat} : zrun X zmt call zm_284 (n + 9) 0 [(0, .ref 0), (1, .int va)] [] M = some (some .null, M) := by
  refine zr_s0 rfl rfl rfl rfl ?_
  refine zr_if (t := 12) rfl rfl (fun h1 => ?_) (fun h1 => ?_)
  · refine zr_s0 rfl rfl rfl rfl ?_
    refine zr_s0 rfl rfl rfl rfl ?_
    exact zr_ret rfl rfl rfl
  · refine zr_s0 rfl rfl rfl rfl ?_
    refine zr_s0 rfl rfl rfl rfl ?_
    refine zr_get rfl rfl h0 rfl ?_
    refine zr_icmp (t := 16) rfl rfl (fun h => Bool.noConfusion (h1.symm.trans h)) (fun h9 => ?_)
    refine zr_s0 rfl rfl rfl rfl ?_
    refine zr_s0 rfl rfl rfl rfl ?_
    exact zr_ret rfl rfl rfl
theorem x_taskOf {va vb : Int32}(h0 : zob M 0 = some (.inr (11, zf_0)))(hsys : ∀ v, call 284 [.ref 0, .int v] M = some (some .null, M)) {n : Nat} : zrun X zmt call zm_285 (n + 9) 0 [(0, .ref 0), (1, .int va), (2, .int vb)] [] M = some (some .null, M) := by
  refine zr_s0 rfl rfl rfl rfl ?_
  refine zr_s0 rfl rfl rfl rfl ?_
  refine zr_callV rfl rfl rfl rfl (by decide) h0 rfl ⟨Or.inl rfl, rfl, rfl, rfl, rfl, rfl, Nat.le_of_ble_eq_true rfl⟩ (hsys _) ?_
  refine zr_s0 rfl rfl rfl rfl ?_
  refine zr_s0 rfl rfl rfl rfl ?_
  refine zr_s0 rfl rfl rfl rfl ?_
  refine zr_s0 rfl rfl rfl rfl ?_
  refine zr_s0 rfl rfl rfl rfl ?_
  exact zr_ret rfl rfl rfl
theorem x_evaluate {va vb : Int32}(h0 : zob M 0 = some (.inr (11, zf_0)))(hsys : ∀ v, call 284 [.ref 0, .int v] M = some (some .null, M))(hw : call 255 [.ref 0] M = some (some (.int 0), M))(htk : ∀ v w, call 285 [.ref 0, .int v, .int w] M = some (some .null, M)) {n : Nat} : zrun X zmt call zm_257 (n + 11) 0 [(0, .ref 0), (1, .int va), (2, .int vb)] [] M = some (some (.int (-2)), M) := by
  refine zr_s0 rfl rfl rfl rfl ?_
  refine zr_callV rfl rfl rfl rfl (by decide) h0 rfl ⟨Or.inl rfl, rfl, rfl, rfl, rfl, rfl, Nat.le_of_ble_eq_true rfl⟩ hw ?_
  refine zr_s0 rfl rfl rfl rfl ?_
  refine zr_s0 rfl rfl rfl rfl ?_
  refine zr_s0 rfl rfl rfl rfl ?_
  refine zr_callV rfl rfl rfl rfl (by decide) h0 rfl ⟨Or.inl rfl, rfl, rfl, rfl, rfl, rfl, Nat.le_of_ble_eq_true rfl⟩ (hsys _) ?_
  refine zr_s0 rfl rfl rfl rfl ?_
  refine zr_s0 rfl rfl rfl rfl ?_
  refine zr_s0 rfl rfl rfl rfl ?_
  refine zr_s0 rfl rfl rfl rfl ?_
  exact zr_ret rfl rfl rfl
theorem x_go {va vb : Int32}(h0 : zob M 0 = some (.inr (11, zf_0)))(hsys : ∀ v, call 284 [.ref 0, .int v] M = some (some .null, M))(hw : call 255 [.ref 0] M = some (some (.int 0), M))(htk : ∀ v w, call 285 [.ref 0, .int v, .int w] M = some (some .null, M)) {n : Nat} : zrun X zmt call zm_258 (n + 8) 0 [(0, .ref 0), (1, .int va), (2, .int vb)] [] M = some (some (.int (-2)), M) := by
  refine zr_s0 rfl rfl rfl rfl ?_
  refine zr_s0 rfl rfl rfl rfl ?_
  refine zr_callV rfl rfl rfl rfl (by decide) h0 rfl ⟨Or.inl rfl, rfl, rfl, rfl, rfl, rfl, Nat.le_of_ble_eq_true rfl⟩ (hsys _) ?_
  refine zr_s0 rfl rfl rfl rfl ?_
  refine zr_s0 rfl rfl rfl rfl ?_
  refine zr_s0 rfl rfl rfl rfl ?_
  refine zr_s0 rfl rfl rfl rfl ?_
  exact zr_ret rfl rfl rfl
theorem x_out {va vb : Int32}(h0 : zob M 0 = some (.inr (11, zf_0)))(hsys : ∀ v, call 284 [.ref 0, .int v] M = some (some .null, M))(hw : call 255 [.ref 0] M = some (some (.int 0), M))(htk : ∀ v w, call 285 [.ref 0, .int v, .int w] M = some (some .null, M)) {n : Nat} : zrun X zmt call zm_259 (n + 9) 0 [(0, .ref 0), (1, .int va), (2, .int vb)] [] M = some (some (.int (-2)), M) := by
  refine zr_s0 rfl rfl rfl rfl ?_
  refine zr_s0 rfl rfl rfl rfl ?_
  refine zr_callV rfl rfl rfl rfl (by decide) h0 rfl ⟨Or.inl rfl, rfl, rfl, rfl, rfl, rfl, Nat.le_of_ble_eq_true rfl⟩ (hsys _) ?_
  refine zr_s0 rfl rfl rfl rfl ?_
  refine zr_s0 rfl rfl rfl rfl ?_
  refine zr_s0 rfl rfl rfl rfl ?_
  refine zr_s0 rfl rfl rfl rfl ?_
  refine zr_s0 rfl rfl rfl rfl ?_
  exact zr_ret rfl rfl rfl
theorem x_count {va vb : Int32}(h0 : zob M 0 = some (.inr (11, zf_0)))(hsys : ∀ v, call 284 [.ref 0, .int v] M = some (some .null, M))(hw : call 255 [.ref 0] M = some (some (.int 0), M))(htk : ∀ v w, call 285 [.ref 0, .int v, .int w] M = some (some .null, M)) {n : Nat} : zrun X zmt call zm_260 (n + 9) 0 [(0, .ref 0), (1, .int va), (2, .int vb)] [] M = some (some (.int (-2)), M) := by
  refine zr_s0 rfl rfl rfl rfl ?_
  refine zr_s0 rfl rfl rfl rfl ?_
  refine zr_callV rfl rfl rfl rfl (by decide) h0 rfl ⟨Or.inl rfl, rfl, rfl, rfl, rfl, rfl, Nat.le_of_ble_eq_true rfl⟩ (hsys _) ?_
  refine zr_s0 rfl rfl rfl rfl ?_
  refine zr_s0 rfl rfl rfl rfl ?_
  refine zr_s0 rfl rfl rfl rfl ?_
  refine zr_s0 rfl rfl rfl rfl ?_
  refine zr_s0 rfl rfl rfl rfl ?_
  exact zr_ret rfl rfl rfl
theorem x_thrown {va vb : Int32}(h0 : zob M 0 = some (.inr (11, zf_0)))(hsys : ∀ v, call 284 [.ref 0, .int v] M = some (some .null, M))(hw : call 255 [.ref 0] M = some (some (.int 0), M))(htk : ∀ v w, call 285 [.ref 0, .int v, .int w] M = some (some .null, M)) {n : Nat} : zrun X zmt call zm_261 (n + 8) 0 [(0, .ref 0), (1, .int va), (2, .int vb)] [] M = some (some (.int (-2)), M) := by
  refine zr_s0 rfl rfl rfl rfl ?_
  refine zr_s0 rfl rfl rfl rfl ?_
  refine zr_callV rfl rfl rfl rfl (by decide) h0 rfl ⟨Or.inl rfl, rfl, rfl, rfl, rfl, rfl, Nat.le_of_ble_eq_true rfl⟩ (hsys _) ?_
  refine zr_s0 rfl rfl rfl rfl ?_
  refine zr_s0 rfl rfl rfl rfl ?_
  refine zr_s0 rfl rfl rfl rfl ?_
  refine zr_s0 rfl rfl rfl rfl ?_
  exact zr_ret rfl rfl rfl
theorem x_depth {va vb vc : Int32}(h0 : zob M 0 = some (.inr (11, zf_0)))(hsys : ∀ v, call 284 [.ref 0, .int v] M = some (some .null, M))(hw : call 255 [.ref 0] M = some (some (.int 0), M))(htk : ∀ v w, call 285 [.ref 0, .int v, .int w] M = some (some .null, M)) {n : Nat} : zrun X zmt call zm_262 (n + 10) 0 [(0, .ref 0), (1, .int va), (2, .int vb), (3, .int vc)] [] M = some (some (.int (-2)), M) := by
  refine zr_s0 rfl rfl rfl rfl ?_
  refine zr_s0 rfl rfl rfl rfl ?_
  refine zr_s0 rfl rfl rfl rfl ?_
  refine zr_callV rfl rfl rfl rfl (by decide) h0 rfl ⟨Or.inl rfl, rfl, rfl, rfl, rfl, rfl, Nat.le_of_ble_eq_true rfl⟩ (htk _ _) ?_
  refine zr_s0 rfl rfl rfl rfl ?_
  refine zr_s0 rfl rfl rfl rfl ?_
  refine zr_s0 rfl rfl rfl rfl ?_
  refine zr_s0 rfl rfl rfl rfl ?_
  refine zr_s0 rfl rfl rfl rfl ?_
  exact zr_ret rfl rfl rfl
theorem x_cell {va vb vc vd : Int32}(h0 : zob M 0 = some (.inr (11, zf_0)))(hsys : ∀ v, call 284 [.ref 0, .int v] M = some (some .null, M))(hw : call 255 [.ref 0] M = some (some (.int 0), M))(htk : ∀ v w, call 285 [.ref 0, .int v, .int w] M = some (some .null, M)) {n : Nat} : zrun X zmt call zm_263 (n + 10) 0 [(0, .ref 0), (1, .int va), (2, .int vb), (3, .int vc), (4, .int vd)] [] M = some (some (.int (-2)), M) := by
  refine zr_s0 rfl rfl rfl rfl ?_
  refine zr_s0 rfl rfl rfl rfl ?_
  refine zr_s0 rfl rfl rfl rfl ?_
  refine zr_callV rfl rfl rfl rfl (by decide) h0 rfl ⟨Or.inl rfl, rfl, rfl, rfl, rfl, rfl, Nat.le_of_ble_eq_true rfl⟩ (htk _ _) ?_
  refine zr_s0 rfl rfl rfl rfl ?_
  refine zr_s0 rfl rfl rfl rfl ?_
  refine zr_s0 rfl rfl rfl rfl ?_
  refine zr_s0 rfl rfl rfl rfl ?_
  refine zr_s0 rfl rfl rfl rfl ?_
  exact zr_ret rfl rfl rfl
theorem x_task {va vb : Int32}(h0 : zob M 0 = some (.inr (11, zf_0)))(hsys : ∀ v, call 284 [.ref 0, .int v] M = some (some .null, M))(hw : call 255 [.ref 0] M = some (some (.int 0), M))(htk : ∀ v w, call 285 [.ref 0, .int v, .int w] M = some (some .null, M)) {n : Nat} : zrun X zmt call zm_264 (n + 9) 0 [(0, .ref 0), (1, .int va), (2, .int vb)] [] M = some (some (.int (-2)), M) := by
  refine zr_s0 rfl rfl rfl rfl ?_
  refine zr_s0 rfl rfl rfl rfl ?_
  refine zr_s0 rfl rfl rfl rfl ?_
  refine zr_callV rfl rfl rfl rfl (by decide) h0 rfl ⟨Or.inl rfl, rfl, rfl, rfl, rfl, rfl, Nat.le_of_ble_eq_true rfl⟩ (htk _ _) ?_
  refine zr_s0 rfl rfl rfl rfl ?_
  refine zr_s0 rfl rfl rfl rfl ?_
  refine zr_s0 rfl rfl rfl rfl ?_
  refine zr_s0 rfl rfl rfl rfl ?_
  exact zr_ret rfl rfl rfl
theorem x_fetch {va vb vc : Int32}(h0 : zob M 0 = some (.inr (11, zf_0)))(hsys : ∀ v, call 284 [.ref 0, .int v] M = some (some .null, M))(hw : call 255 [.ref 0] M = some (some (.int 0), M))(htk : ∀ v w, call 285 [.ref 0, .int v, .int w] M = some (some .null, M)) {n : Nat} : zrun X zmt call zm_265 (n + 8) 0 [(0, .ref 0), (1, .int va), (2, .int vb), (3, .int vc)] [] M = some (some (.int (-2)), M) := by
  refine zr_s0 rfl rfl rfl rfl ?_
  refine zr_s0 rfl rfl rfl rfl ?_
  refine zr_callV rfl rfl rfl rfl (by decide) h0 rfl ⟨Or.inl rfl, rfl, rfl, rfl, rfl, rfl, Nat.le_of_ble_eq_true rfl⟩ (hsys _) ?_
  refine zr_s0 rfl rfl rfl rfl ?_
  refine zr_s0 rfl rfl rfl rfl ?_
  refine zr_s0 rfl rfl rfl rfl ?_
  refine zr_s0 rfl rfl rfl rfl ?_
  exact zr_ret rfl rfl rfl
theorem x_find {va : Int32}(h0 : zob M 0 = some (.inr (11, zf_0)))(hsys : ∀ v, call 284 [.ref 0, .int v] M = some (some .null, M))(hw : call 255 [.ref 0] M = some (some (.int 0), M))(htk : ∀ v w, call 285 [.ref 0, .int v, .int w] M = some (some .null, M)) {n : Nat} : zrun X zmt call zm_266 (n + 12) 0 [(0, .ref 0), (1, .int va)] [] M = some (some (.int (-2)), M) := by
  refine zr_s0 rfl rfl rfl rfl ?_
  refine zr_callV rfl rfl rfl rfl (by decide) h0 rfl ⟨Or.inl rfl, rfl, rfl, rfl, rfl, rfl, Nat.le_of_ble_eq_true rfl⟩ hw ?_
  refine zr_s0 rfl rfl rfl rfl ?_
  refine zr_s0 rfl rfl rfl rfl ?_
  refine zr_s0 rfl rfl rfl rfl ?_
  refine zr_callV rfl rfl rfl rfl (by decide) h0 rfl ⟨Or.inl rfl, rfl, rfl, rfl, rfl, rfl, Nat.le_of_ble_eq_true rfl⟩ (hsys _) ?_
  refine zr_s0 rfl rfl rfl rfl ?_
  refine zr_s0 rfl rfl rfl rfl ?_
  refine zr_s0 rfl rfl rfl rfl ?_
  refine zr_s0 rfl rfl rfl rfl ?_
  refine zr_s0 rfl rfl rfl rfl ?_
  exact zr_ret rfl rfl rfl
theorem x_word {va vb vc : Int32}(h0 : zob M 0 = some (.inr (11, zf_0)))(hsys : ∀ v, call 284 [.ref 0, .int v] M = some (some .null, M))(hw : call 255 [.ref 0] M = some (some (.int 0), M))(htk : ∀ v w, call 285 [.ref 0, .int v, .int w] M = some (some .null, M)) {n : Nat} : zrun X zmt call zm_267 (n + 9) 0 [(0, .ref 0), (1, .int va), (2, .int vb), (3, .int vc)] [] M = some (some (.int (-2)), M) := by
  refine zr_s0 rfl rfl rfl rfl ?_
  refine zr_s0 rfl rfl rfl rfl ?_
  refine zr_callV rfl rfl rfl rfl (by decide) h0 rfl ⟨Or.inl rfl, rfl, rfl, rfl, rfl, rfl, Nat.le_of_ble_eq_true rfl⟩ (hsys _) ?_
  refine zr_s0 rfl rfl rfl rfl ?_
  refine zr_s0 rfl rfl rfl rfl ?_
  refine zr_s0 rfl rfl rfl rfl ?_
  refine zr_s0 rfl rfl rfl rfl ?_
  refine zr_s0 rfl rfl rfl rfl ?_
  exact zr_ret rfl rfl rfl
theorem x_name {va vb vc : Int32}(h0 : zob M 0 = some (.inr (11, zf_0)))(hsys : ∀ v, call 284 [.ref 0, .int v] M = some (some .null, M))(hw : call 255 [.ref 0] M = some (some (.int 0), M))(htk : ∀ v w, call 285 [.ref 0, .int v, .int w] M = some (some .null, M)) {n : Nat} : zrun X zmt call zm_268 (n + 9) 0 [(0, .ref 0), (1, .int va), (2, .int vb), (3, .int vc)] [] M = some (some (.int (-2)), M) := by
  refine zr_s0 rfl rfl rfl rfl ?_
  refine zr_s0 rfl rfl rfl rfl ?_
  refine zr_callV rfl rfl rfl rfl (by decide) h0 rfl ⟨Or.inl rfl, rfl, rfl, rfl, rfl, rfl, Nat.le_of_ble_eq_true rfl⟩ (hsys _) ?_
  refine zr_s0 rfl rfl rfl rfl ?_
  refine zr_s0 rfl rfl rfl rfl ?_
  refine zr_s0 rfl rfl rfl rfl ?_
  refine zr_s0 rfl rfl rfl rfl ?_
  refine zr_s0 rfl rfl rfl rfl ?_
  exact zr_ret rfl rfl rfl
theorem x_item {va vb vc : Int32}(h0 : zob M 0 = some (.inr (11, zf_0)))(hsys : ∀ v, call 284 [.ref 0, .int v] M = some (some .null, M))(hw : call 255 [.ref 0] M = some (some (.int 0), M))(htk : ∀ v w, call 285 [.ref 0, .int v, .int w] M = some (some .null, M)) {n : Nat} : zrun X zmt call zm_269 (n + 8) 0 [(0, .ref 0), (1, .int va), (2, .int vb), (3, .int vc)] [] M = some (some (.int (-2)), M) := by
  refine zr_s0 rfl rfl rfl rfl ?_
  refine zr_s0 rfl rfl rfl rfl ?_
  refine zr_callV rfl rfl rfl rfl (by decide) h0 rfl ⟨Or.inl rfl, rfl, rfl, rfl, rfl, rfl, Nat.le_of_ble_eq_true rfl⟩ (hsys _) ?_
  refine zr_s0 rfl rfl rfl rfl ?_
  refine zr_s0 rfl rfl rfl rfl ?_
  refine zr_s0 rfl rfl rfl rfl ?_
  refine zr_s0 rfl rfl rfl rfl ?_
  exact zr_ret rfl rfl rfl
theorem x_effect {va vb : Int32}(h0 : zob M 0 = some (.inr (11, zf_0)))(hsys : ∀ v, call 284 [.ref 0, .int v] M = some (some .null, M))(hw : call 255 [.ref 0] M = some (some (.int 0), M))(htk : ∀ v w, call 285 [.ref 0, .int v, .int w] M = some (some .null, M)) {n : Nat} : zrun X zmt call zm_270 (n + 8) 0 [(0, .ref 0), (1, .int va), (2, .int vb)] [] M = some (some (.int (-2)), M) := by
  refine zr_s0 rfl rfl rfl rfl ?_
  refine zr_s0 rfl rfl rfl rfl ?_
  refine zr_callV rfl rfl rfl rfl (by decide) h0 rfl ⟨Or.inl rfl, rfl, rfl, rfl, rfl, rfl, Nat.le_of_ble_eq_true rfl⟩ (hsys _) ?_
  refine zr_s0 rfl rfl rfl rfl ?_
  refine zr_s0 rfl rfl rfl rfl ?_
  refine zr_s0 rfl rfl rfl rfl ?_
  refine zr_s0 rfl rfl rfl rfl ?_
  exact zr_ret rfl rfl rfl
theorem x_effectOf {va vb vc : Int32}(h0 : zob M 0 = some (.inr (11, zf_0)))(hsys : ∀ v, call 284 [.ref 0, .int v] M = some (some .null, M))(hw : call 255 [.ref 0] M = some (some (.int 0), M))(htk : ∀ v w, call 285 [.ref 0, .int v, .int w] M = some (some .null, M)) {n : Nat} : zrun X zmt call zm_271 (n + 8) 0 [(0, .ref 0), (1, .int va), (2, .int vb), (3, .int vc)] [] M = some (some (.int (-2)), M) := by
  refine zr_s0 rfl rfl rfl rfl ?_
  refine zr_s0 rfl rfl rfl rfl ?_
  refine zr_callV rfl rfl rfl rfl (by decide) h0 rfl ⟨Or.inl rfl, rfl, rfl, rfl, rfl, rfl, Nat.le_of_ble_eq_true rfl⟩ (hsys _) ?_
  refine zr_s0 rfl rfl rfl rfl ?_
  refine zr_s0 rfl rfl rfl rfl ?_
  refine zr_s0 rfl rfl rfl rfl ?_
  refine zr_s0 rfl rfl rfl rfl ?_
  exact zr_ret rfl rfl rfl
theorem x_lean {va vb : Int32}(h0 : zob M 0 = some (.inr (11, zf_0)))(hsys : ∀ v, call 284 [.ref 0, .int v] M = some (some .null, M))(hw : call 255 [.ref 0] M = some (some (.int 0), M))(htk : ∀ v w, call 285 [.ref 0, .int v, .int w] M = some (some .null, M)) {n : Nat} : zrun X zmt call zm_272 (n + 8) 0 [(0, .ref 0), (1, .int va), (2, .int vb)] [] M = some (some (.int (-2)), M) := by
  refine zr_s0 rfl rfl rfl rfl ?_
  refine zr_s0 rfl rfl rfl rfl ?_
  refine zr_callV rfl rfl rfl rfl (by decide) h0 rfl ⟨Or.inl rfl, rfl, rfl, rfl, rfl, rfl, Nat.le_of_ble_eq_true rfl⟩ (hsys _) ?_
  refine zr_s0 rfl rfl rfl rfl ?_
  refine zr_s0 rfl rfl rfl rfl ?_
  refine zr_s0 rfl rfl rfl rfl ?_
  refine zr_s0 rfl rfl rfl rfl ?_
  exact zr_ret rfl rfl rfl
theorem x_chip {va vb : Int32}(h0 : zob M 0 = some (.inr (11, zf_0)))(hsys : ∀ v, call 284 [.ref 0, .int v] M = some (some .null, M))(hw : call 255 [.ref 0] M = some (some (.int 0), M))(htk : ∀ v w, call 285 [.ref 0, .int v, .int w] M = some (some .null, M)) {n : Nat} : zrun X zmt call zm_273 (n + 8) 0 [(0, .ref 0), (1, .int va), (2, .int vb)] [] M = some (some (.int (-2)), M) := by
  refine zr_s0 rfl rfl rfl rfl ?_
  refine zr_s0 rfl rfl rfl rfl ?_
  refine zr_callV rfl rfl rfl rfl (by decide) h0 rfl ⟨Or.inl rfl, rfl, rfl, rfl, rfl, rfl, Nat.le_of_ble_eq_true rfl⟩ (hsys _) ?_
  refine zr_s0 rfl rfl rfl rfl ?_
  refine zr_s0 rfl rfl rfl rfl ?_
  refine zr_s0 rfl rfl rfl rfl ?_
  refine zr_s0 rfl rfl rfl rfl ?_
  exact zr_ret rfl rfl rfl
theorem x_put {va vb vc : Int32}(h0 : zob M 0 = some (.inr (11, zf_0)))(hsys : ∀ v, call 284 [.ref 0, .int v] M = some (some .null, M))(hw : call 255 [.ref 0] M = some (some (.int 0), M))(htk : ∀ v w, call 285 [.ref 0, .int v, .int w] M = some (some .null, M)) {n : Nat} : zrun X zmt call zm_280 (n + 11) 0 [(0, .ref 0), (1, .int va), (2, .int vb), (3, .int vc)] [] M = some (some (.int (-2)), M) := by
  refine zr_s0 rfl rfl rfl rfl ?_
  refine zr_callV rfl rfl rfl rfl (by decide) h0 rfl ⟨Or.inl rfl, rfl, rfl, rfl, rfl, rfl, Nat.le_of_ble_eq_true rfl⟩ hw ?_
  refine zr_s0 rfl rfl rfl rfl ?_
  refine zr_s0 rfl rfl rfl rfl ?_
  refine zr_s0 rfl rfl rfl rfl ?_
  refine zr_callV rfl rfl rfl rfl (by decide) h0 rfl ⟨Or.inl rfl, rfl, rfl, rfl, rfl, rfl, Nat.le_of_ble_eq_true rfl⟩ (hsys _) ?_
  refine zr_s0 rfl rfl rfl rfl ?_
  refine zr_s0 rfl rfl rfl rfl ?_
  refine zr_s0 rfl rfl rfl rfl ?_
  refine zr_s0 rfl rfl rfl rfl ?_
  exact zr_ret rfl rfl rfl
theorem x_keep {va vb : Int32}(h0 : zob M 0 = some (.inr (11, zf_0)))(hsys : ∀ v, call 284 [.ref 0, .int v] M = some (some .null, M))(hw : call 255 [.ref 0] M = some (some (.int 0), M))(htk : ∀ v w, call 285 [.ref 0, .int v, .int w] M = some (some .null, M)) {n : Nat} : zrun X zmt call zm_281 (n + 8) 0 [(0, .ref 0), (1, .int va), (2, .int vb)] [] M = some (some (.int (-2)), M) := by
  refine zr_s0 rfl rfl rfl rfl ?_
  refine zr_s0 rfl rfl rfl rfl ?_
  refine zr_callV rfl rfl rfl rfl (by decide) h0 rfl ⟨Or.inl rfl, rfl, rfl, rfl, rfl, rfl, Nat.le_of_ble_eq_true rfl⟩ (hsys _) ?_
  refine zr_s0 rfl rfl rfl rfl ?_
  refine zr_s0 rfl rfl rfl rfl ?_
  refine zr_s0 rfl rfl rfl rfl ?_
  refine zr_s0 rfl rfl rfl rfl ?_
  exact zr_ret rfl rfl rfl
theorem x_same {va vb : Int32}(h0 : zob M 0 = some (.inr (11, zf_0)))(hsys : ∀ v, call 284 [.ref 0, .int v] M = some (some .null, M)) {n : Nat} : zrun X zmt call zm_283 (n + 12) 0 [(0, .ref 0), (1, .int va), (2, .int vb)] [] M = some (some (.int 0), M) := by
  refine zr_s0 rfl rfl rfl rfl ?_
  refine zr_s0 rfl rfl rfl rfl ?_
  refine zr_callV rfl rfl rfl rfl (by decide) h0 rfl ⟨Or.inl rfl, rfl, rfl, rfl, rfl, rfl, Nat.le_of_ble_eq_true rfl⟩ (hsys _) ?_
  refine zr_s0 rfl rfl rfl rfl ?_
  refine zr_s0 rfl rfl rfl rfl ?_
  refine zr_s0 rfl rfl rfl rfl ?_
  refine zr_callV rfl rfl rfl rfl (by decide) h0 rfl ⟨Or.inl rfl, rfl, rfl, rfl, rfl, rfl, Nat.le_of_ble_eq_true rfl⟩ (hsys _) ?_
  refine zr_s0 rfl rfl rfl rfl ?_
  refine zr_s0 rfl rfl rfl rfl ?_
  refine zr_s0 rfl rfl rfl rfl ?_
  refine zr_s0 rfl rfl rfl rfl ?_
  exact zr_ret rfl rfl rfl
theorem x_holds {va : Int32}(h5 : zob M 5 = some (.inr (0, zf_5))) {n : Nat} : zrun X zmt call zm_1 (n + 8) 0 [(0, .ref 5), (1, .int va)] [] M = some (some (.int 0), M) := by
  refine zr_s0 rfl rfl rfl rfl ?_
  refine zr_if (t := 16) rfl rfl (fun h1 => ?_) (fun h1 => ?_)
  · refine zr_s0 rfl rfl rfl rfl ?_
    exact zr_ret rfl rfl rfl
  · refine zr_s0 rfl rfl rfl rfl ?_
    refine zr_s0 rfl rfl rfl rfl ?_
    refine zr_get rfl rfl h5 rfl ?_
    refine zr_icmp (t := 16) rfl rfl (fun h9 => ?_) (fun h => zc_ltge h1 h)
    refine zr_s0 rfl rfl rfl rfl ?_
    exact zr_ret rfl rfl rfl
theorem x_receive {va : Int32}(h5 : zob M 5 = some (.inr (0, zf_5))) {n : Nat} : zrun X zmt call zm_11 (n + 6) 0 [(0, .ref 5), (1, .int va)] [] M = some (some (.int (-3)), M) := by
  refine zr_s0 rfl rfl rfl rfl ?_
  refine zr_get rfl rfl h5 rfl ?_
  refine zr_s0 rfl rfl rfl rfl ?_
  refine zr_icmp (t := 11) rfl rfl (fun h => absurd h (by decide)) (fun _ => ?_)
  refine zr_s0 rfl rfl rfl rfl ?_
  exact zr_ret rfl rfl rfl
theorem x_run {va : Int32}(h5 : zob M 5 = some (.inr (0, zf_5))) {n : Nat} : zrun X zmt call zm_12 (n + 5) 0 [(0, .ref 5), (1, .int va)] [] M = some (some (.int (-3)), M) := by
  refine zr_s0 rfl rfl rfl rfl ?_
  refine zr_get rfl rfl h5 rfl ?_
  refine zr_if (t := 10) rfl rfl (fun h => absurd h (by decide)) (fun _ => ?_)
  refine zr_s0 rfl rfl rfl rfl ?_
  exact zr_ret rfl rfl rfl
end ZNEW
end
