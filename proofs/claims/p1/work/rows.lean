section
-- ===== PART A: goes FIRST, ahead of the names: the tables' words, and 'selects' of the private methods out of them =====
/-- a private method of a class that the tables say can be made, by its rows of tables_1 -/
def lw_okq (q : MethodName × Nat) : Prop := (q.1.cls ≠ "java/lang/invoke/MethodHandle" ∧ q.1.cls ≠ "java/lang/invoke/VarHandle") ∧ Cond.instantiable q.1.cls q.2 ∈ tables_1 ∧ Cond.privateMethod q.1 ∈ tables_1 ∧ Cond.instanceMethod q.1 ∈ tables_1
theorem lw_p0 : lw_okq (⟨"ForthHouse$Words", "addLine", "(Ljava/lang/String;)V"⟩, 14) := ⟨⟨by decide +kernel, by decide +kernel⟩, List.mem_of_getElem? (i := 199) (by decide +kernel), List.mem_of_getElem? (i := 206) (by decide +kernel), List.mem_of_getElem? (i := 207) (by decide +kernel)⟩
theorem lw_p1 : lw_okq (⟨"ForthHouse", "systemOf", "(I)LForthHouse$Forth;"⟩, 7) := ⟨⟨by decide +kernel, by decide +kernel⟩, List.mem_of_getElem? (i := 22) (by decide +kernel), List.mem_of_getElem? (i := 753) (by decide +kernel), List.mem_of_getElem? (i := 754) (by decide +kernel)⟩
theorem lw_p2 : lw_okq (⟨"ForthHouse$Texts", "settle", "()V"⟩, 15) := ⟨⟨by decide +kernel, by decide +kernel⟩, List.mem_of_getElem? (i := 359) (by decide +kernel), List.mem_of_getElem? (i := 768) (by decide +kernel), List.mem_of_getElem? (i := 769) (by decide +kernel)⟩
theorem lw_p3 : lw_okq (⟨"ForthHouse$Forth", "step", "()I"⟩, 18) := ⟨⟨by decide +kernel, by decide +kernel⟩, List.mem_of_getElem? (i := 191) (by decide +kernel), List.mem_of_getElem? (i := 776) (by decide +kernel), List.mem_of_getElem? (i := 777) (by decide +kernel)⟩
theorem lw_p4 : lw_okq (⟨"ForthHouse$Forth", "hand", "()LForthHouse$Task;"⟩, 18) := ⟨⟨by decide +kernel, by decide +kernel⟩, List.mem_of_getElem? (i := 191) (by decide +kernel), List.mem_of_getElem? (i := 780) (by decide +kernel), List.mem_of_getElem? (i := 781) (by decide +kernel)⟩
theorem lw_p5 : lw_okq (⟨"ForthHouse$Forth", "beginTask", "(LForthHouse$Task;)I"⟩, 18) := ⟨⟨by decide +kernel, by decide +kernel⟩, List.mem_of_getElem? (i := 191) (by decide +kernel), List.mem_of_getElem? (i := 784) (by decide +kernel), List.mem_of_getElem? (i := 785) (by decide +kernel)⟩
theorem lw_p6 : lw_okq (⟨"ForthHouse$Forth", "ask", "(IZ)V"⟩, 18) := ⟨⟨by decide +kernel, by decide +kernel⟩, List.mem_of_getElem? (i := 191) (by decide +kernel), List.mem_of_getElem? (i := 792) (by decide +kernel), List.mem_of_getElem? (i := 793) (by decide +kernel)⟩
theorem lw_p7 : lw_okq (⟨"ForthHouse$Forth", "take", "(LForthHouse$Task;)I"⟩, 18) := ⟨⟨by decide +kernel, by decide +kernel⟩, List.mem_of_getElem? (i := 191) (by decide +kernel), List.mem_of_getElem? (i := 796) (by decide +kernel), List.mem_of_getElem? (i := 797) (by decide +kernel)⟩
theorem lw_p8 : lw_okq (⟨"ForthHouse$Forth", "takeFromBox", "(LForthHouse$Task;)I"⟩, 18) := ⟨⟨by decide +kernel, by decide +kernel⟩, List.mem_of_getElem? (i := 191) (by decide +kernel), List.mem_of_getElem? (i := 800) (by decide +kernel), List.mem_of_getElem? (i := 801) (by decide +kernel)⟩
theorem lw_p9 : lw_okq (⟨"ForthHouse$Forth", "itemStep", "(LForthHouse$Task;)I"⟩, 18) := ⟨⟨by decide +kernel, by decide +kernel⟩, List.mem_of_getElem? (i := 191) (by decide +kernel), List.mem_of_getElem? (i := 820) (by decide +kernel), List.mem_of_getElem? (i := 821) (by decide +kernel)⟩
theorem lw_p10 : lw_okq (⟨"ForthHouse$Forth", "does", "(LForthHouse$Task;I)I"⟩, 18) := ⟨⟨by decide +kernel, by decide +kernel⟩, List.mem_of_getElem? (i := 191) (by decide +kernel), List.mem_of_getElem? (i := 828) (by decide +kernel), List.mem_of_getElem? (i := 829) (by decide +kernel)⟩
theorem lw_p11 : lw_okq (⟨"ForthHouse$Forth", "assign", "(I)I"⟩, 18) := ⟨⟨by decide +kernel, by decide +kernel⟩, List.mem_of_getElem? (i := 191) (by decide +kernel), List.mem_of_getElem? (i := 846) (by decide +kernel), List.mem_of_getElem? (i := 847) (by decide +kernel)⟩
theorem lw_p12 : lw_okq (⟨"ForthHouse$Forth", "abort", "(LForthHouse$Task;)I"⟩, 18) := ⟨⟨by decide +kernel, by decide +kernel⟩, List.mem_of_getElem? (i := 191) (by decide +kernel), List.mem_of_getElem? (i := 858) (by decide +kernel), List.mem_of_getElem? (i := 859) (by decide +kernel)⟩
theorem lw_p13 : lw_okq (⟨"ForthHouse$Forth", "putOut", "(JJ)I"⟩, 18) := ⟨⟨by decide +kernel, by decide +kernel⟩, List.mem_of_getElem? (i := 191) (by decide +kernel), List.mem_of_getElem? (i := 866) (by decide +kernel), List.mem_of_getElem? (i := 867) (by decide +kernel)⟩
theorem lw_p14 : lw_okq (⟨"ForthHouse$Sink", "grow", "(J)V"⟩, 8) := ⟨⟨by decide +kernel, by decide +kernel⟩, List.mem_of_getElem? (i := 531) (by decide +kernel), List.mem_of_getElem? (i := 886) (by decide +kernel), List.mem_of_getElem? (i := 887) (by decide +kernel)⟩
theorem lw_p15 : lw_okq (⟨"ForthHouse$Forth", "endCatch", "(LForthHouse$Task;)I"⟩, 18) := ⟨⟨by decide +kernel, by decide +kernel⟩, List.mem_of_getElem? (i := 191) (by decide +kernel), List.mem_of_getElem? (i := 930) (by decide +kernel), List.mem_of_getElem? (i := 931) (by decide +kernel)⟩
def lw_privs_1 : List (MethodName × Nat) := [(⟨"ForthHouse$Words", "addLine", "(Ljava/lang/String;)V"⟩, 14), (⟨"ForthHouse", "systemOf", "(I)LForthHouse$Forth;"⟩, 7), (⟨"ForthHouse$Texts", "settle", "()V"⟩, 15), (⟨"ForthHouse$Forth", "step", "()I"⟩, 18), (⟨"ForthHouse$Forth", "hand", "()LForthHouse$Task;"⟩, 18), (⟨"ForthHouse$Forth", "beginTask", "(LForthHouse$Task;)I"⟩, 18), (⟨"ForthHouse$Forth", "ask", "(IZ)V"⟩, 18), (⟨"ForthHouse$Forth", "take", "(LForthHouse$Task;)I"⟩, 18), (⟨"ForthHouse$Forth", "takeFromBox", "(LForthHouse$Task;)I"⟩, 18), (⟨"ForthHouse$Forth", "itemStep", "(LForthHouse$Task;)I"⟩, 18), (⟨"ForthHouse$Forth", "does", "(LForthHouse$Task;I)I"⟩, 18), (⟨"ForthHouse$Forth", "assign", "(I)I"⟩, 18), (⟨"ForthHouse$Forth", "abort", "(LForthHouse$Task;)I"⟩, 18), (⟨"ForthHouse$Forth", "putOut", "(JJ)I"⟩, 18), (⟨"ForthHouse$Sink", "grow", "(J)V"⟩, 8), (⟨"ForthHouse$Forth", "endCatch", "(LForthHouse$Task;)I"⟩, 18)]
theorem lw_r1 : ∀ q ∈ lw_privs_1, lw_okq q := List.forall_mem_cons.mpr ⟨lw_p0, List.forall_mem_cons.mpr ⟨lw_p1, List.forall_mem_cons.mpr ⟨lw_p2, List.forall_mem_cons.mpr ⟨lw_p3, List.forall_mem_cons.mpr ⟨lw_p4, List.forall_mem_cons.mpr ⟨lw_p5, List.forall_mem_cons.mpr ⟨lw_p6, List.forall_mem_cons.mpr ⟨lw_p7, List.forall_mem_cons.mpr ⟨lw_p8, List.forall_mem_cons.mpr ⟨lw_p9, List.forall_mem_cons.mpr ⟨lw_p10, List.forall_mem_cons.mpr ⟨lw_p11, List.forall_mem_cons.mpr ⟨lw_p12, List.forall_mem_cons.mpr ⟨lw_p13, List.forall_mem_cons.mpr ⟨lw_p14, List.forall_mem_cons.mpr ⟨lw_p15, fun _ h => absurd h List.not_mem_nil⟩⟩⟩⟩⟩⟩⟩⟩⟩⟩⟩⟩⟩⟩⟩⟩
theorem lw_p16 : lw_okq (⟨"ForthHouse$Forth", "hasText", "()Z"⟩, 18) := ⟨⟨by decide +kernel, by decide +kernel⟩, List.mem_of_getElem? (i := 191) (by decide +kernel), List.mem_of_getElem? (i := 935) (by decide +kernel), List.mem_of_getElem? (i := 936) (by decide +kernel)⟩
theorem lw_p17 : lw_okq (⟨"ForthHouse$Forth", "textStep", "()I"⟩, 18) := ⟨⟨by decide +kernel, by decide +kernel⟩, List.mem_of_getElem? (i := 191) (by decide +kernel), List.mem_of_getElem? (i := 939) (by decide +kernel), List.mem_of_getElem? (i := 940) (by decide +kernel)⟩
theorem lw_p18 : lw_okq (⟨"ForthHouse$Forth", "endText", "()I"⟩, 18) := ⟨⟨by decide +kernel, by decide +kernel⟩, List.mem_of_getElem? (i := 191) (by decide +kernel), List.mem_of_getElem? (i := 958) (by decide +kernel), List.mem_of_getElem? (i := 959) (by decide +kernel)⟩
theorem lw_p19 : lw_okq (⟨"ForthHouse$Forth", "takeNumber", "()I"⟩, 18) := ⟨⟨by decide +kernel, by decide +kernel⟩, List.mem_of_getElem? (i := 191) (by decide +kernel), List.mem_of_getElem? (i := 990) (by decide +kernel), List.mem_of_getElem? (i := 991) (by decide +kernel)⟩
theorem lw_p20 : lw_okq (⟨"ForthHouse$Forth", "leave", "(JZ)I"⟩, 18) := ⟨⟨by decide +kernel, by decide +kernel⟩, List.mem_of_getElem? (i := 191) (by decide +kernel), List.mem_of_getElem? (i := 994) (by decide +kernel), List.mem_of_getElem? (i := 995) (by decide +kernel)⟩
theorem lw_p21 : lw_okq (⟨"ForthHouse$Forth", "endTask", "(I)I"⟩, 18) := ⟨⟨by decide +kernel, by decide +kernel⟩, List.mem_of_getElem? (i := 191) (by decide +kernel), List.mem_of_getElem? (i := 1017) (by decide +kernel), List.mem_of_getElem? (i := 1018) (by decide +kernel)⟩
theorem lw_p22 : lw_okq (⟨"ForthHouse$Forth", "handOn", "()Z"⟩, 18) := ⟨⟨by decide +kernel, by decide +kernel⟩, List.mem_of_getElem? (i := 191) (by decide +kernel), List.mem_of_getElem? (i := 1025) (by decide +kernel), List.mem_of_getElem? (i := 1026) (by decide +kernel)⟩
theorem lw_p23 : lw_okq (⟨"ForthHouse$Forth", "perform", "()I"⟩, 18) := ⟨⟨by decide +kernel, by decide +kernel⟩, List.mem_of_getElem? (i := 191) (by decide +kernel), List.mem_of_getElem? (i := 1029) (by decide +kernel), List.mem_of_getElem? (i := 1030) (by decide +kernel)⟩
theorem lw_p24 : lw_okq (⟨"ForthHouse$Forth", "doCreated", "(LForthHouse$Task;I)I"⟩, 18) := ⟨⟨by decide +kernel, by decide +kernel⟩, List.mem_of_getElem? (i := 191) (by decide +kernel), List.mem_of_getElem? (i := 1041) (by decide +kernel), List.mem_of_getElem? (i := 1042) (by decide +kernel)⟩
theorem lw_p25 : lw_okq (⟨"ForthHouse$Forth", "offer", "(LForthHouse$Task;I)I"⟩, 18) := ⟨⟨by decide +kernel, by decide +kernel⟩, List.mem_of_getElem? (i := 191) (by decide +kernel), List.mem_of_getElem? (i := 1045) (by decide +kernel), List.mem_of_getElem? (i := 1046) (by decide +kernel)⟩
theorem lw_p26 : lw_okq (⟨"ForthHouse$Forth", "goBack", "(LForthHouse$Task;I)I"⟩, 18) := ⟨⟨by decide +kernel, by decide +kernel⟩, List.mem_of_getElem? (i := 191) (by decide +kernel), List.mem_of_getElem? (i := 1049) (by decide +kernel), List.mem_of_getElem? (i := 1050) (by decide +kernel)⟩
theorem lw_p27 : lw_okq (⟨"ForthHouse$Forth", "printing", "(LForthHouse$Task;I)I"⟩, 18) := ⟨⟨by decide +kernel, by decide +kernel⟩, List.mem_of_getElem? (i := 191) (by decide +kernel), List.mem_of_getElem? (i := 1216) (by decide +kernel), List.mem_of_getElem? (i := 1217) (by decide +kernel)⟩
theorem lw_p28 : lw_okq (⟨"ForthHouse$Forth", "print", "(LForthHouse$Task;Z)I"⟩, 18) := ⟨⟨by decide +kernel, by decide +kernel⟩, List.mem_of_getElem? (i := 191) (by decide +kernel), List.mem_of_getElem? (i := 1220) (by decide +kernel), List.mem_of_getElem? (i := 1221) (by decide +kernel)⟩
theorem lw_p29 : lw_okq (⟨"ForthHouse$Forth", "sharp", "(LForthHouse$Task;Z)I"⟩, 18) := ⟨⟨by decide +kernel, by decide +kernel⟩, List.mem_of_getElem? (i := 191) (by decide +kernel), List.mem_of_getElem? (i := 1242) (by decide +kernel), List.mem_of_getElem? (i := 1243) (by decide +kernel)⟩
theorem lw_p30 : lw_okq (⟨"ForthHouse$Forth", "defining", "(LForthHouse$Task;I)I"⟩, 18) := ⟨⟨by decide +kernel, by decide +kernel⟩, List.mem_of_getElem? (i := 191) (by decide +kernel), List.mem_of_getElem? (i := 1255) (by decide +kernel), List.mem_of_getElem? (i := 1256) (by decide +kernel)⟩
theorem lw_p31 : lw_okq (⟨"ForthHouse$Forth", "readFor", "(I)I"⟩, 18) := ⟨⟨by decide +kernel, by decide +kernel⟩, List.mem_of_getElem? (i := 191) (by decide +kernel), List.mem_of_getElem? (i := 1259) (by decide +kernel), List.mem_of_getElem? (i := 1260) (by decide +kernel)⟩
def lw_privs_2 : List (MethodName × Nat) := [(⟨"ForthHouse$Forth", "hasText", "()Z"⟩, 18), (⟨"ForthHouse$Forth", "textStep", "()I"⟩, 18), (⟨"ForthHouse$Forth", "endText", "()I"⟩, 18), (⟨"ForthHouse$Forth", "takeNumber", "()I"⟩, 18), (⟨"ForthHouse$Forth", "leave", "(JZ)I"⟩, 18), (⟨"ForthHouse$Forth", "endTask", "(I)I"⟩, 18), (⟨"ForthHouse$Forth", "handOn", "()Z"⟩, 18), (⟨"ForthHouse$Forth", "perform", "()I"⟩, 18), (⟨"ForthHouse$Forth", "doCreated", "(LForthHouse$Task;I)I"⟩, 18), (⟨"ForthHouse$Forth", "offer", "(LForthHouse$Task;I)I"⟩, 18), (⟨"ForthHouse$Forth", "goBack", "(LForthHouse$Task;I)I"⟩, 18), (⟨"ForthHouse$Forth", "printing", "(LForthHouse$Task;I)I"⟩, 18), (⟨"ForthHouse$Forth", "print", "(LForthHouse$Task;Z)I"⟩, 18), (⟨"ForthHouse$Forth", "sharp", "(LForthHouse$Task;Z)I"⟩, 18), (⟨"ForthHouse$Forth", "defining", "(LForthHouse$Task;I)I"⟩, 18), (⟨"ForthHouse$Forth", "readFor", "(I)I"⟩, 18)]
theorem lw_r2 : ∀ q ∈ lw_privs_2, lw_okq q := List.forall_mem_cons.mpr ⟨lw_p16, List.forall_mem_cons.mpr ⟨lw_p17, List.forall_mem_cons.mpr ⟨lw_p18, List.forall_mem_cons.mpr ⟨lw_p19, List.forall_mem_cons.mpr ⟨lw_p20, List.forall_mem_cons.mpr ⟨lw_p21, List.forall_mem_cons.mpr ⟨lw_p22, List.forall_mem_cons.mpr ⟨lw_p23, List.forall_mem_cons.mpr ⟨lw_p24, List.forall_mem_cons.mpr ⟨lw_p25, List.forall_mem_cons.mpr ⟨lw_p26, List.forall_mem_cons.mpr ⟨lw_p27, List.forall_mem_cons.mpr ⟨lw_p28, List.forall_mem_cons.mpr ⟨lw_p29, List.forall_mem_cons.mpr ⟨lw_p30, List.forall_mem_cons.mpr ⟨lw_p31, fun _ h => absurd h List.not_mem_nil⟩⟩⟩⟩⟩⟩⟩⟩⟩⟩⟩⟩⟩⟩⟩⟩
theorem lw_p32 : lw_okq (⟨"ForthHouse$Forth", "beginDefinition", "(I)I"⟩, 18) := ⟨⟨by decide +kernel, by decide +kernel⟩, List.mem_of_getElem? (i := 191) (by decide +kernel), List.mem_of_getElem? (i := 1263) (by decide +kernel), List.mem_of_getElem? (i := 1264) (by decide +kernel)⟩
theorem lw_p33 : lw_okq (⟨"ForthHouse$Forth", "endDefinition", "(LForthHouse$Task;)I"⟩, 18) := ⟨⟨by decide +kernel, by decide +kernel⟩, List.mem_of_getElem? (i := 191) (by decide +kernel), List.mem_of_getElem? (i := 1280) (by decide +kernel), List.mem_of_getElem? (i := 1281) (by decide +kernel)⟩
theorem lw_p34 : lw_okq (⟨"ForthHouse$Making", "base", "()I"⟩, 15) := ⟨⟨by decide +kernel, by decide +kernel⟩, List.mem_of_getElem? (i := 421) (by decide +kernel), List.mem_of_getElem? (i := 1288) (by decide +kernel), List.mem_of_getElem? (i := 1289) (by decide +kernel)⟩
theorem lw_p35 : lw_okq (⟨"ForthHouse$Forth", "finish", "()V"⟩, 18) := ⟨⟨by decide +kernel, by decide +kernel⟩, List.mem_of_getElem? (i := 191) (by decide +kernel), List.mem_of_getElem? (i := 1292) (by decide +kernel), List.mem_of_getElem? (i := 1293) (by decide +kernel)⟩
theorem lw_p36 : lw_okq (⟨"ForthHouse$Forth", "makeValue", "(LForthHouse$Task;I)I"⟩, 18) := ⟨⟨by decide +kernel, by decide +kernel⟩, List.mem_of_getElem? (i := 191) (by decide +kernel), List.mem_of_getElem? (i := 1304) (by decide +kernel), List.mem_of_getElem? (i := 1305) (by decide +kernel)⟩
theorem lw_p37 : lw_okq (⟨"ForthHouse$Forth", "makeWord", "(I)I"⟩, 18) := ⟨⟨by decide +kernel, by decide +kernel⟩, List.mem_of_getElem? (i := 191) (by decide +kernel), List.mem_of_getElem? (i := 1308) (by decide +kernel), List.mem_of_getElem? (i := 1309) (by decide +kernel)⟩
theorem lw_p38 : lw_okq (⟨"ForthHouse$Forth", "makeImmediate", "()I"⟩, 18) := ⟨⟨by decide +kernel, by decide +kernel⟩, List.mem_of_getElem? (i := 191) (by decide +kernel), List.mem_of_getElem? (i := 1317) (by decide +kernel), List.mem_of_getElem? (i := 1318) (by decide +kernel)⟩
theorem lw_p39 : lw_okq (⟨"ForthHouse$Forth", "tick", "(LForthHouse$Task;I)I"⟩, 18) := ⟨⟨by decide +kernel, by decide +kernel⟩, List.mem_of_getElem? (i := 191) (by decide +kernel), List.mem_of_getElem? (i := 1325) (by decide +kernel), List.mem_of_getElem? (i := 1326) (by decide +kernel)⟩
theorem lw_p40 : lw_okq (⟨"ForthHouse$Forth", "setNamed", "(I)I"⟩, 18) := ⟨⟨by decide +kernel, by decide +kernel⟩, List.mem_of_getElem? (i := 191) (by decide +kernel), List.mem_of_getElem? (i := 1329) (by decide +kernel), List.mem_of_getElem? (i := 1330) (by decide +kernel)⟩
theorem lw_p41 : lw_okq (⟨"ForthHouse$Forth", "addDoes", "()I"⟩, 18) := ⟨⟨by decide +kernel, by decide +kernel⟩, List.mem_of_getElem? (i := 191) (by decide +kernel), List.mem_of_getElem? (i := 1333) (by decide +kernel), List.mem_of_getElem? (i := 1334) (by decide +kernel)⟩
theorem lw_p42 : lw_okq (⟨"ForthHouse$Forth", "string", "(LForthHouse$Task;I)I"⟩, 18) := ⟨⟨by decide +kernel, by decide +kernel⟩, List.mem_of_getElem? (i := 191) (by decide +kernel), List.mem_of_getElem? (i := 1341) (by decide +kernel), List.mem_of_getElem? (i := 1342) (by decide +kernel)⟩
theorem lw_p43 : lw_okq (⟨"ForthHouse$Forth", "readLocals", "()I"⟩, 18) := ⟨⟨by decide +kernel, by decide +kernel⟩, List.mem_of_getElem? (i := 191) (by decide +kernel), List.mem_of_getElem? (i := 1359) (by decide +kernel), List.mem_of_getElem? (i := 1360) (by decide +kernel)⟩
theorem lw_p44 : lw_okq (⟨"ForthHouse$Forth", "addLocals", "(II)I"⟩, 18) := ⟨⟨by decide +kernel, by decide +kernel⟩, List.mem_of_getElem? (i := 191) (by decide +kernel), List.mem_of_getElem? (i := 1368) (by decide +kernel), List.mem_of_getElem? (i := 1369) (by decide +kernel)⟩
theorem lw_p45 : lw_okq (⟨"ForthHouse$Forth", "beginQuotation", "()I"⟩, 18) := ⟨⟨by decide +kernel, by decide +kernel⟩, List.mem_of_getElem? (i := 191) (by decide +kernel), List.mem_of_getElem? (i := 1382) (by decide +kernel), List.mem_of_getElem? (i := 1383) (by decide +kernel)⟩
theorem lw_p46 : lw_okq (⟨"ForthHouse$Forth", "endQuotation", "()I"⟩, 18) := ⟨⟨by decide +kernel, by decide +kernel⟩, List.mem_of_getElem? (i := 191) (by decide +kernel), List.mem_of_getElem? (i := 1386) (by decide +kernel), List.mem_of_getElem? (i := 1387) (by decide +kernel)⟩
theorem lw_p47 : lw_okq (⟨"ForthHouse$Forth", "evaluateText", "(LForthHouse$Task;)I"⟩, 18) := ⟨⟨by decide +kernel, by decide +kernel⟩, List.mem_of_getElem? (i := 191) (by decide +kernel), List.mem_of_getElem? (i := 1395) (by decide +kernel), List.mem_of_getElem? (i := 1396) (by decide +kernel)⟩
def lw_privs_3 : List (MethodName × Nat) := [(⟨"ForthHouse$Forth", "beginDefinition", "(I)I"⟩, 18), (⟨"ForthHouse$Forth", "endDefinition", "(LForthHouse$Task;)I"⟩, 18), (⟨"ForthHouse$Making", "base", "()I"⟩, 15), (⟨"ForthHouse$Forth", "finish", "()V"⟩, 18), (⟨"ForthHouse$Forth", "makeValue", "(LForthHouse$Task;I)I"⟩, 18), (⟨"ForthHouse$Forth", "makeWord", "(I)I"⟩, 18), (⟨"ForthHouse$Forth", "makeImmediate", "()I"⟩, 18), (⟨"ForthHouse$Forth", "tick", "(LForthHouse$Task;I)I"⟩, 18), (⟨"ForthHouse$Forth", "setNamed", "(I)I"⟩, 18), (⟨"ForthHouse$Forth", "addDoes", "()I"⟩, 18), (⟨"ForthHouse$Forth", "string", "(LForthHouse$Task;I)I"⟩, 18), (⟨"ForthHouse$Forth", "readLocals", "()I"⟩, 18), (⟨"ForthHouse$Forth", "addLocals", "(II)I"⟩, 18), (⟨"ForthHouse$Forth", "beginQuotation", "()I"⟩, 18), (⟨"ForthHouse$Forth", "endQuotation", "()I"⟩, 18), (⟨"ForthHouse$Forth", "evaluateText", "(LForthHouse$Task;)I"⟩, 18)]
theorem lw_r3 : ∀ q ∈ lw_privs_3, lw_okq q := List.forall_mem_cons.mpr ⟨lw_p32, List.forall_mem_cons.mpr ⟨lw_p33, List.forall_mem_cons.mpr ⟨lw_p34, List.forall_mem_cons.mpr ⟨lw_p35, List.forall_mem_cons.mpr ⟨lw_p36, List.forall_mem_cons.mpr ⟨lw_p37, List.forall_mem_cons.mpr ⟨lw_p38, List.forall_mem_cons.mpr ⟨lw_p39, List.forall_mem_cons.mpr ⟨lw_p40, List.forall_mem_cons.mpr ⟨lw_p41, List.forall_mem_cons.mpr ⟨lw_p42, List.forall_mem_cons.mpr ⟨lw_p43, List.forall_mem_cons.mpr ⟨lw_p44, List.forall_mem_cons.mpr ⟨lw_p45, List.forall_mem_cons.mpr ⟨lw_p46, List.forall_mem_cons.mpr ⟨lw_p47, fun _ h => absurd h List.not_mem_nil⟩⟩⟩⟩⟩⟩⟩⟩⟩⟩⟩⟩⟩⟩⟩⟩
theorem lw_p48 : lw_okq (⟨"ForthHouse$Forth", "nest", "(LForthHouse$Task;III)I"⟩, 18) := ⟨⟨by decide +kernel, by decide +kernel⟩, List.mem_of_getElem? (i := 191) (by decide +kernel), List.mem_of_getElem? (i := 1399) (by decide +kernel), List.mem_of_getElem? (i := 1400) (by decide +kernel)⟩
theorem lw_p49 : lw_okq (⟨"ForthHouse$Forth", "doToken", "(LForthHouse$Task;I)I"⟩, 18) := ⟨⟨by decide +kernel, by decide +kernel⟩, List.mem_of_getElem? (i := 191) (by decide +kernel), List.mem_of_getElem? (i := 1408) (by decide +kernel), List.mem_of_getElem? (i := 1409) (by decide +kernel)⟩
theorem lw_p50 : lw_okq (⟨"ForthHouse$Making", "branch", "(II)I"⟩, 15) := ⟨⟨by decide +kernel, by decide +kernel⟩, List.mem_of_getElem? (i := 421) (by decide +kernel), List.mem_of_getElem? (i := 1416) (by decide +kernel), List.mem_of_getElem? (i := 1417) (by decide +kernel)⟩
theorem lw_p51 : lw_okq (⟨"ForthHouse$Making", "setPair", "(III)V"⟩, 15) := ⟨⟨by decide +kernel, by decide +kernel⟩, List.mem_of_getElem? (i := 421) (by decide +kernel), List.mem_of_getElem? (i := 1421) (by decide +kernel), List.mem_of_getElem? (i := 1422) (by decide +kernel)⟩
theorem lw_p52 : lw_okq (⟨"ForthHouse$Making", "pair", "(II)I"⟩, 15) := ⟨⟨by decide +kernel, by decide +kernel⟩, List.mem_of_getElem? (i := 421) (by decide +kernel), List.mem_of_getElem? (i := 1426) (by decide +kernel), List.mem_of_getElem? (i := 1427) (by decide +kernel)⟩
theorem lw_p53 : lw_okq (⟨"ForthHouse$Making", "then", "()I"⟩, 15) := ⟨⟨by decide +kernel, by decide +kernel⟩, List.mem_of_getElem? (i := 421) (by decide +kernel), List.mem_of_getElem? (i := 1430) (by decide +kernel), List.mem_of_getElem? (i := 1431) (by decide +kernel)⟩
theorem lw_p54 : lw_okq (⟨"ForthHouse$Making", "kindAt", "(I)I"⟩, 15) := ⟨⟨by decide +kernel, by decide +kernel⟩, List.mem_of_getElem? (i := 421) (by decide +kernel), List.mem_of_getElem? (i := 1434) (by decide +kernel), List.mem_of_getElem? (i := 1435) (by decide +kernel)⟩
theorem lw_p55 : lw_okq (⟨"ForthHouse$Making", "placeAt", "(I)I"⟩, 15) := ⟨⟨by decide +kernel, by decide +kernel⟩, List.mem_of_getElem? (i := 421) (by decide +kernel), List.mem_of_getElem? (i := 1438) (by decide +kernel), List.mem_of_getElem? (i := 1439) (by decide +kernel)⟩
theorem lw_p56 : lw_okq (⟨"ForthHouse$Making", "otherwise", "(II)I"⟩, 15) := ⟨⟨by decide +kernel, by decide +kernel⟩, List.mem_of_getElem? (i := 421) (by decide +kernel), List.mem_of_getElem? (i := 1443) (by decide +kernel), List.mem_of_getElem? (i := 1444) (by decide +kernel)⟩
theorem lw_p57 : lw_okq (⟨"ForthHouse$Making", "back", "(I)I"⟩, 15) := ⟨⟨by decide +kernel, by decide +kernel⟩, List.mem_of_getElem? (i := 421) (by decide +kernel), List.mem_of_getElem? (i := 1447) (by decide +kernel), List.mem_of_getElem? (i := 1448) (by decide +kernel)⟩
theorem lw_p58 : lw_okq (⟨"ForthHouse$Making", "during", "()I"⟩, 15) := ⟨⟨by decide +kernel, by decide +kernel⟩, List.mem_of_getElem? (i := 421) (by decide +kernel), List.mem_of_getElem? (i := 1451) (by decide +kernel), List.mem_of_getElem? (i := 1452) (by decide +kernel)⟩
theorem lw_p59 : lw_okq (⟨"ForthHouse$Making", "repeat", "()I"⟩, 15) := ⟨⟨by decide +kernel, by decide +kernel⟩, List.mem_of_getElem? (i := 421) (by decide +kernel), List.mem_of_getElem? (i := 1455) (by decide +kernel), List.mem_of_getElem? (i := 1456) (by decide +kernel)⟩
theorem lw_p60 : lw_okq (⟨"ForthHouse$Making", "endLoop", "(I)I"⟩, 15) := ⟨⟨by decide +kernel, by decide +kernel⟩, List.mem_of_getElem? (i := 421) (by decide +kernel), List.mem_of_getElem? (i := 1459) (by decide +kernel), List.mem_of_getElem? (i := 1460) (by decide +kernel)⟩
theorem lw_p61 : lw_okq (⟨"ForthHouse$Making", "leave", "()I"⟩, 15) := ⟨⟨by decide +kernel, by decide +kernel⟩, List.mem_of_getElem? (i := 421) (by decide +kernel), List.mem_of_getElem? (i := 1467) (by decide +kernel), List.mem_of_getElem? (i := 1468) (by decide +kernel)⟩
theorem lw_p62 : lw_okq (⟨"ForthHouse$Making", "endCase", "()I"⟩, 15) := ⟨⟨by decide +kernel, by decide +kernel⟩, List.mem_of_getElem? (i := 421) (by decide +kernel), List.mem_of_getElem? (i := 1471) (by decide +kernel), List.mem_of_getElem? (i := 1472) (by decide +kernel)⟩
theorem lw_p63 : lw_okq (⟨"ForthHouse$Forth", "tasking", "(LForthHouse$Task;I)I"⟩, 18) := ⟨⟨by decide +kernel, by decide +kernel⟩, List.mem_of_getElem? (i := 191) (by decide +kernel), List.mem_of_getElem? (i := 1475) (by decide +kernel), List.mem_of_getElem? (i := 1476) (by decide +kernel)⟩
def lw_privs_4 : List (MethodName × Nat) := [(⟨"ForthHouse$Forth", "nest", "(LForthHouse$Task;III)I"⟩, 18), (⟨"ForthHouse$Forth", "doToken", "(LForthHouse$Task;I)I"⟩, 18), (⟨"ForthHouse$Making", "branch", "(II)I"⟩, 15), (⟨"ForthHouse$Making", "setPair", "(III)V"⟩, 15), (⟨"ForthHouse$Making", "pair", "(II)I"⟩, 15), (⟨"ForthHouse$Making", "then", "()I"⟩, 15), (⟨"ForthHouse$Making", "kindAt", "(I)I"⟩, 15), (⟨"ForthHouse$Making", "placeAt", "(I)I"⟩, 15), (⟨"ForthHouse$Making", "otherwise", "(II)I"⟩, 15), (⟨"ForthHouse$Making", "back", "(I)I"⟩, 15), (⟨"ForthHouse$Making", "during", "()I"⟩, 15), (⟨"ForthHouse$Making", "repeat", "()I"⟩, 15), (⟨"ForthHouse$Making", "endLoop", "(I)I"⟩, 15), (⟨"ForthHouse$Making", "leave", "()I"⟩, 15), (⟨"ForthHouse$Making", "endCase", "()I"⟩, 15), (⟨"ForthHouse$Forth", "tasking", "(LForthHouse$Task;I)I"⟩, 18)]
theorem lw_r4 : ∀ q ∈ lw_privs_4, lw_okq q := List.forall_mem_cons.mpr ⟨lw_p48, List.forall_mem_cons.mpr ⟨lw_p49, List.forall_mem_cons.mpr ⟨lw_p50, List.forall_mem_cons.mpr ⟨lw_p51, List.forall_mem_cons.mpr ⟨lw_p52, List.forall_mem_cons.mpr ⟨lw_p53, List.forall_mem_cons.mpr ⟨lw_p54, List.forall_mem_cons.mpr ⟨lw_p55, List.forall_mem_cons.mpr ⟨lw_p56, List.forall_mem_cons.mpr ⟨lw_p57, List.forall_mem_cons.mpr ⟨lw_p58, List.forall_mem_cons.mpr ⟨lw_p59, List.forall_mem_cons.mpr ⟨lw_p60, List.forall_mem_cons.mpr ⟨lw_p61, List.forall_mem_cons.mpr ⟨lw_p62, List.forall_mem_cons.mpr ⟨lw_p63, fun _ h => absurd h List.not_mem_nil⟩⟩⟩⟩⟩⟩⟩⟩⟩⟩⟩⟩⟩⟩⟩⟩
theorem lw_p64 : lw_okq (⟨"ForthHouse$Forth", "beginCatch", "(LForthHouse$Task;)I"⟩, 18) := ⟨⟨by decide +kernel, by decide +kernel⟩, List.mem_of_getElem? (i := 191) (by decide +kernel), List.mem_of_getElem? (i := 1479) (by decide +kernel), List.mem_of_getElem? (i := 1480) (by decide +kernel)⟩
theorem lw_p65 : lw_okq (⟨"ForthHouse$Forth", "makeTask", "(LForthHouse$Task;)I"⟩, 18) := ⟨⟨by decide +kernel, by decide +kernel⟩, List.mem_of_getElem? (i := 191) (by decide +kernel), List.mem_of_getElem? (i := 1500) (by decide +kernel), List.mem_of_getElem? (i := 1501) (by decide +kernel)⟩
theorem lw_p66 : lw_okq (⟨"ForthHouse$Forth", "send", "(LForthHouse$Task;)I"⟩, 18) := ⟨⟨by decide +kernel, by decide +kernel⟩, List.mem_of_getElem? (i := 191) (by decide +kernel), List.mem_of_getElem? (i := 1504) (by decide +kernel), List.mem_of_getElem? (i := 1505) (by decide +kernel)⟩
theorem lw_p67 : lw_okq (⟨"ForthHouse$Forth", "receive", "(LForthHouse$Task;)I"⟩, 18) := ⟨⟨by decide +kernel, by decide +kernel⟩, List.mem_of_getElem? (i := 191) (by decide +kernel), List.mem_of_getElem? (i := 1509) (by decide +kernel), List.mem_of_getElem? (i := 1510) (by decide +kernel)⟩
theorem lw_p68 : lw_okq (⟨"ForthHouse$Forth", "load", "(LForthHouse$Task;)I"⟩, 18) := ⟨⟨by decide +kernel, by decide +kernel⟩, List.mem_of_getElem? (i := 191) (by decide +kernel), List.mem_of_getElem? (i := 1513) (by decide +kernel), List.mem_of_getElem? (i := 1514) (by decide +kernel)⟩
theorem lw_p69 : lw_okq (⟨"ForthHouse$Judge", "pass", "()V"⟩, 20) := ⟨⟨by decide +kernel, by decide +kernel⟩, List.mem_of_getElem? (i := 566) (by decide +kernel), List.mem_of_getElem? (i := 1536) (by decide +kernel), List.mem_of_getElem? (i := 1537) (by decide +kernel)⟩
theorem lw_p70 : lw_okq (⟨"ForthHouse$Judge", "arrive", "(IIII)V"⟩, 20) := ⟨⟨by decide +kernel, by decide +kernel⟩, List.mem_of_getElem? (i := 566) (by decide +kernel), List.mem_of_getElem? (i := 1540) (by decide +kernel), List.mem_of_getElem? (i := 1541) (by decide +kernel)⟩
theorem lw_p71 : lw_okq (⟨"ForthHouse$Judge", "leastWaiting", "()I"⟩, 20) := ⟨⟨by decide +kernel, by decide +kernel⟩, List.mem_of_getElem? (i := 566) (by decide +kernel), List.mem_of_getElem? (i := 1544) (by decide +kernel), List.mem_of_getElem? (i := 1545) (by decide +kernel)⟩
theorem lw_p72 : lw_okq (⟨"ForthHouse$Judge", "look", "(I)V"⟩, 20) := ⟨⟨by decide +kernel, by decide +kernel⟩, List.mem_of_getElem? (i := 566) (by decide +kernel), List.mem_of_getElem? (i := 1548) (by decide +kernel), List.mem_of_getElem? (i := 1549) (by decide +kernel)⟩
theorem lw_p73 : lw_okq (⟨"ForthHouse$Judge", "lookBuiltIn", "(II)V"⟩, 20) := ⟨⟨by decide +kernel, by decide +kernel⟩, List.mem_of_getElem? (i := 566) (by decide +kernel), List.mem_of_getElem? (i := 1553) (by decide +kernel), List.mem_of_getElem? (i := 1554) (by decide +kernel)⟩
theorem lw_p74 : lw_okq (⟨"ForthHouse$Judge", "leaveAt", "(I)V"⟩, 20) := ⟨⟨by decide +kernel, by decide +kernel⟩, List.mem_of_getElem? (i := 566) (by decide +kernel), List.mem_of_getElem? (i := 1557) (by decide +kernel), List.mem_of_getElem? (i := 1558) (by decide +kernel)⟩
theorem lw_p75 : lw_okq (⟨"ForthHouse$Judge", "stop", "(II)V"⟩, 20) := ⟨⟨by decide +kernel, by decide +kernel⟩, List.mem_of_getElem? (i := 566) (by decide +kernel), List.mem_of_getElem? (i := 1561) (by decide +kernel), List.mem_of_getElem? (i := 1562) (by decide +kernel)⟩
theorem lw_p76 : lw_okq (⟨"ForthHouse$Judge", "take", "(II)V"⟩, 20) := ⟨⟨by decide +kernel, by decide +kernel⟩, List.mem_of_getElem? (i := 566) (by decide +kernel), List.mem_of_getElem? (i := 1567) (by decide +kernel), List.mem_of_getElem? (i := 1568) (by decide +kernel)⟩
theorem lw_p77 : lw_okq (⟨"ForthHouse$Judge", "lookWord", "(II)V"⟩, 20) := ⟨⟨by decide +kernel, by decide +kernel⟩, List.mem_of_getElem? (i := 566) (by decide +kernel), List.mem_of_getElem? (i := 1572) (by decide +kernel), List.mem_of_getElem? (i := 1573) (by decide +kernel)⟩
theorem lw_p78 : lw_okq (⟨"ForthHouse$Judge", "goOn", "(III)V"⟩, 20) := ⟨⟨by decide +kernel, by decide +kernel⟩, List.mem_of_getElem? (i := 566) (by decide +kernel), List.mem_of_getElem? (i := 1577) (by decide +kernel), List.mem_of_getElem? (i := 1578) (by decide +kernel)⟩
theorem lw_p79 : lw_okq (⟨"ForthHouse$Judge", "lookLoop", "(II)V"⟩, 20) := ⟨⟨by decide +kernel, by decide +kernel⟩, List.mem_of_getElem? (i := 566) (by decide +kernel), List.mem_of_getElem? (i := 1581) (by decide +kernel), List.mem_of_getElem? (i := 1582) (by decide +kernel)⟩
def lw_privs_5 : List (MethodName × Nat) := [(⟨"ForthHouse$Forth", "beginCatch", "(LForthHouse$Task;)I"⟩, 18), (⟨"ForthHouse$Forth", "makeTask", "(LForthHouse$Task;)I"⟩, 18), (⟨"ForthHouse$Forth", "send", "(LForthHouse$Task;)I"⟩, 18), (⟨"ForthHouse$Forth", "receive", "(LForthHouse$Task;)I"⟩, 18), (⟨"ForthHouse$Forth", "load", "(LForthHouse$Task;)I"⟩, 18), (⟨"ForthHouse$Judge", "pass", "()V"⟩, 20), (⟨"ForthHouse$Judge", "arrive", "(IIII)V"⟩, 20), (⟨"ForthHouse$Judge", "leastWaiting", "()I"⟩, 20), (⟨"ForthHouse$Judge", "look", "(I)V"⟩, 20), (⟨"ForthHouse$Judge", "lookBuiltIn", "(II)V"⟩, 20), (⟨"ForthHouse$Judge", "leaveAt", "(I)V"⟩, 20), (⟨"ForthHouse$Judge", "stop", "(II)V"⟩, 20), (⟨"ForthHouse$Judge", "take", "(II)V"⟩, 20), (⟨"ForthHouse$Judge", "lookWord", "(II)V"⟩, 20), (⟨"ForthHouse$Judge", "goOn", "(III)V"⟩, 20), (⟨"ForthHouse$Judge", "lookLoop", "(II)V"⟩, 20)]
theorem lw_r5 : ∀ q ∈ lw_privs_5, lw_okq q := List.forall_mem_cons.mpr ⟨lw_p64, List.forall_mem_cons.mpr ⟨lw_p65, List.forall_mem_cons.mpr ⟨lw_p66, List.forall_mem_cons.mpr ⟨lw_p67, List.forall_mem_cons.mpr ⟨lw_p68, List.forall_mem_cons.mpr ⟨lw_p69, List.forall_mem_cons.mpr ⟨lw_p70, List.forall_mem_cons.mpr ⟨lw_p71, List.forall_mem_cons.mpr ⟨lw_p72, List.forall_mem_cons.mpr ⟨lw_p73, List.forall_mem_cons.mpr ⟨lw_p74, List.forall_mem_cons.mpr ⟨lw_p75, List.forall_mem_cons.mpr ⟨lw_p76, List.forall_mem_cons.mpr ⟨lw_p77, List.forall_mem_cons.mpr ⟨lw_p78, List.forall_mem_cons.mpr ⟨lw_p79, fun _ h => absurd h List.not_mem_nil⟩⟩⟩⟩⟩⟩⟩⟩⟩⟩⟩⟩⟩⟩⟩⟩
theorem lw_p80 : lw_okq (⟨"ForthHouse$Forth", "unwind", "(I)I"⟩, 18) := ⟨⟨by decide +kernel, by decide +kernel⟩, List.mem_of_getElem? (i := 191) (by decide +kernel), List.mem_of_getElem? (i := 1585) (by decide +kernel), List.mem_of_getElem? (i := 1586) (by decide +kernel)⟩
theorem lw_p81 : lw_okq (⟨"ForthHouse$Forth", "throwOut", "(I)V"⟩, 18) := ⟨⟨by decide +kernel, by decide +kernel⟩, List.mem_of_getElem? (i := 191) (by decide +kernel), List.mem_of_getElem? (i := 1597) (by decide +kernel), List.mem_of_getElem? (i := 1598) (by decide +kernel)⟩
theorem lw_p82 : lw_okq (⟨"ForthHouse", "taskOf", "(II)LForthHouse$Task;"⟩, 7) := ⟨⟨by decide +kernel, by decide +kernel⟩, List.mem_of_getElem? (i := 22) (by decide +kernel), List.mem_of_getElem? (i := 1634) (by decide +kernel), List.mem_of_getElem? (i := 1635) (by decide +kernel)⟩
theorem lw_p83 : lw_okq (⟨"ForthHouse$Judge", "leanOnce", "()I"⟩, 20) := ⟨⟨by decide +kernel, by decide +kernel⟩, List.mem_of_getElem? (i := 566) (by decide +kernel), List.mem_of_getElem? (i := 1714) (by decide +kernel), List.mem_of_getElem? (i := 1715) (by decide +kernel)⟩
theorem lw_p84 : lw_okq (⟨"ForthHouse$Judge", "markTargets", "()V"⟩, 20) := ⟨⟨by decide +kernel, by decide +kernel⟩, List.mem_of_getElem? (i := 566) (by decide +kernel), List.mem_of_getElem? (i := 1718) (by decide +kernel), List.mem_of_getElem? (i := 1719) (by decide +kernel)⟩
theorem lw_p85 : lw_okq (⟨"ForthHouse$Judge", "remove", "(II)I"⟩, 20) := ⟨⟨by decide +kernel, by decide +kernel⟩, List.mem_of_getElem? (i := 566) (by decide +kernel), List.mem_of_getElem? (i := 1726) (by decide +kernel), List.mem_of_getElem? (i := 1727) (by decide +kernel)⟩
theorem lw_p86 : lw_okq (⟨"ForthHouse$Judge", "goes", "(I)Z"⟩, 20) := ⟨⟨by decide +kernel, by decide +kernel⟩, List.mem_of_getElem? (i := 566) (by decide +kernel), List.mem_of_getElem? (i := 1730) (by decide +kernel), List.mem_of_getElem? (i := 1731) (by decide +kernel)⟩
theorem lw_p87 : lw_okq (⟨"ForthHouse$Judge", "reckoned", "(III)I"⟩, 20) := ⟨⟨by decide +kernel, by decide +kernel⟩, List.mem_of_getElem? (i := 566) (by decide +kernel), List.mem_of_getElem? (i := 1741) (by decide +kernel), List.mem_of_getElem? (i := 1742) (by decide +kernel)⟩
theorem lw_p88 : lw_okq (⟨"ForthHouse$Chip", "plan", "(LForthHouse$Forth;I)I"⟩, 11) := ⟨⟨by decide +kernel, by decide +kernel⟩, List.mem_of_getElem? (i := 32) (by decide +kernel), List.mem_of_getElem? (i := 1762) (by decide +kernel), List.mem_of_getElem? (i := 1763) (by decide +kernel)⟩
theorem lw_p89 : lw_okq (⟨"ForthHouse$Chip", "meet", "(I)V"⟩, 11) := ⟨⟨by decide +kernel, by decide +kernel⟩, List.mem_of_getElem? (i := 32) (by decide +kernel), List.mem_of_getElem? (i := 1769) (by decide +kernel), List.mem_of_getElem? (i := 1770) (by decide +kernel)⟩
theorem lw_p90 : lw_okq (⟨"ForthHouse$Chip", "width", "(LForthHouse$Forth;I)I"⟩, 11) := ⟨⟨by decide +kernel, by decide +kernel⟩, List.mem_of_getElem? (i := 32) (by decide +kernel), List.mem_of_getElem? (i := 1776) (by decide +kernel), List.mem_of_getElem? (i := 1777) (by decide +kernel)⟩
theorem lw_p91 : lw_okq (⟨"ForthHouse$Chip", "layDefinition", "(LForthHouse$Forth;I)V"⟩, 11) := ⟨⟨by decide +kernel, by decide +kernel⟩, List.mem_of_getElem? (i := 32) (by decide +kernel), List.mem_of_getElem? (i := 1784) (by decide +kernel), List.mem_of_getElem? (i := 1785) (by decide +kernel)⟩
theorem lw_p92 : lw_okq (⟨"ForthHouse$Chip", "layCell", "(I)V"⟩, 11) := ⟨⟨by decide +kernel, by decide +kernel⟩, List.mem_of_getElem? (i := 32) (by decide +kernel), List.mem_of_getElem? (i := 1788) (by decide +kernel), List.mem_of_getElem? (i := 1789) (by decide +kernel)⟩
theorem lw_p93 : lw_okq (⟨"ForthHouse$Chip", "lay", "(I)V"⟩, 11) := ⟨⟨by decide +kernel, by decide +kernel⟩, List.mem_of_getElem? (i := 32) (by decide +kernel), List.mem_of_getElem? (i := 1793) (by decide +kernel), List.mem_of_getElem? (i := 1794) (by decide +kernel)⟩
theorem lw_p94 : lw_okq (⟨"ForthHouse$Chip", "layWord", "(LForthHouse$Forth;I)V"⟩, 11) := ⟨⟨by decide +kernel, by decide +kernel⟩, List.mem_of_getElem? (i := 32) (by decide +kernel), List.mem_of_getElem? (i := 1797) (by decide +kernel), List.mem_of_getElem? (i := 1798) (by decide +kernel)⟩
theorem lw_p95 : lw_okq (⟨"ForthHouse$Chip", "step", "(I)I"⟩, 11) := ⟨⟨by decide +kernel, by decide +kernel⟩, List.mem_of_getElem? (i := 32) (by decide +kernel), List.mem_of_getElem? (i := 1837) (by decide +kernel), List.mem_of_getElem? (i := 1838) (by decide +kernel)⟩
def lw_privs_6 : List (MethodName × Nat) := [(⟨"ForthHouse$Forth", "unwind", "(I)I"⟩, 18), (⟨"ForthHouse$Forth", "throwOut", "(I)V"⟩, 18), (⟨"ForthHouse", "taskOf", "(II)LForthHouse$Task;"⟩, 7), (⟨"ForthHouse$Judge", "leanOnce", "()I"⟩, 20), (⟨"ForthHouse$Judge", "markTargets", "()V"⟩, 20), (⟨"ForthHouse$Judge", "remove", "(II)I"⟩, 20), (⟨"ForthHouse$Judge", "goes", "(I)Z"⟩, 20), (⟨"ForthHouse$Judge", "reckoned", "(III)I"⟩, 20), (⟨"ForthHouse$Chip", "plan", "(LForthHouse$Forth;I)I"⟩, 11), (⟨"ForthHouse$Chip", "meet", "(I)V"⟩, 11), (⟨"ForthHouse$Chip", "width", "(LForthHouse$Forth;I)I"⟩, 11), (⟨"ForthHouse$Chip", "layDefinition", "(LForthHouse$Forth;I)V"⟩, 11), (⟨"ForthHouse$Chip", "layCell", "(I)V"⟩, 11), (⟨"ForthHouse$Chip", "lay", "(I)V"⟩, 11), (⟨"ForthHouse$Chip", "layWord", "(LForthHouse$Forth;I)V"⟩, 11), (⟨"ForthHouse$Chip", "step", "(I)I"⟩, 11)]
theorem lw_r6 : ∀ q ∈ lw_privs_6, lw_okq q := List.forall_mem_cons.mpr ⟨lw_p80, List.forall_mem_cons.mpr ⟨lw_p81, List.forall_mem_cons.mpr ⟨lw_p82, List.forall_mem_cons.mpr ⟨lw_p83, List.forall_mem_cons.mpr ⟨lw_p84, List.forall_mem_cons.mpr ⟨lw_p85, List.forall_mem_cons.mpr ⟨lw_p86, List.forall_mem_cons.mpr ⟨lw_p87, List.forall_mem_cons.mpr ⟨lw_p88, List.forall_mem_cons.mpr ⟨lw_p89, List.forall_mem_cons.mpr ⟨lw_p90, List.forall_mem_cons.mpr ⟨lw_p91, List.forall_mem_cons.mpr ⟨lw_p92, List.forall_mem_cons.mpr ⟨lw_p93, List.forall_mem_cons.mpr ⟨lw_p94, List.forall_mem_cons.mpr ⟨lw_p95, fun _ h => absurd h List.not_mem_nil⟩⟩⟩⟩⟩⟩⟩⟩⟩⟩⟩⟩⟩⟩⟩⟩
theorem lw_p96 : lw_okq (⟨"ForthHouse$Chip", "end", "()I"⟩, 11) := ⟨⟨by decide +kernel, by decide +kernel⟩, List.mem_of_getElem? (i := 32) (by decide +kernel), List.mem_of_getElem? (i := 1849) (by decide +kernel), List.mem_of_getElem? (i := 1850) (by decide +kernel)⟩
theorem lw_p97 : lw_okq (⟨"ForthHouseModel", "systems", "()I"⟩, 35) := ⟨⟨by decide +kernel, by decide +kernel⟩, List.mem_of_getElem? (i := 1977) (by decide +kernel), List.mem_of_getElem? (i := 2105) (by decide +kernel), List.mem_of_getElem? (i := 2106) (by decide +kernel)⟩
theorem lw_p98 : lw_okq (⟨"ForthHouseModel", "newWord", "(IZ)I"⟩, 35) := ⟨⟨by decide +kernel, by decide +kernel⟩, List.mem_of_getElem? (i := 1977) (by decide +kernel), List.mem_of_getElem? (i := 2112) (by decide +kernel), List.mem_of_getElem? (i := 2113) (by decide +kernel)⟩
theorem lw_p99 : lw_okq (⟨"ForthHouseModel", "wordAt", "(I)I"⟩, 35) := ⟨⟨by decide +kernel, by decide +kernel⟩, List.mem_of_getElem? (i := 1977) (by decide +kernel), List.mem_of_getElem? (i := 2116) (by decide +kernel), List.mem_of_getElem? (i := 2117) (by decide +kernel)⟩
theorem lw_p100 : lw_okq (⟨"ForthHouseModel", "putCell", "(JI)V"⟩, 35) := ⟨⟨by decide +kernel, by decide +kernel⟩, List.mem_of_getElem? (i := 1977) (by decide +kernel), List.mem_of_getElem? (i := 2120) (by decide +kernel), List.mem_of_getElem? (i := 2121) (by decide +kernel)⟩
theorem lw_p101 : lw_okq (⟨"ForthHouseModel", "high", "()Z"⟩, 35) := ⟨⟨by decide +kernel, by decide +kernel⟩, List.mem_of_getElem? (i := 1977) (by decide +kernel), List.mem_of_getElem? (i := 2124) (by decide +kernel), List.mem_of_getElem? (i := 2125) (by decide +kernel)⟩
theorem lw_p102 : lw_okq (⟨"ForthHouseModel", "putByte", "(JI)V"⟩, 35) := ⟨⟨by decide +kernel, by decide +kernel⟩, List.mem_of_getElem? (i := 1977) (by decide +kernel), List.mem_of_getElem? (i := 2128) (by decide +kernel), List.mem_of_getElem? (i := 2129) (by decide +kernel)⟩
theorem lw_p103 : lw_okq (⟨"ForthHouseModel", "copyTape", "()V"⟩, 35) := ⟨⟨by decide +kernel, by decide +kernel⟩, List.mem_of_getElem? (i := 1977) (by decide +kernel), List.mem_of_getElem? (i := 2136) (by decide +kernel), List.mem_of_getElem? (i := 2137) (by decide +kernel)⟩
theorem lw_p104 : lw_okq (⟨"ForthHouseModel", "isSystem", "(I)Z"⟩, 35) := ⟨⟨by decide +kernel, by decide +kernel⟩, List.mem_of_getElem? (i := 1977) (by decide +kernel), List.mem_of_getElem? (i := 2140) (by decide +kernel), List.mem_of_getElem? (i := 2141) (by decide +kernel)⟩
theorem lw_p105 : lw_okq (⟨"ForthHouseModel", "look", "(I)V"⟩, 35) := ⟨⟨by decide +kernel, by decide +kernel⟩, List.mem_of_getElem? (i := 1977) (by decide +kernel), List.mem_of_getElem? (i := 2144) (by decide +kernel), List.mem_of_getElem? (i := 2145) (by decide +kernel)⟩
theorem lw_p106 : lw_okq (⟨"ForthHouseModel", "taskAt", "(I)I"⟩, 35) := ⟨⟨by decide +kernel, by decide +kernel⟩, List.mem_of_getElem? (i := 1977) (by decide +kernel), List.mem_of_getElem? (i := 2148) (by decide +kernel), List.mem_of_getElem? (i := 2149) (by decide +kernel)⟩
theorem lw_p107 : lw_okq (⟨"ForthHouseModel", "steps", "(II)I"⟩, 35) := ⟨⟨by decide +kernel, by decide +kernel⟩, List.mem_of_getElem? (i := 1977) (by decide +kernel), List.mem_of_getElem? (i := 2154) (by decide +kernel), List.mem_of_getElem? (i := 2155) (by decide +kernel)⟩
theorem lw_p108 : lw_okq (⟨"ForthHouseModel", "step", "()V"⟩, 35) := ⟨⟨by decide +kernel, by decide +kernel⟩, List.mem_of_getElem? (i := 1977) (by decide +kernel), List.mem_of_getElem? (i := 2158) (by decide +kernel), List.mem_of_getElem? (i := 2159) (by decide +kernel)⟩
theorem lw_p109 : lw_okq (⟨"ForthHouseModel", "takeBox", "()V"⟩, 35) := ⟨⟨by decide +kernel, by decide +kernel⟩, List.mem_of_getElem? (i := 1977) (by decide +kernel), List.mem_of_getElem? (i := 2162) (by decide +kernel), List.mem_of_getElem? (i := 2163) (by decide +kernel)⟩
theorem lw_p110 : lw_okq (⟨"ForthHouseModel", "may", "(II)Z"⟩, 35) := ⟨⟨by decide +kernel, by decide +kernel⟩, List.mem_of_getElem? (i := 1977) (by decide +kernel), List.mem_of_getElem? (i := 2166) (by decide +kernel), List.mem_of_getElem? (i := 2167) (by decide +kernel)⟩
theorem lw_p111 : lw_okq (⟨"ForthHouseModel", "depth", "()I"⟩, 35) := ⟨⟨by decide +kernel, by decide +kernel⟩, List.mem_of_getElem? (i := 1977) (by decide +kernel), List.mem_of_getElem? (i := 2170) (by decide +kernel), List.mem_of_getElem? (i := 2171) (by decide +kernel)⟩
def lw_privs_7 : List (MethodName × Nat) := [(⟨"ForthHouse$Chip", "end", "()I"⟩, 11), (⟨"ForthHouseModel", "systems", "()I"⟩, 35), (⟨"ForthHouseModel", "newWord", "(IZ)I"⟩, 35), (⟨"ForthHouseModel", "wordAt", "(I)I"⟩, 35), (⟨"ForthHouseModel", "putCell", "(JI)V"⟩, 35), (⟨"ForthHouseModel", "high", "()Z"⟩, 35), (⟨"ForthHouseModel", "putByte", "(JI)V"⟩, 35), (⟨"ForthHouseModel", "copyTape", "()V"⟩, 35), (⟨"ForthHouseModel", "isSystem", "(I)Z"⟩, 35), (⟨"ForthHouseModel", "look", "(I)V"⟩, 35), (⟨"ForthHouseModel", "taskAt", "(I)I"⟩, 35), (⟨"ForthHouseModel", "steps", "(II)I"⟩, 35), (⟨"ForthHouseModel", "step", "()V"⟩, 35), (⟨"ForthHouseModel", "takeBox", "()V"⟩, 35), (⟨"ForthHouseModel", "may", "(II)Z"⟩, 35), (⟨"ForthHouseModel", "depth", "()I"⟩, 35)]
theorem lw_r7 : ∀ q ∈ lw_privs_7, lw_okq q := List.forall_mem_cons.mpr ⟨lw_p96, List.forall_mem_cons.mpr ⟨lw_p97, List.forall_mem_cons.mpr ⟨lw_p98, List.forall_mem_cons.mpr ⟨lw_p99, List.forall_mem_cons.mpr ⟨lw_p100, List.forall_mem_cons.mpr ⟨lw_p101, List.forall_mem_cons.mpr ⟨lw_p102, List.forall_mem_cons.mpr ⟨lw_p103, List.forall_mem_cons.mpr ⟨lw_p104, List.forall_mem_cons.mpr ⟨lw_p105, List.forall_mem_cons.mpr ⟨lw_p106, List.forall_mem_cons.mpr ⟨lw_p107, List.forall_mem_cons.mpr ⟨lw_p108, List.forall_mem_cons.mpr ⟨lw_p109, List.forall_mem_cons.mpr ⟨lw_p110, List.forall_mem_cons.mpr ⟨lw_p111, fun _ h => absurd h List.not_mem_nil⟩⟩⟩⟩⟩⟩⟩⟩⟩⟩⟩⟩⟩⟩⟩⟩
theorem lw_p112 : lw_okq (⟨"ForthHouseModel", "push", "(J)V"⟩, 35) := ⟨⟨by decide +kernel, by decide +kernel⟩, List.mem_of_getElem? (i := 1977) (by decide +kernel), List.mem_of_getElem? (i := 2174) (by decide +kernel), List.mem_of_getElem? (i := 2175) (by decide +kernel)⟩
theorem lw_p113 : lw_okq (⟨"ForthHouseModel", "round", "(J)I"⟩, 35) := ⟨⟨by decide +kernel, by decide +kernel⟩, List.mem_of_getElem? (i := 1977) (by decide +kernel), List.mem_of_getElem? (i := 2178) (by decide +kernel), List.mem_of_getElem? (i := 2179) (by decide +kernel)⟩
theorem lw_p114 : lw_okq (⟨"ForthHouseModel", "bits", "()I"⟩, 35) := ⟨⟨by decide +kernel, by decide +kernel⟩, List.mem_of_getElem? (i := 1977) (by decide +kernel), List.mem_of_getElem? (i := 2182) (by decide +kernel), List.mem_of_getElem? (i := 2183) (by decide +kernel)⟩
theorem lw_p115 : lw_okq (⟨"ForthHouseModel", "isToken", "(J)Z"⟩, 35) := ⟨⟨by decide +kernel, by decide +kernel⟩, List.mem_of_getElem? (i := 1977) (by decide +kernel), List.mem_of_getElem? (i := 2186) (by decide +kernel), List.mem_of_getElem? (i := 2187) (by decide +kernel)⟩
theorem lw_p116 : lw_okq (⟨"ForthHouseModel", "does", "(IZ)V"⟩, 35) := ⟨⟨by decide +kernel, by decide +kernel⟩, List.mem_of_getElem? (i := 1977) (by decide +kernel), List.mem_of_getElem? (i := 2190) (by decide +kernel), List.mem_of_getElem? (i := 2191) (by decide +kernel)⟩
theorem lw_p117 : lw_okq (⟨"ForthHouseModel", "builtIn", "(I)V"⟩, 35) := ⟨⟨by decide +kernel, by decide +kernel⟩, List.mem_of_getElem? (i := 1977) (by decide +kernel), List.mem_of_getElem? (i := 2194) (by decide +kernel), List.mem_of_getElem? (i := 2195) (by decide +kernel)⟩
theorem lw_p118 : lw_okq (⟨"ForthHouseModel", "isCompiling", "(I)Z"⟩, 35) := ⟨⟨by decide +kernel, by decide +kernel⟩, List.mem_of_getElem? (i := 1977) (by decide +kernel), List.mem_of_getElem? (i := 2198) (by decide +kernel), List.mem_of_getElem? (i := 2199) (by decide +kernel)⟩
theorem lw_p119 : lw_okq (⟨"ForthHouseModel", "plain", "(I)V"⟩, 35) := ⟨⟨by decide +kernel, by decide +kernel⟩, List.mem_of_getElem? (i := 1977) (by decide +kernel), List.mem_of_getElem? (i := 2202) (by decide +kernel), List.mem_of_getElem? (i := 2203) (by decide +kernel)⟩
theorem lw_p120 : lw_okq (⟨"ForthHouseModel", "stack", "(I)V"⟩, 35) := ⟨⟨by decide +kernel, by decide +kernel⟩, List.mem_of_getElem? (i := 1977) (by decide +kernel), List.mem_of_getElem? (i := 2206) (by decide +kernel), List.mem_of_getElem? (i := 2207) (by decide +kernel)⟩
theorem lw_p121 : lw_okq (⟨"ForthHouseModel", "top", "(I)I"⟩, 35) := ⟨⟨by decide +kernel, by decide +kernel⟩, List.mem_of_getElem? (i := 1977) (by decide +kernel), List.mem_of_getElem? (i := 2210) (by decide +kernel), List.mem_of_getElem? (i := 2211) (by decide +kernel)⟩
theorem lw_p122 : lw_okq (⟨"ForthHouseModel", "pop", "()I"⟩, 35) := ⟨⟨by decide +kernel, by decide +kernel⟩, List.mem_of_getElem? (i := 1977) (by decide +kernel), List.mem_of_getElem? (i := 2214) (by decide +kernel), List.mem_of_getElem? (i := 2215) (by decide +kernel)⟩
theorem lw_p123 : lw_okq (⟨"ForthHouseModel", "roll", "(I)V"⟩, 35) := ⟨⟨by decide +kernel, by decide +kernel⟩, List.mem_of_getElem? (i := 1977) (by decide +kernel), List.mem_of_getElem? (i := 2218) (by decide +kernel), List.mem_of_getElem? (i := 2219) (by decide +kernel)⟩
theorem lw_p124 : lw_okq (⟨"ForthHouseModel", "wide", "(I)J"⟩, 35) := ⟨⟨by decide +kernel, by decide +kernel⟩, List.mem_of_getElem? (i := 1977) (by decide +kernel), List.mem_of_getElem? (i := 2222) (by decide +kernel), List.mem_of_getElem? (i := 2223) (by decide +kernel)⟩
theorem lw_p125 : lw_okq (⟨"ForthHouseModel", "mask", "()J"⟩, 35) := ⟨⟨by decide +kernel, by decide +kernel⟩, List.mem_of_getElem? (i := 1977) (by decide +kernel), List.mem_of_getElem? (i := 2226) (by decide +kernel), List.mem_of_getElem? (i := 2227) (by decide +kernel)⟩
theorem lw_p126 : lw_okq (⟨"ForthHouseModel", "returns", "(I)V"⟩, 35) := ⟨⟨by decide +kernel, by decide +kernel⟩, List.mem_of_getElem? (i := 1977) (by decide +kernel), List.mem_of_getElem? (i := 2230) (by decide +kernel), List.mem_of_getElem? (i := 2231) (by decide +kernel)⟩
theorem lw_p127 : lw_okq (⟨"ForthHouseModel", "pushReturn", "(I)V"⟩, 35) := ⟨⟨by decide +kernel, by decide +kernel⟩, List.mem_of_getElem? (i := 1977) (by decide +kernel), List.mem_of_getElem? (i := 2234) (by decide +kernel), List.mem_of_getElem? (i := 2235) (by decide +kernel)⟩
def lw_privs_8 : List (MethodName × Nat) := [(⟨"ForthHouseModel", "push", "(J)V"⟩, 35), (⟨"ForthHouseModel", "round", "(J)I"⟩, 35), (⟨"ForthHouseModel", "bits", "()I"⟩, 35), (⟨"ForthHouseModel", "isToken", "(J)Z"⟩, 35), (⟨"ForthHouseModel", "does", "(IZ)V"⟩, 35), (⟨"ForthHouseModel", "builtIn", "(I)V"⟩, 35), (⟨"ForthHouseModel", "isCompiling", "(I)Z"⟩, 35), (⟨"ForthHouseModel", "plain", "(I)V"⟩, 35), (⟨"ForthHouseModel", "stack", "(I)V"⟩, 35), (⟨"ForthHouseModel", "top", "(I)I"⟩, 35), (⟨"ForthHouseModel", "pop", "()I"⟩, 35), (⟨"ForthHouseModel", "roll", "(I)V"⟩, 35), (⟨"ForthHouseModel", "wide", "(I)J"⟩, 35), (⟨"ForthHouseModel", "mask", "()J"⟩, 35), (⟨"ForthHouseModel", "returns", "(I)V"⟩, 35), (⟨"ForthHouseModel", "pushReturn", "(I)V"⟩, 35)]
theorem lw_r8 : ∀ q ∈ lw_privs_8, lw_okq q := List.forall_mem_cons.mpr ⟨lw_p112, List.forall_mem_cons.mpr ⟨lw_p113, List.forall_mem_cons.mpr ⟨lw_p114, List.forall_mem_cons.mpr ⟨lw_p115, List.forall_mem_cons.mpr ⟨lw_p116, List.forall_mem_cons.mpr ⟨lw_p117, List.forall_mem_cons.mpr ⟨lw_p118, List.forall_mem_cons.mpr ⟨lw_p119, List.forall_mem_cons.mpr ⟨lw_p120, List.forall_mem_cons.mpr ⟨lw_p121, List.forall_mem_cons.mpr ⟨lw_p122, List.forall_mem_cons.mpr ⟨lw_p123, List.forall_mem_cons.mpr ⟨lw_p124, List.forall_mem_cons.mpr ⟨lw_p125, List.forall_mem_cons.mpr ⟨lw_p126, List.forall_mem_cons.mpr ⟨lw_p127, fun _ h => absurd h List.not_mem_nil⟩⟩⟩⟩⟩⟩⟩⟩⟩⟩⟩⟩⟩⟩⟩⟩
theorem lw_p128 : lw_okq (⟨"ForthHouseModel", "hasReturn", "(I)Z"⟩, 35) := ⟨⟨by decide +kernel, by decide +kernel⟩, List.mem_of_getElem? (i := 1977) (by decide +kernel), List.mem_of_getElem? (i := 2238) (by decide +kernel), List.mem_of_getElem? (i := 2239) (by decide +kernel)⟩
theorem lw_p129 : lw_okq (⟨"ForthHouseModel", "base", "(I)I"⟩, 35) := ⟨⟨by decide +kernel, by decide +kernel⟩, List.mem_of_getElem? (i := 1977) (by decide +kernel), List.mem_of_getElem? (i := 2242) (by decide +kernel), List.mem_of_getElem? (i := 2243) (by decide +kernel)⟩
theorem lw_p130 : lw_okq (⟨"ForthHouseModel", "frames", "()I"⟩, 35) := ⟨⟨by decide +kernel, by decide +kernel⟩, List.mem_of_getElem? (i := 1977) (by decide +kernel), List.mem_of_getElem? (i := 2246) (by decide +kernel), List.mem_of_getElem? (i := 2247) (by decide +kernel)⟩
theorem lw_p131 : lw_okq (⟨"ForthHouseModel", "frameAt", "(I)I"⟩, 35) := ⟨⟨by decide +kernel, by decide +kernel⟩, List.mem_of_getElem? (i := 1977) (by decide +kernel), List.mem_of_getElem? (i := 2250) (by decide +kernel), List.mem_of_getElem? (i := 2251) (by decide +kernel)⟩
theorem lw_p132 : lw_okq (⟨"ForthHouseModel", "popReturn", "()I"⟩, 35) := ⟨⟨by decide +kernel, by decide +kernel⟩, List.mem_of_getElem? (i := 1977) (by decide +kernel), List.mem_of_getElem? (i := 2254) (by decide +kernel), List.mem_of_getElem? (i := 2255) (by decide +kernel)⟩
theorem lw_p133 : lw_okq (⟨"ForthHouseModel", "reckon", "(I)V"⟩, 35) := ⟨⟨by decide +kernel, by decide +kernel⟩, List.mem_of_getElem? (i := 1977) (by decide +kernel), List.mem_of_getElem? (i := 2258) (by decide +kernel), List.mem_of_getElem? (i := 2259) (by decide +kernel)⟩
theorem lw_p134 : lw_okq (⟨"ForthHouseModel", "divided", "(I)V"⟩, 35) := ⟨⟨by decide +kernel, by decide +kernel⟩, List.mem_of_getElem? (i := 1977) (by decide +kernel), List.mem_of_getElem? (i := 2262) (by decide +kernel), List.mem_of_getElem? (i := 2263) (by decide +kernel)⟩
theorem lw_p135 : lw_okq (⟨"ForthHouseModel", "quotient", "(JJ)J"⟩, 35) := ⟨⟨by decide +kernel, by decide +kernel⟩, List.mem_of_getElem? (i := 1977) (by decide +kernel), List.mem_of_getElem? (i := 2266) (by decide +kernel), List.mem_of_getElem? (i := 2267) (by decide +kernel)⟩
theorem lw_p136 : lw_okq (⟨"ForthHouseModel", "unsignedDivided", "()V"⟩, 35) := ⟨⟨by decide +kernel, by decide +kernel⟩, List.mem_of_getElem? (i := 1977) (by decide +kernel), List.mem_of_getElem? (i := 2274) (by decide +kernel), List.mem_of_getElem? (i := 2275) (by decide +kernel)⟩
theorem lw_p137 : lw_okq (⟨"ForthHouseModel", "pushDouble", "(J)V"⟩, 35) := ⟨⟨by decide +kernel, by decide +kernel⟩, List.mem_of_getElem? (i := 1977) (by decide +kernel), List.mem_of_getElem? (i := 2278) (by decide +kernel), List.mem_of_getElem? (i := 2279) (by decide +kernel)⟩
theorem lw_p138 : lw_okq (⟨"ForthHouseModel", "signedDivided", "(Z)V"⟩, 35) := ⟨⟨by decide +kernel, by decide +kernel⟩, List.mem_of_getElem? (i := 1977) (by decide +kernel), List.mem_of_getElem? (i := 2282) (by decide +kernel), List.mem_of_getElem? (i := 2283) (by decide +kernel)⟩
theorem lw_p139 : lw_okq (⟨"ForthHouseModel", "popDouble", "()J"⟩, 35) := ⟨⟨by decide +kernel, by decide +kernel⟩, List.mem_of_getElem? (i := 1977) (by decide +kernel), List.mem_of_getElem? (i := 2286) (by decide +kernel), List.mem_of_getElem? (i := 2287) (by decide +kernel)⟩
theorem lw_p140 : lw_okq (⟨"ForthHouseModel", "compare", "(I)V"⟩, 35) := ⟨⟨by decide +kernel, by decide +kernel⟩, List.mem_of_getElem? (i := 1977) (by decide +kernel), List.mem_of_getElem? (i := 2291) (by decide +kernel), List.mem_of_getElem? (i := 2292) (by decide +kernel)⟩
theorem lw_p141 : lw_okq (⟨"ForthHouseModel", "flag", "(Z)V"⟩, 35) := ⟨⟨by decide +kernel, by decide +kernel⟩, List.mem_of_getElem? (i := 1977) (by decide +kernel), List.mem_of_getElem? (i := 2295) (by decide +kernel), List.mem_of_getElem? (i := 2296) (by decide +kernel)⟩
theorem lw_p142 : lw_okq (⟨"ForthHouseModel", "storing", "(I)V"⟩, 35) := ⟨⟨by decide +kernel, by decide +kernel⟩, List.mem_of_getElem? (i := 1977) (by decide +kernel), List.mem_of_getElem? (i := 2299) (by decide +kernel), List.mem_of_getElem? (i := 2300) (by decide +kernel)⟩
theorem lw_p143 : lw_okq (⟨"ForthHouseModel", "reach", "(IJ)Z"⟩, 35) := ⟨⟨by decide +kernel, by decide +kernel⟩, List.mem_of_getElem? (i := 1977) (by decide +kernel), List.mem_of_getElem? (i := 2303) (by decide +kernel), List.mem_of_getElem? (i := 2304) (by decide +kernel)⟩
def lw_privs_9 : List (MethodName × Nat) := [(⟨"ForthHouseModel", "hasReturn", "(I)Z"⟩, 35), (⟨"ForthHouseModel", "base", "(I)I"⟩, 35), (⟨"ForthHouseModel", "frames", "()I"⟩, 35), (⟨"ForthHouseModel", "frameAt", "(I)I"⟩, 35), (⟨"ForthHouseModel", "popReturn", "()I"⟩, 35), (⟨"ForthHouseModel", "reckon", "(I)V"⟩, 35), (⟨"ForthHouseModel", "divided", "(I)V"⟩, 35), (⟨"ForthHouseModel", "quotient", "(JJ)J"⟩, 35), (⟨"ForthHouseModel", "unsignedDivided", "()V"⟩, 35), (⟨"ForthHouseModel", "pushDouble", "(J)V"⟩, 35), (⟨"ForthHouseModel", "signedDivided", "(Z)V"⟩, 35), (⟨"ForthHouseModel", "popDouble", "()J"⟩, 35), (⟨"ForthHouseModel", "compare", "(I)V"⟩, 35), (⟨"ForthHouseModel", "flag", "(Z)V"⟩, 35), (⟨"ForthHouseModel", "storing", "(I)V"⟩, 35), (⟨"ForthHouseModel", "reach", "(IJ)Z"⟩, 35)]
theorem lw_r9 : ∀ q ∈ lw_privs_9, lw_okq q := List.forall_mem_cons.mpr ⟨lw_p128, List.forall_mem_cons.mpr ⟨lw_p129, List.forall_mem_cons.mpr ⟨lw_p130, List.forall_mem_cons.mpr ⟨lw_p131, List.forall_mem_cons.mpr ⟨lw_p132, List.forall_mem_cons.mpr ⟨lw_p133, List.forall_mem_cons.mpr ⟨lw_p134, List.forall_mem_cons.mpr ⟨lw_p135, List.forall_mem_cons.mpr ⟨lw_p136, List.forall_mem_cons.mpr ⟨lw_p137, List.forall_mem_cons.mpr ⟨lw_p138, List.forall_mem_cons.mpr ⟨lw_p139, List.forall_mem_cons.mpr ⟨lw_p140, List.forall_mem_cons.mpr ⟨lw_p141, List.forall_mem_cons.mpr ⟨lw_p142, List.forall_mem_cons.mpr ⟨lw_p143, fun _ h => absurd h List.not_mem_nil⟩⟩⟩⟩⟩⟩⟩⟩⟩⟩⟩⟩⟩⟩⟩⟩
theorem lw_p144 : lw_okq (⟨"ForthHouseModel", "lies", "(JJ)Z"⟩, 35) := ⟨⟨by decide +kernel, by decide +kernel⟩, List.mem_of_getElem? (i := 1977) (by decide +kernel), List.mem_of_getElem? (i := 2307) (by decide +kernel), List.mem_of_getElem? (i := 2308) (by decide +kernel)⟩
theorem lw_p145 : lw_okq (⟨"ForthHouseModel", "cellAt", "(J)I"⟩, 35) := ⟨⟨by decide +kernel, by decide +kernel⟩, List.mem_of_getElem? (i := 1977) (by decide +kernel), List.mem_of_getElem? (i := 2312) (by decide +kernel), List.mem_of_getElem? (i := 2313) (by decide +kernel)⟩
theorem lw_p146 : lw_okq (⟨"ForthHouseModel", "byteAt", "(J)I"⟩, 35) := ⟨⟨by decide +kernel, by decide +kernel⟩, List.mem_of_getElem? (i := 1977) (by decide +kernel), List.mem_of_getElem? (i := 2316) (by decide +kernel), List.mem_of_getElem? (i := 2317) (by decide +kernel)⟩
theorem lw_p147 : lw_okq (⟨"ForthHouseModel", "grow", "(J)V"⟩, 35) := ⟨⟨by decide +kernel, by decide +kernel⟩, List.mem_of_getElem? (i := 1977) (by decide +kernel), List.mem_of_getElem? (i := 2320) (by decide +kernel), List.mem_of_getElem? (i := 2321) (by decide +kernel)⟩
theorem lw_p148 : lw_okq (⟨"ForthHouseModel", "up", "(J)J"⟩, 35) := ⟨⟨by decide +kernel, by decide +kernel⟩, List.mem_of_getElem? (i := 1977) (by decide +kernel), List.mem_of_getElem? (i := 2325) (by decide +kernel), List.mem_of_getElem? (i := 2326) (by decide +kernel)⟩
theorem lw_p149 : lw_okq (⟨"ForthHouseModel", "rows", "(II)V"⟩, 35) := ⟨⟨by decide +kernel, by decide +kernel⟩, List.mem_of_getElem? (i := 1977) (by decide +kernel), List.mem_of_getElem? (i := 2329) (by decide +kernel), List.mem_of_getElem? (i := 2330) (by decide +kernel)⟩
theorem lw_p150 : lw_okq (⟨"ForthHouseModel", "printing", "(I)V"⟩, 35) := ⟨⟨by decide +kernel, by decide +kernel⟩, List.mem_of_getElem? (i := 1977) (by decide +kernel), List.mem_of_getElem? (i := 2333) (by decide +kernel), List.mem_of_getElem? (i := 2334) (by decide +kernel)⟩
theorem lw_p151 : lw_okq (⟨"ForthHouseModel", "print", "(J)V"⟩, 35) := ⟨⟨by decide +kernel, by decide +kernel⟩, List.mem_of_getElem? (i := 1977) (by decide +kernel), List.mem_of_getElem? (i := 2337) (by decide +kernel), List.mem_of_getElem? (i := 2338) (by decide +kernel)⟩
theorem lw_p152 : lw_okq (⟨"ForthHouseModel", "numberBase", "()I"⟩, 35) := ⟨⟨by decide +kernel, by decide +kernel⟩, List.mem_of_getElem? (i := 1977) (by decide +kernel), List.mem_of_getElem? (i := 2341) (by decide +kernel), List.mem_of_getElem? (i := 2342) (by decide +kernel)⟩
theorem lw_p153 : lw_okq (⟨"ForthHouseModel", "put", "(I)V"⟩, 35) := ⟨⟨by decide +kernel, by decide +kernel⟩, List.mem_of_getElem? (i := 1977) (by decide +kernel), List.mem_of_getElem? (i := 2345) (by decide +kernel), List.mem_of_getElem? (i := 2346) (by decide +kernel)⟩
theorem lw_p154 : lw_okq (⟨"ForthHouseModel", "spaces", "(I)V"⟩, 35) := ⟨⟨by decide +kernel, by decide +kernel⟩, List.mem_of_getElem? (i := 1977) (by decide +kernel), List.mem_of_getElem? (i := 2357) (by decide +kernel), List.mem_of_getElem? (i := 2358) (by decide +kernel)⟩
theorem lw_p155 : lw_okq (⟨"ForthHouseModel", "type", "(IJ)V"⟩, 35) := ⟨⟨by decide +kernel, by decide +kernel⟩, List.mem_of_getElem? (i := 1977) (by decide +kernel), List.mem_of_getElem? (i := 2361) (by decide +kernel), List.mem_of_getElem? (i := 2362) (by decide +kernel)⟩
theorem lw_p156 : lw_okq (⟨"ForthHouseModel", "digits", "(Z)V"⟩, 35) := ⟨⟨by decide +kernel, by decide +kernel⟩, List.mem_of_getElem? (i := 1977) (by decide +kernel), List.mem_of_getElem? (i := 2365) (by decide +kernel), List.mem_of_getElem? (i := 2366) (by decide +kernel)⟩
theorem lw_p157 : lw_okq (⟨"ForthHouseModel", "hold", "(I)V"⟩, 35) := ⟨⟨by decide +kernel, by decide +kernel⟩, List.mem_of_getElem? (i := 1977) (by decide +kernel), List.mem_of_getElem? (i := 2369) (by decide +kernel), List.mem_of_getElem? (i := 2370) (by decide +kernel)⟩
theorem lw_p158 : lw_okq (⟨"ForthHouseModel", "makes", "(I)V"⟩, 35) := ⟨⟨by decide +kernel, by decide +kernel⟩, List.mem_of_getElem? (i := 1977) (by decide +kernel), List.mem_of_getElem? (i := 2373) (by decide +kernel), List.mem_of_getElem? (i := 2374) (by decide +kernel)⟩
theorem lw_p159 : lw_okq (⟨"ForthHouseModel", "newName", "()Z"⟩, 35) := ⟨⟨by decide +kernel, by decide +kernel⟩, List.mem_of_getElem? (i := 1977) (by decide +kernel), List.mem_of_getElem? (i := 2377) (by decide +kernel), List.mem_of_getElem? (i := 2378) (by decide +kernel)⟩
def lw_privs_10 : List (MethodName × Nat) := [(⟨"ForthHouseModel", "lies", "(JJ)Z"⟩, 35), (⟨"ForthHouseModel", "cellAt", "(J)I"⟩, 35), (⟨"ForthHouseModel", "byteAt", "(J)I"⟩, 35), (⟨"ForthHouseModel", "grow", "(J)V"⟩, 35), (⟨"ForthHouseModel", "up", "(J)J"⟩, 35), (⟨"ForthHouseModel", "rows", "(II)V"⟩, 35), (⟨"ForthHouseModel", "printing", "(I)V"⟩, 35), (⟨"ForthHouseModel", "print", "(J)V"⟩, 35), (⟨"ForthHouseModel", "numberBase", "()I"⟩, 35), (⟨"ForthHouseModel", "put", "(I)V"⟩, 35), (⟨"ForthHouseModel", "spaces", "(I)V"⟩, 35), (⟨"ForthHouseModel", "type", "(IJ)V"⟩, 35), (⟨"ForthHouseModel", "digits", "(Z)V"⟩, 35), (⟨"ForthHouseModel", "hold", "(I)V"⟩, 35), (⟨"ForthHouseModel", "makes", "(I)V"⟩, 35), (⟨"ForthHouseModel", "newName", "()Z"⟩, 35)]
theorem lw_r10 : ∀ q ∈ lw_privs_10, lw_okq q := List.forall_mem_cons.mpr ⟨lw_p144, List.forall_mem_cons.mpr ⟨lw_p145, List.forall_mem_cons.mpr ⟨lw_p146, List.forall_mem_cons.mpr ⟨lw_p147, List.forall_mem_cons.mpr ⟨lw_p148, List.forall_mem_cons.mpr ⟨lw_p149, List.forall_mem_cons.mpr ⟨lw_p150, List.forall_mem_cons.mpr ⟨lw_p151, List.forall_mem_cons.mpr ⟨lw_p152, List.forall_mem_cons.mpr ⟨lw_p153, List.forall_mem_cons.mpr ⟨lw_p154, List.forall_mem_cons.mpr ⟨lw_p155, List.forall_mem_cons.mpr ⟨lw_p156, List.forall_mem_cons.mpr ⟨lw_p157, List.forall_mem_cons.mpr ⟨lw_p158, List.forall_mem_cons.mpr ⟨lw_p159, fun _ h => absurd h List.not_mem_nil⟩⟩⟩⟩⟩⟩⟩⟩⟩⟩⟩⟩⟩⟩⟩⟩
theorem lw_p160 : lw_okq (⟨"ForthHouseModel", "word", "()Z"⟩, 35) := ⟨⟨by decide +kernel, by decide +kernel⟩, List.mem_of_getElem? (i := 1977) (by decide +kernel), List.mem_of_getElem? (i := 2381) (by decide +kernel), List.mem_of_getElem? (i := 2382) (by decide +kernel)⟩
theorem lw_p161 : lw_okq (⟨"ForthHouseModel", "textFrame", "()I"⟩, 35) := ⟨⟨by decide +kernel, by decide +kernel⟩, List.mem_of_getElem? (i := 1977) (by decide +kernel), List.mem_of_getElem? (i := 2385) (by decide +kernel), List.mem_of_getElem? (i := 2386) (by decide +kernel)⟩
theorem lw_p162 : lw_okq (⟨"ForthHouseModel", "textSize", "(I)I"⟩, 35) := ⟨⟨by decide +kernel, by decide +kernel⟩, List.mem_of_getElem? (i := 1977) (by decide +kernel), List.mem_of_getElem? (i := 2389) (by decide +kernel), List.mem_of_getElem? (i := 2390) (by decide +kernel)⟩
theorem lw_p163 : lw_okq (⟨"ForthHouseModel", "in", "()J"⟩, 35) := ⟨⟨by decide +kernel, by decide +kernel⟩, List.mem_of_getElem? (i := 1977) (by decide +kernel), List.mem_of_getElem? (i := 2393) (by decide +kernel), List.mem_of_getElem? (i := 2394) (by decide +kernel)⟩
theorem lw_p164 : lw_okq (⟨"ForthHouseModel", "textByte", "(II)I"⟩, 35) := ⟨⟨by decide +kernel, by decide +kernel⟩, List.mem_of_getElem? (i := 1977) (by decide +kernel), List.mem_of_getElem? (i := 2397) (by decide +kernel), List.mem_of_getElem? (i := 2398) (by decide +kernel)⟩
theorem lw_p165 : lw_okq (⟨"ForthHouseModel", "marker", "()V"⟩, 35) := ⟨⟨by decide +kernel, by decide +kernel⟩, List.mem_of_getElem? (i := 1977) (by decide +kernel), List.mem_of_getElem? (i := 2404) (by decide +kernel), List.mem_of_getElem? (i := 2405) (by decide +kernel)⟩
theorem lw_p166 : lw_okq (⟨"ForthHouseModel", "freeMark", "()I"⟩, 35) := ⟨⟨by decide +kernel, by decide +kernel⟩, List.mem_of_getElem? (i := 1977) (by decide +kernel), List.mem_of_getElem? (i := 2408) (by decide +kernel), List.mem_of_getElem? (i := 2409) (by decide +kernel)⟩
theorem lw_p167 : lw_okq (⟨"ForthHouseModel", "asks", "(I)V"⟩, 35) := ⟨⟨by decide +kernel, by decide +kernel⟩, List.mem_of_getElem? (i := 1977) (by decide +kernel), List.mem_of_getElem? (i := 2413) (by decide +kernel), List.mem_of_getElem? (i := 2414) (by decide +kernel)⟩
theorem lw_p168 : lw_okq (⟨"ForthHouseModel", "nest", "(III)V"⟩, 35) := ⟨⟨by decide +kernel, by decide +kernel⟩, List.mem_of_getElem? (i := 1977) (by decide +kernel), List.mem_of_getElem? (i := 2417) (by decide +kernel), List.mem_of_getElem? (i := 2418) (by decide +kernel)⟩
theorem lw_p169 : lw_okq (⟨"ForthHouseModel", "nested", "()I"⟩, 35) := ⟨⟨by decide +kernel, by decide +kernel⟩, List.mem_of_getElem? (i := 1977) (by decide +kernel), List.mem_of_getElem? (i := 2421) (by decide +kernel), List.mem_of_getElem? (i := 2422) (by decide +kernel)⟩
theorem lw_p170 : lw_okq (⟨"ForthHouseModel", "newFrame", "(I)I"⟩, 35) := ⟨⟨by decide +kernel, by decide +kernel⟩, List.mem_of_getElem? (i := 1977) (by decide +kernel), List.mem_of_getElem? (i := 2425) (by decide +kernel), List.mem_of_getElem? (i := 2426) (by decide +kernel)⟩
theorem lw_p171 : lw_okq (⟨"ForthHouseModel", "compiles", "(I)V"⟩, 35) := ⟨⟨by decide +kernel, by decide +kernel⟩, List.mem_of_getElem? (i := 1977) (by decide +kernel), List.mem_of_getElem? (i := 2429) (by decide +kernel), List.mem_of_getElem? (i := 2430) (by decide +kernel)⟩
theorem lw_p172 : lw_okq (⟨"ForthHouseModel", "beginDef", "(ZZ)V"⟩, 35) := ⟨⟨by decide +kernel, by decide +kernel⟩, List.mem_of_getElem? (i := 1977) (by decide +kernel), List.mem_of_getElem? (i := 2433) (by decide +kernel), List.mem_of_getElem? (i := 2434) (by decide +kernel)⟩
theorem lw_p173 : lw_okq (⟨"ForthHouseModel", "items", "(I)Z"⟩, 35) := ⟨⟨by decide +kernel, by decide +kernel⟩, List.mem_of_getElem? (i := 1977) (by decide +kernel), List.mem_of_getElem? (i := 2437) (by decide +kernel), List.mem_of_getElem? (i := 2438) (by decide +kernel)⟩
theorem lw_p174 : lw_okq (⟨"ForthHouseModel", "item", "(II)V"⟩, 35) := ⟨⟨by decide +kernel, by decide +kernel⟩, List.mem_of_getElem? (i := 1977) (by decide +kernel), List.mem_of_getElem? (i := 2441) (by decide +kernel), List.mem_of_getElem? (i := 2442) (by decide +kernel)⟩
theorem lw_p175 : lw_okq (⟨"ForthHouseModel", "itemAt", "(I)I"⟩, 35) := ⟨⟨by decide +kernel, by decide +kernel⟩, List.mem_of_getElem? (i := 1977) (by decide +kernel), List.mem_of_getElem? (i := 2445) (by decide +kernel), List.mem_of_getElem? (i := 2446) (by decide +kernel)⟩
def lw_privs_11 : List (MethodName × Nat) := [(⟨"ForthHouseModel", "word", "()Z"⟩, 35), (⟨"ForthHouseModel", "textFrame", "()I"⟩, 35), (⟨"ForthHouseModel", "textSize", "(I)I"⟩, 35), (⟨"ForthHouseModel", "in", "()J"⟩, 35), (⟨"ForthHouseModel", "textByte", "(II)I"⟩, 35), (⟨"ForthHouseModel", "marker", "()V"⟩, 35), (⟨"ForthHouseModel", "freeMark", "()I"⟩, 35), (⟨"ForthHouseModel", "asks", "(I)V"⟩, 35), (⟨"ForthHouseModel", "nest", "(III)V"⟩, 35), (⟨"ForthHouseModel", "nested", "()I"⟩, 35), (⟨"ForthHouseModel", "newFrame", "(I)I"⟩, 35), (⟨"ForthHouseModel", "compiles", "(I)V"⟩, 35), (⟨"ForthHouseModel", "beginDef", "(ZZ)V"⟩, 35), (⟨"ForthHouseModel", "items", "(I)Z"⟩, 35), (⟨"ForthHouseModel", "item", "(II)V"⟩, 35), (⟨"ForthHouseModel", "itemAt", "(I)I"⟩, 35)]
theorem lw_r11 : ∀ q ∈ lw_privs_11, lw_okq q := List.forall_mem_cons.mpr ⟨lw_p160, List.forall_mem_cons.mpr ⟨lw_p161, List.forall_mem_cons.mpr ⟨lw_p162, List.forall_mem_cons.mpr ⟨lw_p163, List.forall_mem_cons.mpr ⟨lw_p164, List.forall_mem_cons.mpr ⟨lw_p165, List.forall_mem_cons.mpr ⟨lw_p166, List.forall_mem_cons.mpr ⟨lw_p167, List.forall_mem_cons.mpr ⟨lw_p168, List.forall_mem_cons.mpr ⟨lw_p169, List.forall_mem_cons.mpr ⟨lw_p170, List.forall_mem_cons.mpr ⟨lw_p171, List.forall_mem_cons.mpr ⟨lw_p172, List.forall_mem_cons.mpr ⟨lw_p173, List.forall_mem_cons.mpr ⟨lw_p174, List.forall_mem_cons.mpr ⟨lw_p175, fun _ h => absurd h List.not_mem_nil⟩⟩⟩⟩⟩⟩⟩⟩⟩⟩⟩⟩⟩⟩⟩⟩
theorem lw_p176 : lw_okq (⟨"ForthHouseModel", "here", "()I"⟩, 35) := ⟨⟨by decide +kernel, by decide +kernel⟩, List.mem_of_getElem? (i := 1977) (by decide +kernel), List.mem_of_getElem? (i := 2449) (by decide +kernel), List.mem_of_getElem? (i := 2450) (by decide +kernel)⟩
theorem lw_p177 : lw_okq (⟨"ForthHouseModel", "def", "()I"⟩, 35) := ⟨⟨by decide +kernel, by decide +kernel⟩, List.mem_of_getElem? (i := 1977) (by decide +kernel), List.mem_of_getElem? (i := 2453) (by decide +kernel), List.mem_of_getElem? (i := 2454) (by decide +kernel)⟩
theorem lw_p178 : lw_okq (⟨"ForthHouseModel", "ends", "(Z)V"⟩, 35) := ⟨⟨by decide +kernel, by decide +kernel⟩, List.mem_of_getElem? (i := 1977) (by decide +kernel), List.mem_of_getElem? (i := 2458) (by decide +kernel), List.mem_of_getElem? (i := 2459) (by decide +kernel)⟩
theorem lw_p179 : lw_okq (⟨"ForthHouseModel", "endDef", "()Z"⟩, 35) := ⟨⟨by decide +kernel, by decide +kernel⟩, List.mem_of_getElem? (i := 1977) (by decide +kernel), List.mem_of_getElem? (i := 2462) (by decide +kernel), List.mem_of_getElem? (i := 2463) (by decide +kernel)⟩
theorem lw_p180 : lw_okq (⟨"ForthHouseModel", "effectOf", "(I)V"⟩, 35) := ⟨⟨by decide +kernel, by decide +kernel⟩, List.mem_of_getElem? (i := 1977) (by decide +kernel), List.mem_of_getElem? (i := 2466) (by decide +kernel), List.mem_of_getElem? (i := 2467) (by decide +kernel)⟩
theorem lw_p181 : lw_okq (⟨"ForthHouseModel", "goThrough", "(IZII)V"⟩, 35) := ⟨⟨by decide +kernel, by decide +kernel⟩, List.mem_of_getElem? (i := 1977) (by decide +kernel), List.mem_of_getElem? (i := 2470) (by decide +kernel), List.mem_of_getElem? (i := 2471) (by decide +kernel)⟩
theorem lw_p182 : lw_okq (⟨"ForthHouseModel", "visit", "(IIZII)V"⟩, 35) := ⟨⟨by decide +kernel, by decide +kernel⟩, List.mem_of_getElem? (i := 1977) (by decide +kernel), List.mem_of_getElem? (i := 2474) (by decide +kernel), List.mem_of_getElem? (i := 2475) (by decide +kernel)⟩
theorem lw_p183 : lw_okq (⟨"ForthHouseModel", "visitWord", "(IIIZIIIII)V"⟩, 35) := ⟨⟨by decide +kernel, by decide +kernel⟩, List.mem_of_getElem? (i := 1977) (by decide +kernel), List.mem_of_getElem? (i := 2478) (by decide +kernel), List.mem_of_getElem? (i := 2479) (by decide +kernel)⟩
theorem lw_p184 : lw_okq (⟨"ForthHouseModel", "visitBuiltIn", "(IIIII)V"⟩, 35) := ⟨⟨by decide +kernel, by decide +kernel⟩, List.mem_of_getElem? (i := 1977) (by decide +kernel), List.mem_of_getElem? (i := 2482) (by decide +kernel), List.mem_of_getElem? (i := 2483) (by decide +kernel)⟩
theorem lw_p185 : lw_okq (⟨"ForthHouseModel", "ending", "(IIII)V"⟩, 35) := ⟨⟨by decide +kernel, by decide +kernel⟩, List.mem_of_getElem? (i := 1977) (by decide +kernel), List.mem_of_getElem? (i := 2486) (by decide +kernel), List.mem_of_getElem? (i := 2487) (by decide +kernel)⟩
theorem lw_p186 : lw_okq (⟨"ForthHouseModel", "conflict", "(II)V"⟩, 35) := ⟨⟨by decide +kernel, by decide +kernel⟩, List.mem_of_getElem? (i := 1977) (by decide +kernel), List.mem_of_getElem? (i := 2490) (by decide +kernel), List.mem_of_getElem? (i := 2491) (by decide +kernel)⟩
theorem lw_p187 : lw_okq (⟨"ForthHouseModel", "taking", "(III)I"⟩, 35) := ⟨⟨by decide +kernel, by decide +kernel⟩, List.mem_of_getElem? (i := 1977) (by decide +kernel), List.mem_of_getElem? (i := 2494) (by decide +kernel), List.mem_of_getElem? (i := 2495) (by decide +kernel)⟩
theorem lw_p188 : lw_okq (⟨"ForthHouseModel", "come", "(IIIII)V"⟩, 35) := ⟨⟨by decide +kernel, by decide +kernel⟩, List.mem_of_getElem? (i := 1977) (by decide +kernel), List.mem_of_getElem? (i := 2498) (by decide +kernel), List.mem_of_getElem? (i := 2499) (by decide +kernel)⟩
theorem lw_p189 : lw_okq (⟨"ForthHouseModel", "comeToo", "(IIIII)V"⟩, 35) := ⟨⟨by decide +kernel, by decide +kernel⟩, List.mem_of_getElem? (i := 1977) (by decide +kernel), List.mem_of_getElem? (i := 2502) (by decide +kernel), List.mem_of_getElem? (i := 2503) (by decide +kernel)⟩
theorem lw_p190 : lw_okq (⟨"ForthHouseModel", "lead", "(II)V"⟩, 35) := ⟨⟨by decide +kernel, by decide +kernel⟩, List.mem_of_getElem? (i := 1977) (by decide +kernel), List.mem_of_getElem? (i := 2506) (by decide +kernel), List.mem_of_getElem? (i := 2507) (by decide +kernel)⟩
theorem lw_p191 : lw_okq (⟨"ForthHouseModel", "literal", "(I)V"⟩, 35) := ⟨⟨by decide +kernel, by decide +kernel⟩, List.mem_of_getElem? (i := 1977) (by decide +kernel), List.mem_of_getElem? (i := 2510) (by decide +kernel), List.mem_of_getElem? (i := 2511) (by decide +kernel)⟩
def lw_privs_12 : List (MethodName × Nat) := [(⟨"ForthHouseModel", "here", "()I"⟩, 35), (⟨"ForthHouseModel", "def", "()I"⟩, 35), (⟨"ForthHouseModel", "ends", "(Z)V"⟩, 35), (⟨"ForthHouseModel", "endDef", "()Z"⟩, 35), (⟨"ForthHouseModel", "effectOf", "(I)V"⟩, 35), (⟨"ForthHouseModel", "goThrough", "(IZII)V"⟩, 35), (⟨"ForthHouseModel", "visit", "(IIZII)V"⟩, 35), (⟨"ForthHouseModel", "visitWord", "(IIIZIIIII)V"⟩, 35), (⟨"ForthHouseModel", "visitBuiltIn", "(IIIII)V"⟩, 35), (⟨"ForthHouseModel", "ending", "(IIII)V"⟩, 35), (⟨"ForthHouseModel", "conflict", "(II)V"⟩, 35), (⟨"ForthHouseModel", "taking", "(III)I"⟩, 35), (⟨"ForthHouseModel", "come", "(IIIII)V"⟩, 35), (⟨"ForthHouseModel", "comeToo", "(IIIII)V"⟩, 35), (⟨"ForthHouseModel", "lead", "(II)V"⟩, 35), (⟨"ForthHouseModel", "literal", "(I)V"⟩, 35)]
theorem lw_r12 : ∀ q ∈ lw_privs_12, lw_okq q := List.forall_mem_cons.mpr ⟨lw_p176, List.forall_mem_cons.mpr ⟨lw_p177, List.forall_mem_cons.mpr ⟨lw_p178, List.forall_mem_cons.mpr ⟨lw_p179, List.forall_mem_cons.mpr ⟨lw_p180, List.forall_mem_cons.mpr ⟨lw_p181, List.forall_mem_cons.mpr ⟨lw_p182, List.forall_mem_cons.mpr ⟨lw_p183, List.forall_mem_cons.mpr ⟨lw_p184, List.forall_mem_cons.mpr ⟨lw_p185, List.forall_mem_cons.mpr ⟨lw_p186, List.forall_mem_cons.mpr ⟨lw_p187, List.forall_mem_cons.mpr ⟨lw_p188, List.forall_mem_cons.mpr ⟨lw_p189, List.forall_mem_cons.mpr ⟨lw_p190, List.forall_mem_cons.mpr ⟨lw_p191, fun _ h => absurd h List.not_mem_nil⟩⟩⟩⟩⟩⟩⟩⟩⟩⟩⟩⟩⟩⟩⟩⟩
theorem lw_p192 : lw_okq (⟨"ForthHouseModel", "named", "()I"⟩, 35) := ⟨⟨by decide +kernel, by decide +kernel⟩, List.mem_of_getElem? (i := 1977) (by decide +kernel), List.mem_of_getElem? (i := 2514) (by decide +kernel), List.mem_of_getElem? (i := 2515) (by decide +kernel)⟩
theorem lw_p193 : lw_okq (⟨"ForthHouseModel", "search", "()I"⟩, 35) := ⟨⟨by decide +kernel, by decide +kernel⟩, List.mem_of_getElem? (i := 1977) (by decide +kernel), List.mem_of_getElem? (i := 2518) (by decide +kernel), List.mem_of_getElem? (i := 2519) (by decide +kernel)⟩
theorem lw_p194 : lw_okq (⟨"ForthHouseModel", "isName", "(II)Z"⟩, 35) := ⟨⟨by decide +kernel, by decide +kernel⟩, List.mem_of_getElem? (i := 1977) (by decide +kernel), List.mem_of_getElem? (i := 2522) (by decide +kernel), List.mem_of_getElem? (i := 2523) (by decide +kernel)⟩
theorem lw_p195 : lw_okq (⟨"ForthHouseModel", "lower", "(I)I"⟩, 35) := ⟨⟨by decide +kernel, by decide +kernel⟩, List.mem_of_getElem? (i := 1977) (by decide +kernel), List.mem_of_getElem? (i := 2526) (by decide +kernel), List.mem_of_getElem? (i := 2527) (by decide +kernel)⟩
theorem lw_p196 : lw_okq (⟨"ForthHouseModel", "postpone", "()V"⟩, 35) := ⟨⟨by decide +kernel, by decide +kernel⟩, List.mem_of_getElem? (i := 1977) (by decide +kernel), List.mem_of_getElem? (i := 2530) (by decide +kernel), List.mem_of_getElem? (i := 2531) (by decide +kernel)⟩
theorem lw_p197 : lw_okq (⟨"ForthHouseModel", "assign", "(Z)V"⟩, 35) := ⟨⟨by decide +kernel, by decide +kernel⟩, List.mem_of_getElem? (i := 1977) (by decide +kernel), List.mem_of_getElem? (i := 2534) (by decide +kernel), List.mem_of_getElem? (i := 2535) (by decide +kernel)⟩
theorem lw_p198 : lw_okq (⟨"ForthHouseModel", "local", "()I"⟩, 35) := ⟨⟨by decide +kernel, by decide +kernel⟩, List.mem_of_getElem? (i := 1977) (by decide +kernel), List.mem_of_getElem? (i := 2538) (by decide +kernel), List.mem_of_getElem? (i := 2539) (by decide +kernel)⟩
theorem lw_p199 : lw_okq (⟨"ForthHouseModel", "putValue", "(II)V"⟩, 35) := ⟨⟨by decide +kernel, by decide +kernel⟩, List.mem_of_getElem? (i := 1977) (by decide +kernel), List.mem_of_getElem? (i := 2542) (by decide +kernel), List.mem_of_getElem? (i := 2543) (by decide +kernel)⟩
theorem lw_p200 : lw_okq (⟨"ForthHouseModel", "string", "(I)V"⟩, 35) := ⟨⟨by decide +kernel, by decide +kernel⟩, List.mem_of_getElem? (i := 1977) (by decide +kernel), List.mem_of_getElem? (i := 2546) (by decide +kernel), List.mem_of_getElem? (i := 2547) (by decide +kernel)⟩
theorem lw_p201 : lw_okq (⟨"ForthHouseModel", "upTo", "(I)V"⟩, 35) := ⟨⟨by decide +kernel, by decide +kernel⟩, List.mem_of_getElem? (i := 1977) (by decide +kernel), List.mem_of_getElem? (i := 2550) (by decide +kernel), List.mem_of_getElem? (i := 2551) (by decide +kernel)⟩
theorem lw_p202 : lw_okq (⟨"ForthHouseModel", "layString", "()I"⟩, 35) := ⟨⟨by decide +kernel, by decide +kernel⟩, List.mem_of_getElem? (i := 1977) (by decide +kernel), List.mem_of_getElem? (i := 2554) (by decide +kernel), List.mem_of_getElem? (i := 2555) (by decide +kernel)⟩
theorem lw_p203 : lw_okq (⟨"ForthHouseModel", "comment", "()V"⟩, 35) := ⟨⟨by decide +kernel, by decide +kernel⟩, List.mem_of_getElem? (i := 1977) (by decide +kernel), List.mem_of_getElem? (i := 2559) (by decide +kernel), List.mem_of_getElem? (i := 2560) (by decide +kernel)⟩
theorem lw_p204 : lw_okq (⟨"ForthHouseModel", "locals", "()V"⟩, 35) := ⟨⟨by decide +kernel, by decide +kernel⟩, List.mem_of_getElem? (i := 1977) (by decide +kernel), List.mem_of_getElem? (i := 2564) (by decide +kernel), List.mem_of_getElem? (i := 2565) (by decide +kernel)⟩
theorem lw_p205 : lw_okq (⟨"ForthHouseModel", "is", "(Ljava/lang/String;)Z"⟩, 35) := ⟨⟨by decide +kernel, by decide +kernel⟩, List.mem_of_getElem? (i := 1977) (by decide +kernel), List.mem_of_getElem? (i := 2569) (by decide +kernel), List.mem_of_getElem? (i := 2570) (by decide +kernel)⟩
theorem lw_p206 : lw_okq (⟨"ForthHouseModel", "loops", "(I)V"⟩, 35) := ⟨⟨by decide +kernel, by decide +kernel⟩, List.mem_of_getElem? (i := 1977) (by decide +kernel), List.mem_of_getElem? (i := 2576) (by decide +kernel), List.mem_of_getElem? (i := 2577) (by decide +kernel)⟩
theorem lw_p207 : lw_okq (⟨"ForthHouseModel", "exit", "()V"⟩, 35) := ⟨⟨by decide +kernel, by decide +kernel⟩, List.mem_of_getElem? (i := 1977) (by decide +kernel), List.mem_of_getElem? (i := 2580) (by decide +kernel), List.mem_of_getElem? (i := 2581) (by decide +kernel)⟩
def lw_privs_13 : List (MethodName × Nat) := [(⟨"ForthHouseModel", "named", "()I"⟩, 35), (⟨"ForthHouseModel", "search", "()I"⟩, 35), (⟨"ForthHouseModel", "isName", "(II)Z"⟩, 35), (⟨"ForthHouseModel", "lower", "(I)I"⟩, 35), (⟨"ForthHouseModel", "postpone", "()V"⟩, 35), (⟨"ForthHouseModel", "assign", "(Z)V"⟩, 35), (⟨"ForthHouseModel", "local", "()I"⟩, 35), (⟨"ForthHouseModel", "putValue", "(II)V"⟩, 35), (⟨"ForthHouseModel", "string", "(I)V"⟩, 35), (⟨"ForthHouseModel", "upTo", "(I)V"⟩, 35), (⟨"ForthHouseModel", "layString", "()I"⟩, 35), (⟨"ForthHouseModel", "comment", "()V"⟩, 35), (⟨"ForthHouseModel", "locals", "()V"⟩, 35), (⟨"ForthHouseModel", "is", "(Ljava/lang/String;)Z"⟩, 35), (⟨"ForthHouseModel", "loops", "(I)V"⟩, 35), (⟨"ForthHouseModel", "exit", "()V"⟩, 35)]
theorem lw_r13 : ∀ q ∈ lw_privs_13, lw_okq q := List.forall_mem_cons.mpr ⟨lw_p192, List.forall_mem_cons.mpr ⟨lw_p193, List.forall_mem_cons.mpr ⟨lw_p194, List.forall_mem_cons.mpr ⟨lw_p195, List.forall_mem_cons.mpr ⟨lw_p196, List.forall_mem_cons.mpr ⟨lw_p197, List.forall_mem_cons.mpr ⟨lw_p198, List.forall_mem_cons.mpr ⟨lw_p199, List.forall_mem_cons.mpr ⟨lw_p200, List.forall_mem_cons.mpr ⟨lw_p201, List.forall_mem_cons.mpr ⟨lw_p202, List.forall_mem_cons.mpr ⟨lw_p203, List.forall_mem_cons.mpr ⟨lw_p204, List.forall_mem_cons.mpr ⟨lw_p205, List.forall_mem_cons.mpr ⟨lw_p206, List.forall_mem_cons.mpr ⟨lw_p207, fun _ h => absurd h List.not_mem_nil⟩⟩⟩⟩⟩⟩⟩⟩⟩⟩⟩⟩⟩⟩⟩⟩
theorem lw_p208 : lw_okq (⟨"ForthHouseModel", "open", "()I"⟩, 35) := ⟨⟨by decide +kernel, by decide +kernel⟩, List.mem_of_getElem? (i := 1977) (by decide +kernel), List.mem_of_getElem? (i := 2584) (by decide +kernel), List.mem_of_getElem? (i := 2585) (by decide +kernel)⟩
theorem lw_p209 : lw_okq (⟨"ForthHouseModel", "loopAt", "(I)I"⟩, 35) := ⟨⟨by decide +kernel, by decide +kernel⟩, List.mem_of_getElem? (i := 1977) (by decide +kernel), List.mem_of_getElem? (i := 2588) (by decide +kernel), List.mem_of_getElem? (i := 2589) (by decide +kernel)⟩
theorem lw_p210 : lw_okq (⟨"ForthHouseModel", "control", "(I)V"⟩, 35) := ⟨⟨by decide +kernel, by decide +kernel⟩, List.mem_of_getElem? (i := 1977) (by decide +kernel), List.mem_of_getElem? (i := 2592) (by decide +kernel), List.mem_of_getElem? (i := 2593) (by decide +kernel)⟩
theorem lw_p211 : lw_okq (⟨"ForthHouseModel", "origin", "(I)V"⟩, 35) := ⟨⟨by decide +kernel, by decide +kernel⟩, List.mem_of_getElem? (i := 1977) (by decide +kernel), List.mem_of_getElem? (i := 2596) (by decide +kernel), List.mem_of_getElem? (i := 2597) (by decide +kernel)⟩
theorem lw_p212 : lw_okq (⟨"ForthHouseModel", "pair", "(III)V"⟩, 35) := ⟨⟨by decide +kernel, by decide +kernel⟩, List.mem_of_getElem? (i := 1977) (by decide +kernel), List.mem_of_getElem? (i := 2600) (by decide +kernel), List.mem_of_getElem? (i := 2601) (by decide +kernel)⟩
theorem lw_p213 : lw_okq (⟨"ForthHouseModel", "then", "()V"⟩, 35) := ⟨⟨by decide +kernel, by decide +kernel⟩, List.mem_of_getElem? (i := 1977) (by decide +kernel), List.mem_of_getElem? (i := 2605) (by decide +kernel), List.mem_of_getElem? (i := 2606) (by decide +kernel)⟩
theorem lw_p214 : lw_okq (⟨"ForthHouseModel", "topPair", "(II)I"⟩, 35) := ⟨⟨by decide +kernel, by decide +kernel⟩, List.mem_of_getElem? (i := 1977) (by decide +kernel), List.mem_of_getElem? (i := 2609) (by decide +kernel), List.mem_of_getElem? (i := 2610) (by decide +kernel)⟩
theorem lw_p215 : lw_okq (⟨"ForthHouseModel", "drops", "()V"⟩, 35) := ⟨⟨by decide +kernel, by decide +kernel⟩, List.mem_of_getElem? (i := 1977) (by decide +kernel), List.mem_of_getElem? (i := 2613) (by decide +kernel), List.mem_of_getElem? (i := 2614) (by decide +kernel)⟩
theorem lw_p216 : lw_okq (⟨"ForthHouseModel", "back", "(I)V"⟩, 35) := ⟨⟨by decide +kernel, by decide +kernel⟩, List.mem_of_getElem? (i := 1977) (by decide +kernel), List.mem_of_getElem? (i := 2617) (by decide +kernel), List.mem_of_getElem? (i := 2618) (by decide +kernel)⟩
theorem lw_p217 : lw_okq (⟨"ForthHouseModel", "hasPair", "(I)Z"⟩, 35) := ⟨⟨by decide +kernel, by decide +kernel⟩, List.mem_of_getElem? (i := 1977) (by decide +kernel), List.mem_of_getElem? (i := 2621) (by decide +kernel), List.mem_of_getElem? (i := 2622) (by decide +kernel)⟩
theorem lw_p218 : lw_okq (⟨"ForthHouseModel", "swapPairs", "()V"⟩, 35) := ⟨⟨by decide +kernel, by decide +kernel⟩, List.mem_of_getElem? (i := 1977) (by decide +kernel), List.mem_of_getElem? (i := 2625) (by decide +kernel), List.mem_of_getElem? (i := 2626) (by decide +kernel)⟩
theorem lw_p219 : lw_okq (⟨"ForthHouseModel", "loopEnds", "(I)V"⟩, 35) := ⟨⟨by decide +kernel, by decide +kernel⟩, List.mem_of_getElem? (i := 1977) (by decide +kernel), List.mem_of_getElem? (i := 2629) (by decide +kernel), List.mem_of_getElem? (i := 2630) (by decide +kernel)⟩
theorem lw_p220 : lw_okq (⟨"ForthHouseModel", "settle", "(III)V"⟩, 35) := ⟨⟨by decide +kernel, by decide +kernel⟩, List.mem_of_getElem? (i := 1977) (by decide +kernel), List.mem_of_getElem? (i := 2633) (by decide +kernel), List.mem_of_getElem? (i := 2634) (by decide +kernel)⟩
theorem lw_p221 : lw_okq (⟨"ForthHouseModel", "innermost", "()I"⟩, 35) := ⟨⟨by decide +kernel, by decide +kernel⟩, List.mem_of_getElem? (i := 1977) (by decide +kernel), List.mem_of_getElem? (i := 2637) (by decide +kernel), List.mem_of_getElem? (i := 2638) (by decide +kernel)⟩
theorem lw_p222 : lw_okq (⟨"ForthHouseModel", "endCase", "()V"⟩, 35) := ⟨⟨by decide +kernel, by decide +kernel⟩, List.mem_of_getElem? (i := 1977) (by decide +kernel), List.mem_of_getElem? (i := 2641) (by decide +kernel), List.mem_of_getElem? (i := 2642) (by decide +kernel)⟩
theorem lw_p223 : lw_okq (⟨"ForthHouseModel", "orders", "(I)V"⟩, 35) := ⟨⟨by decide +kernel, by decide +kernel⟩, List.mem_of_getElem? (i := 1977) (by decide +kernel), List.mem_of_getElem? (i := 2645) (by decide +kernel), List.mem_of_getElem? (i := 2646) (by decide +kernel)⟩
def lw_privs_14 : List (MethodName × Nat) := [(⟨"ForthHouseModel", "open", "()I"⟩, 35), (⟨"ForthHouseModel", "loopAt", "(I)I"⟩, 35), (⟨"ForthHouseModel", "control", "(I)V"⟩, 35), (⟨"ForthHouseModel", "origin", "(I)V"⟩, 35), (⟨"ForthHouseModel", "pair", "(III)V"⟩, 35), (⟨"ForthHouseModel", "then", "()V"⟩, 35), (⟨"ForthHouseModel", "topPair", "(II)I"⟩, 35), (⟨"ForthHouseModel", "drops", "()V"⟩, 35), (⟨"ForthHouseModel", "back", "(I)V"⟩, 35), (⟨"ForthHouseModel", "hasPair", "(I)Z"⟩, 35), (⟨"ForthHouseModel", "swapPairs", "()V"⟩, 35), (⟨"ForthHouseModel", "loopEnds", "(I)V"⟩, 35), (⟨"ForthHouseModel", "settle", "(III)V"⟩, 35), (⟨"ForthHouseModel", "innermost", "()I"⟩, 35), (⟨"ForthHouseModel", "endCase", "()V"⟩, 35), (⟨"ForthHouseModel", "orders", "(I)V"⟩, 35)]
theorem lw_r14 : ∀ q ∈ lw_privs_14, lw_okq q := List.forall_mem_cons.mpr ⟨lw_p208, List.forall_mem_cons.mpr ⟨lw_p209, List.forall_mem_cons.mpr ⟨lw_p210, List.forall_mem_cons.mpr ⟨lw_p211, List.forall_mem_cons.mpr ⟨lw_p212, List.forall_mem_cons.mpr ⟨lw_p213, List.forall_mem_cons.mpr ⟨lw_p214, List.forall_mem_cons.mpr ⟨lw_p215, List.forall_mem_cons.mpr ⟨lw_p216, List.forall_mem_cons.mpr ⟨lw_p217, List.forall_mem_cons.mpr ⟨lw_p218, List.forall_mem_cons.mpr ⟨lw_p219, List.forall_mem_cons.mpr ⟨lw_p220, List.forall_mem_cons.mpr ⟨lw_p221, List.forall_mem_cons.mpr ⟨lw_p222, List.forall_mem_cons.mpr ⟨lw_p223, fun _ h => absurd h List.not_mem_nil⟩⟩⟩⟩⟩⟩⟩⟩⟩⟩⟩⟩⟩⟩⟩⟩
theorem lw_p224 : lw_okq (⟨"ForthHouseModel", "tasks", "(I)V"⟩, 35) := ⟨⟨by decide +kernel, by decide +kernel⟩, List.mem_of_getElem? (i := 1977) (by decide +kernel), List.mem_of_getElem? (i := 2649) (by decide +kernel), List.mem_of_getElem? (i := 2650) (by decide +kernel)⟩
theorem lw_p225 : lw_okq (⟨"ForthHouseModel", "emptyRows", "(I)V"⟩, 35) := ⟨⟨by decide +kernel, by decide +kernel⟩, List.mem_of_getElem? (i := 1977) (by decide +kernel), List.mem_of_getElem? (i := 2653) (by decide +kernel), List.mem_of_getElem? (i := 2654) (by decide +kernel)⟩
theorem lw_p226 : lw_okq (⟨"ForthHouseModel", "passes", "()Z"⟩, 35) := ⟨⟨by decide +kernel, by decide +kernel⟩, List.mem_of_getElem? (i := 1977) (by decide +kernel), List.mem_of_getElem? (i := 2657) (by decide +kernel), List.mem_of_getElem? (i := 2658) (by decide +kernel)⟩
theorem lw_p227 : lw_okq (⟨"ForthHouseModel", "taskEnds", "(I)V"⟩, 35) := ⟨⟨by decide +kernel, by decide +kernel⟩, List.mem_of_getElem? (i := 1977) (by decide +kernel), List.mem_of_getElem? (i := 2661) (by decide +kernel), List.mem_of_getElem? (i := 2662) (by decide +kernel)⟩
theorem lw_p228 : lw_okq (⟨"ForthHouseModel", "thrown", "()V"⟩, 35) := ⟨⟨by decide +kernel, by decide +kernel⟩, List.mem_of_getElem? (i := 1977) (by decide +kernel), List.mem_of_getElem? (i := 2665) (by decide +kernel), List.mem_of_getElem? (i := 2666) (by decide +kernel)⟩
theorem lw_p229 : lw_okq (⟨"ForthHouseModel", "restore", "(I)V"⟩, 35) := ⟨⟨by decide +kernel, by decide +kernel⟩, List.mem_of_getElem? (i := 1977) (by decide +kernel), List.mem_of_getElem? (i := 2669) (by decide +kernel), List.mem_of_getElem? (i := 2670) (by decide +kernel)⟩
theorem lw_p230 : lw_okq (⟨"ForthHouseModel", "outOf", "(I)V"⟩, 35) := ⟨⟨by decide +kernel, by decide +kernel⟩, List.mem_of_getElem? (i := 1977) (by decide +kernel), List.mem_of_getElem? (i := 2673) (by decide +kernel), List.mem_of_getElem? (i := 2674) (by decide +kernel)⟩
theorem lw_p231 : lw_okq (⟨"ForthHouseModel", "receive", "()V"⟩, 35) := ⟨⟨by decide +kernel, by decide +kernel⟩, List.mem_of_getElem? (i := 1977) (by decide +kernel), List.mem_of_getElem? (i := 2677) (by decide +kernel), List.mem_of_getElem? (i := 2678) (by decide +kernel)⟩
theorem lw_p232 : lw_okq (⟨"ForthHouseModel", "tests", "(I)V"⟩, 35) := ⟨⟨by decide +kernel, by decide +kernel⟩, List.mem_of_getElem? (i := 1977) (by decide +kernel), List.mem_of_getElem? (i := 2681) (by decide +kernel), List.mem_of_getElem? (i := 2682) (by decide +kernel)⟩
theorem lw_p233 : lw_okq (⟨"ForthHouseModel", "enter", "(I)V"⟩, 35) := ⟨⟨by decide +kernel, by decide +kernel⟩, List.mem_of_getElem? (i := 1977) (by decide +kernel), List.mem_of_getElem? (i := 2687) (by decide +kernel), List.mem_of_getElem? (i := 2688) (by decide +kernel)⟩
theorem lw_p234 : lw_okq (⟨"ForthHouseModel", "mark", "(IZ)V"⟩, 35) := ⟨⟨by decide +kernel, by decide +kernel⟩, List.mem_of_getElem? (i := 1977) (by decide +kernel), List.mem_of_getElem? (i := 2691) (by decide +kernel), List.mem_of_getElem? (i := 2692) (by decide +kernel)⟩
theorem lw_p235 : lw_okq (⟨"ForthHouseModel", "interpret", "()V"⟩, 35) := ⟨⟨by decide +kernel, by decide +kernel⟩, List.mem_of_getElem? (i := 1977) (by decide +kernel), List.mem_of_getElem? (i := 2695) (by decide +kernel), List.mem_of_getElem? (i := 2696) (by decide +kernel)⟩
theorem lw_p236 : lw_okq (⟨"ForthHouseModel", "textEnds", "()V"⟩, 35) := ⟨⟨by decide +kernel, by decide +kernel⟩, List.mem_of_getElem? (i := 1977) (by decide +kernel), List.mem_of_getElem? (i := 2699) (by decide +kernel), List.mem_of_getElem? (i := 2700) (by decide +kernel)⟩
theorem lw_p237 : lw_okq (⟨"ForthHouseModel", "isOnly", "(I)Z"⟩, 35) := ⟨⟨by decide +kernel, by decide +kernel⟩, List.mem_of_getElem? (i := 1977) (by decide +kernel), List.mem_of_getElem? (i := 2703) (by decide +kernel), List.mem_of_getElem? (i := 2704) (by decide +kernel)⟩
theorem lw_p238 : lw_okq (⟨"ForthHouseModel", "isNumber", "()Z"⟩, 35) := ⟨⟨by decide +kernel, by decide +kernel⟩, List.mem_of_getElem? (i := 1977) (by decide +kernel), List.mem_of_getElem? (i := 2707) (by decide +kernel), List.mem_of_getElem? (i := 2708) (by decide +kernel)⟩
theorem lw_p239 : lw_okq (⟨"ForthHouseModel", "runItem", "(I)V"⟩, 35) := ⟨⟨by decide +kernel, by decide +kernel⟩, List.mem_of_getElem? (i := 1977) (by decide +kernel), List.mem_of_getElem? (i := 2714) (by decide +kernel), List.mem_of_getElem? (i := 2715) (by decide +kernel)⟩
def lw_privs_15 : List (MethodName × Nat) := [(⟨"ForthHouseModel", "tasks", "(I)V"⟩, 35), (⟨"ForthHouseModel", "emptyRows", "(I)V"⟩, 35), (⟨"ForthHouseModel", "passes", "()Z"⟩, 35), (⟨"ForthHouseModel", "taskEnds", "(I)V"⟩, 35), (⟨"ForthHouseModel", "thrown", "()V"⟩, 35), (⟨"ForthHouseModel", "restore", "(I)V"⟩, 35), (⟨"ForthHouseModel", "outOf", "(I)V"⟩, 35), (⟨"ForthHouseModel", "receive", "()V"⟩, 35), (⟨"ForthHouseModel", "tests", "(I)V"⟩, 35), (⟨"ForthHouseModel", "enter", "(I)V"⟩, 35), (⟨"ForthHouseModel", "mark", "(IZ)V"⟩, 35), (⟨"ForthHouseModel", "interpret", "()V"⟩, 35), (⟨"ForthHouseModel", "textEnds", "()V"⟩, 35), (⟨"ForthHouseModel", "isOnly", "(I)Z"⟩, 35), (⟨"ForthHouseModel", "isNumber", "()Z"⟩, 35), (⟨"ForthHouseModel", "runItem", "(I)V"⟩, 35)]
theorem lw_r15 : ∀ q ∈ lw_privs_15, lw_okq q := List.forall_mem_cons.mpr ⟨lw_p224, List.forall_mem_cons.mpr ⟨lw_p225, List.forall_mem_cons.mpr ⟨lw_p226, List.forall_mem_cons.mpr ⟨lw_p227, List.forall_mem_cons.mpr ⟨lw_p228, List.forall_mem_cons.mpr ⟨lw_p229, List.forall_mem_cons.mpr ⟨lw_p230, List.forall_mem_cons.mpr ⟨lw_p231, List.forall_mem_cons.mpr ⟨lw_p232, List.forall_mem_cons.mpr ⟨lw_p233, List.forall_mem_cons.mpr ⟨lw_p234, List.forall_mem_cons.mpr ⟨lw_p235, List.forall_mem_cons.mpr ⟨lw_p236, List.forall_mem_cons.mpr ⟨lw_p237, List.forall_mem_cons.mpr ⟨lw_p238, List.forall_mem_cons.mpr ⟨lw_p239, fun _ h => absurd h List.not_mem_nil⟩⟩⟩⟩⟩⟩⟩⟩⟩⟩⟩⟩⟩⟩⟩⟩
theorem lw_p240 : lw_okq (⟨"ForthHouseModel", "doItem", "(III)V"⟩, 35) := ⟨⟨by decide +kernel, by decide +kernel⟩, List.mem_of_getElem? (i := 1977) (by decide +kernel), List.mem_of_getElem? (i := 2718) (by decide +kernel), List.mem_of_getElem? (i := 2719) (by decide +kernel)⟩
theorem lw_p241 : lw_okq (⟨"ForthHouseModel", "beginLoop", "(II)V"⟩, 35) := ⟨⟨by decide +kernel, by decide +kernel⟩, List.mem_of_getElem? (i := 1977) (by decide +kernel), List.mem_of_getElem? (i := 2722) (by decide +kernel), List.mem_of_getElem? (i := 2723) (by decide +kernel)⟩
theorem lw_p242 : lw_okq (⟨"ForthHouseModel", "goOn", "(IIJ)V"⟩, 35) := ⟨⟨by decide +kernel, by decide +kernel⟩, List.mem_of_getElem? (i := 1977) (by decide +kernel), List.mem_of_getElem? (i := 2726) (by decide +kernel), List.mem_of_getElem? (i := 2727) (by decide +kernel)⟩
theorem lw_p243 : lw_okq (⟨"ForthHouseModel", "doLocal", "(III)V"⟩, 35) := ⟨⟨by decide +kernel, by decide +kernel⟩, List.mem_of_getElem? (i := 1977) (by decide +kernel), List.mem_of_getElem? (i := 2730) (by decide +kernel), List.mem_of_getElem? (i := 2731) (by decide +kernel)⟩
theorem lw_p244 : lw_okq (⟨"ForthHouseModel", "isLocal", "(II)Z"⟩, 35) := ⟨⟨by decide +kernel, by decide +kernel⟩, List.mem_of_getElem? (i := 1977) (by decide +kernel), List.mem_of_getElem? (i := 2734) (by decide +kernel), List.mem_of_getElem? (i := 2735) (by decide +kernel)⟩
theorem lw_p245 : lw_okq (⟨"ForthHouseModel", "isOf", "(II)Z"⟩, 35) := ⟨⟨by decide +kernel, by decide +kernel⟩, List.mem_of_getElem? (i := 1977) (by decide +kernel), List.mem_of_getElem? (i := 2778) (by decide +kernel), List.mem_of_getElem? (i := 2779) (by decide +kernel)⟩
theorem lw_p246 : lw_okq (⟨"ForthHouseModel", "isEnded", "(II)Z"⟩, 35) := ⟨⟨by decide +kernel, by decide +kernel⟩, List.mem_of_getElem? (i := 1977) (by decide +kernel), List.mem_of_getElem? (i := 2794) (by decide +kernel), List.mem_of_getElem? (i := 2795) (by decide +kernel)⟩
theorem lw_p247 : lw_okq (⟨"ForthHouseModel", "laysLed", "(I)V"⟩, 35) := ⟨⟨by decide +kernel, by decide +kernel⟩, List.mem_of_getElem? (i := 1977) (by decide +kernel), List.mem_of_getElem? (i := 2806) (by decide +kernel), List.mem_of_getElem? (i := 2807) (by decide +kernel)⟩
theorem lw_p248 : lw_okq (⟨"ForthHouseModel", "leanAt", "(II)Z"⟩, 35) := ⟨⟨by decide +kernel, by decide +kernel⟩, List.mem_of_getElem? (i := 1977) (by decide +kernel), List.mem_of_getElem? (i := 2810) (by decide +kernel), List.mem_of_getElem? (i := 2811) (by decide +kernel)⟩
theorem lw_p249 : lw_okq (⟨"ForthHouseModel", "drop", "(III)V"⟩, 35) := ⟨⟨by decide +kernel, by decide +kernel⟩, List.mem_of_getElem? (i := 1977) (by decide +kernel), List.mem_of_getElem? (i := 2814) (by decide +kernel), List.mem_of_getElem? (i := 2815) (by decide +kernel)⟩
theorem lw_p250 : lw_okq (⟨"ForthHouseModel", "isLed", "(II)Z"⟩, 35) := ⟨⟨by decide +kernel, by decide +kernel⟩, List.mem_of_getElem? (i := 1977) (by decide +kernel), List.mem_of_getElem? (i := 2818) (by decide +kernel), List.mem_of_getElem? (i := 2819) (by decide +kernel)⟩
theorem lw_p251 : lw_okq (⟨"ForthHouseModel", "fold", "(IIIZ)I"⟩, 35) := ⟨⟨by decide +kernel, by decide +kernel⟩, List.mem_of_getElem? (i := 1977) (by decide +kernel), List.mem_of_getElem? (i := 2825) (by decide +kernel), List.mem_of_getElem? (i := 2826) (by decide +kernel)⟩
theorem lw_p252 : lw_okq (⟨"ForthHouseModel", "partOf", "(I)I"⟩, 35) := ⟨⟨by decide +kernel, by decide +kernel⟩, List.mem_of_getElem? (i := 1977) (by decide +kernel), List.mem_of_getElem? (i := 2836) (by decide +kernel), List.mem_of_getElem? (i := 2837) (by decide +kernel)⟩
theorem lw_p253 : lw_okq (⟨"ForthHouseModel", "measures", "(I)Z"⟩, 35) := ⟨⟨by decide +kernel, by decide +kernel⟩, List.mem_of_getElem? (i := 1977) (by decide +kernel), List.mem_of_getElem? (i := 2840) (by decide +kernel), List.mem_of_getElem? (i := 2841) (by decide +kernel)⟩
theorem lw_p254 : lw_okq (⟨"ForthHouseModel", "chipWords", "(I)I"⟩, 35) := ⟨⟨by decide +kernel, by decide +kernel⟩, List.mem_of_getElem? (i := 1977) (by decide +kernel), List.mem_of_getElem? (i := 2844) (by decide +kernel), List.mem_of_getElem? (i := 2845) (by decide +kernel)⟩
theorem lw_p255 : lw_okq (⟨"ForthHouseModel", "lays", "(I)V"⟩, 35) := ⟨⟨by decide +kernel, by decide +kernel⟩, List.mem_of_getElem? (i := 1977) (by decide +kernel), List.mem_of_getElem? (i := 2848) (by decide +kernel), List.mem_of_getElem? (i := 2849) (by decide +kernel)⟩
def lw_privs_16 : List (MethodName × Nat) := [(⟨"ForthHouseModel", "doItem", "(III)V"⟩, 35), (⟨"ForthHouseModel", "beginLoop", "(II)V"⟩, 35), (⟨"ForthHouseModel", "goOn", "(IIJ)V"⟩, 35), (⟨"ForthHouseModel", "doLocal", "(III)V"⟩, 35), (⟨"ForthHouseModel", "isLocal", "(II)Z"⟩, 35), (⟨"ForthHouseModel", "isOf", "(II)Z"⟩, 35), (⟨"ForthHouseModel", "isEnded", "(II)Z"⟩, 35), (⟨"ForthHouseModel", "laysLed", "(I)V"⟩, 35), (⟨"ForthHouseModel", "leanAt", "(II)Z"⟩, 35), (⟨"ForthHouseModel", "drop", "(III)V"⟩, 35), (⟨"ForthHouseModel", "isLed", "(II)Z"⟩, 35), (⟨"ForthHouseModel", "fold", "(IIIZ)I"⟩, 35), (⟨"ForthHouseModel", "partOf", "(I)I"⟩, 35), (⟨"ForthHouseModel", "measures", "(I)Z"⟩, 35), (⟨"ForthHouseModel", "chipWords", "(I)I"⟩, 35), (⟨"ForthHouseModel", "lays", "(I)V"⟩, 35)]
theorem lw_r16 : ∀ q ∈ lw_privs_16, lw_okq q := List.forall_mem_cons.mpr ⟨lw_p240, List.forall_mem_cons.mpr ⟨lw_p241, List.forall_mem_cons.mpr ⟨lw_p242, List.forall_mem_cons.mpr ⟨lw_p243, List.forall_mem_cons.mpr ⟨lw_p244, List.forall_mem_cons.mpr ⟨lw_p245, List.forall_mem_cons.mpr ⟨lw_p246, List.forall_mem_cons.mpr ⟨lw_p247, List.forall_mem_cons.mpr ⟨lw_p248, List.forall_mem_cons.mpr ⟨lw_p249, List.forall_mem_cons.mpr ⟨lw_p250, List.forall_mem_cons.mpr ⟨lw_p251, List.forall_mem_cons.mpr ⟨lw_p252, List.forall_mem_cons.mpr ⟨lw_p253, List.forall_mem_cons.mpr ⟨lw_p254, List.forall_mem_cons.mpr ⟨lw_p255, fun _ h => absurd h List.not_mem_nil⟩⟩⟩⟩⟩⟩⟩⟩⟩⟩⟩⟩⟩⟩⟩⟩
theorem lw_p256 : lw_okq (⟨"ForthHouseModel", "lookChip", "()V"⟩, 35) := ⟨⟨by decide +kernel, by decide +kernel⟩, List.mem_of_getElem? (i := 1977) (by decide +kernel), List.mem_of_getElem? (i := 2863) (by decide +kernel), List.mem_of_getElem? (i := 2864) (by decide +kernel)⟩
theorem lw_p257 : lw_okq (⟨"ForthHouseModel", "chipStep", "()V"⟩, 35) := ⟨⟨by decide +kernel, by decide +kernel⟩, List.mem_of_getElem? (i := 1977) (by decide +kernel), List.mem_of_getElem? (i := 2871) (by decide +kernel), List.mem_of_getElem? (i := 2872) (by decide +kernel)⟩
theorem lw_p258 : lw_okq (⟨"ForthHouseModel", "chipExit", "()V"⟩, 35) := ⟨⟨by decide +kernel, by decide +kernel⟩, List.mem_of_getElem? (i := 1977) (by decide +kernel), List.mem_of_getElem? (i := 2876) (by decide +kernel), List.mem_of_getElem? (i := 2877) (by decide +kernel)⟩
theorem lw_p259 : lw_okq (⟨"ForthHouseModel", "copy", "(II)V"⟩, 35) := ⟨⟨by decide +kernel, by decide +kernel⟩, List.mem_of_getElem? (i := 1977) (by decide +kernel), List.mem_of_getElem? (i := 2905) (by decide +kernel), List.mem_of_getElem? (i := 2906) (by decide +kernel)⟩
theorem lw_p260 : lw_okq (⟨"ForthHouseModel", "tasksAlike", "(II)Z"⟩, 35) := ⟨⟨by decide +kernel, by decide +kernel⟩, List.mem_of_getElem? (i := 1977) (by decide +kernel), List.mem_of_getElem? (i := 2920) (by decide +kernel), List.mem_of_getElem? (i := 2921) (by decide +kernel)⟩
def lw_privs_17 : List (MethodName × Nat) := [(⟨"ForthHouseModel", "lookChip", "()V"⟩, 35), (⟨"ForthHouseModel", "chipStep", "()V"⟩, 35), (⟨"ForthHouseModel", "chipExit", "()V"⟩, 35), (⟨"ForthHouseModel", "copy", "(II)V"⟩, 35), (⟨"ForthHouseModel", "tasksAlike", "(II)Z"⟩, 35)]
theorem lw_r17 : ∀ q ∈ lw_privs_17, lw_okq q := List.forall_mem_cons.mpr ⟨lw_p256, List.forall_mem_cons.mpr ⟨lw_p257, List.forall_mem_cons.mpr ⟨lw_p258, List.forall_mem_cons.mpr ⟨lw_p259, List.forall_mem_cons.mpr ⟨lw_p260, fun _ h => absurd h List.not_mem_nil⟩⟩⟩⟩⟩
def lw_privs : List (MethodName × Nat) := lw_privs_1 ++ (lw_privs_2 ++ (lw_privs_3 ++ (lw_privs_4 ++ (lw_privs_5 ++ (lw_privs_6 ++ (lw_privs_7 ++ (lw_privs_8 ++ (lw_privs_9 ++ (lw_privs_10 ++ (lw_privs_11 ++ (lw_privs_12 ++ (lw_privs_13 ++ (lw_privs_14 ++ (lw_privs_15 ++ (lw_privs_16 ++ (lw_privs_17))))))))))))))))
def lw_tbl : List Cond := k2_sels lw_privs ++ tables_1
theorem lw_privs_ok : ∀ q ∈ lw_privs, lw_okq q := by
  show ∀ q ∈ lw_privs_1 ++ (lw_privs_2 ++ (lw_privs_3 ++ (lw_privs_4 ++ (lw_privs_5 ++ (lw_privs_6 ++ (lw_privs_7 ++ (lw_privs_8 ++ (lw_privs_9 ++ (lw_privs_10 ++ (lw_privs_11 ++ (lw_privs_12 ++ (lw_privs_13 ++ (lw_privs_14 ++ (lw_privs_15 ++ (lw_privs_16 ++ (lw_privs_17)))))))))))))))), lw_okq q
  exact List.forall_mem_append.mpr ⟨lw_r1, List.forall_mem_append.mpr ⟨lw_r2, List.forall_mem_append.mpr ⟨lw_r3, List.forall_mem_append.mpr ⟨lw_r4, List.forall_mem_append.mpr ⟨lw_r5, List.forall_mem_append.mpr ⟨lw_r6, List.forall_mem_append.mpr ⟨lw_r7, List.forall_mem_append.mpr ⟨lw_r8, List.forall_mem_append.mpr ⟨lw_r9, List.forall_mem_append.mpr ⟨lw_r10, List.forall_mem_append.mpr ⟨lw_r11, List.forall_mem_append.mpr ⟨lw_r12, List.forall_mem_append.mpr ⟨lw_r13, List.forall_mem_append.mpr ⟨lw_r14, List.forall_mem_append.mpr ⟨lw_r15, List.forall_mem_append.mpr ⟨lw_r16, lw_r17⟩⟩⟩⟩⟩⟩⟩⟩⟩⟩⟩⟩⟩⟩⟩⟩
end
section
/-! NAMES (printed by the kit): classes, fields, methods -/
def RX0 : String := "ForthHouse$Chip"
def TX0 : u_T := fun k => match k with
  | 0 => ("ForthHouse$Chip", "words", "[I", true)
  | 1 => ("ForthHouse$Chip", "length", "I", false)
  | 2 => ("ForthHouse$Chip", "space", "LForthHouse$Space;", true)
  | 3 => ("ForthHouse$Chip", "rows", "LForthHouse$Task;", true)
  | 4 => ("ForthHouse$Chip", "state", "I", false)
  | 5 => ("ForthHouse$Chip", "fault", "I", false)
  | 6 => ("ForthHouse$Chip", "done", "I", false)
  | 7 => ("ForthHouse$Chip", "places", "[I", true)
  | 8 => ("ForthHouse$Chip", "starts", "[I", true)
  | 9 => ("ForthHouse$Chip", "queue", "[I", true)
  | _ => ("ForthHouse$Chip", "met", "I", false)
def tyX0 : Nat → FieldType := fun k => match k with
  | 0 => .array .int
  | 1 => .int
  | 2 => .object "ForthHouse$Space"
  | 3 => .object "ForthHouse$Task"
  | 4 => .int
  | 5 => .int
  | 6 => .int
  | 7 => .array .int
  | 8 => .array .int
  | 9 => .array .int
  | _ => .int
theorem nmX0 : ∀ a, a < 11 → ∀ b, b < 11 → a ≠ b → (TX0 a).2.1 ≠ (TX0 b).2.1 := by decide +kernel
theorem tyX0_ok : ∀ k, k < 11 → parseFieldDescriptor (TX0 k).2.2.1 = some (tyX0 k) := by decide +kernel
def RX1 : String := "ForthHouse$Forth"
def TX1 : u_T := fun k => match k with
  | 0 => ("ForthHouse$Forth", "space", "LForthHouse$Space;", true)
  | 1 => ("ForthHouse$Forth", "words", "LForthHouse$Words;", true)
  | 2 => ("ForthHouse$Forth", "items", "LForthHouse$Items;", true)
  | 3 => ("ForthHouse$Forth", "texts", "LForthHouse$Texts;", true)
  | 4 => ("ForthHouse$Forth", "making", "LForthHouse$Making;", true)
  | 5 => ("ForthHouse$Forth", "lists", "LForthHouse$Lists;", true)
  | 6 => ("ForthHouse$Forth", "sink", "LForthHouse$Sink;", true)
  | 7 => ("ForthHouse$Forth", "judge", "LForthHouse$Judge;", true)
  | 8 => ("ForthHouse$Forth", "tasks", "[LForthHouse$Task;", true)
  | 9 => ("ForthHouse$Forth", "at", "I", false)
  | 10 => ("ForthHouse$Forth", "steps", "I", false)
  | 11 => ("ForthHouse$Forth", "thrownCode", "I", false)
  | 12 => ("ForthHouse$Forth", "thrownIn", "I", false)
  | 13 => ("ForthHouse$Forth", "thrownTexts", "I", false)
  | 14 => ("ForthHouse$Forth", "todo", "I", false)
  | 15 => ("ForthHouse$Forth", "direct", "Z", false)
  | 16 => ("ForthHouse$Forth", "ended", "I", false)
  | _ => ("ForthHouse$Forth", "outside", "Z", false)
def tyX1 : Nat → FieldType := fun k => match k with
  | 0 => .object "ForthHouse$Space"
  | 1 => .object "ForthHouse$Words"
  | 2 => .object "ForthHouse$Items"
  | 3 => .object "ForthHouse$Texts"
  | 4 => .object "ForthHouse$Making"
  | 5 => .object "ForthHouse$Lists"
  | 6 => .object "ForthHouse$Sink"
  | 7 => .object "ForthHouse$Judge"
  | 8 => .array (.object "ForthHouse$Task")
  | 9 => .int
  | 10 => .int
  | 11 => .int
  | 12 => .int
  | 13 => .int
  | 14 => .int
  | 15 => .boolean
  | 16 => .int
  | _ => .boolean
theorem nmX1 : ∀ a, a < 18 → ∀ b, b < 18 → a ≠ b → (TX1 a).2.1 ≠ (TX1 b).2.1 := by decide +kernel
theorem tyX1_ok : ∀ k, k < 18 → parseFieldDescriptor (TX1 k).2.2.1 = some (tyX1 k) := by decide +kernel
def RX2 : String := "ForthHouse$Items"
def TX2 : u_T := fun k => match k with
  | 0 => ("ForthHouse$Items", "kinds", "[B", true)
  | 1 => ("ForthHouse$Items", "numbers", "[I", true)
  | _ => ("ForthHouse$Items", "total", "I", false)
def tyX2 : Nat → FieldType := fun k => match k with
  | 0 => .array .byte
  | 1 => .array .int
  | _ => .int
theorem nmX2 : ∀ a, a < 3 → ∀ b, b < 3 → a ≠ b → (TX2 a).2.1 ≠ (TX2 b).2.1 := by decide +kernel
theorem tyX2_ok : ∀ k, k < 3 → parseFieldDescriptor (TX2 k).2.2.1 = some (tyX2 k) := by decide +kernel
def RX3 : String := "ForthHouse$Judge"
def TX3 : u_T := fun k => match k with
  | 0 => ("ForthHouse$Judge", "words", "LForthHouse$Words;", true)
  | 1 => ("ForthHouse$Judge", "items", "LForthHouse$Items;", true)
  | 2 => ("ForthHouse$Judge", "desk", "LForthHouse$Task;", true)
  | 3 => ("ForthHouse$Judge", "heights", "[I", true)
  | 4 => ("ForthHouse$Judge", "returns", "[I", true)
  | 5 => ("ForthHouse$Judge", "loops", "[I", true)
  | 6 => ("ForthHouse$Judge", "seen", "[B", true)
  | 7 => ("ForthHouse$Judge", "token", "I", false)
  | 8 => ("ForthHouse$Judge", "first", "I", false)
  | 9 => ("ForthHouse$Judge", "end", "I", false)
  | 10 => ("ForthHouse$Judge", "low", "I", false)
  | 11 => ("ForthHouse$Judge", "result", "I", false)
  | 12 => ("ForthHouse$Judge", "spot", "I", false)
  | 13 => ("ForthHouse$Judge", "lowest", "I", false)
  | 14 => ("ForthHouse$Judge", "exitHeight", "I", false)
  | 15 => ("ForthHouse$Judge", "exits", "Z", false)
  | 16 => ("ForthHouse$Judge", "selfMet", "Z", false)
  | 17 => ("ForthHouse$Judge", "selfKnown", "Z", false)
  | 18 => ("ForthHouse$Judge", "selfIn", "I", false)
  | _ => ("ForthHouse$Judge", "selfOut", "I", false)
def tyX3 : Nat → FieldType := fun k => match k with
  | 0 => .object "ForthHouse$Words"
  | 1 => .object "ForthHouse$Items"
  | 2 => .object "ForthHouse$Task"
  | 3 => .array .int
  | 4 => .array .int
  | 5 => .array .int
  | 6 => .array .byte
  | 7 => .int
  | 8 => .int
  | 9 => .int
  | 10 => .int
  | 11 => .int
  | 12 => .int
  | 13 => .int
  | 14 => .int
  | 15 => .boolean
  | 16 => .boolean
  | 17 => .boolean
  | 18 => .int
  | _ => .int
theorem nmX3 : ∀ a, a < 20 → ∀ b, b < 20 → a ≠ b → (TX3 a).2.1 ≠ (TX3 b).2.1 := by decide +kernel
theorem tyX3_ok : ∀ k, k < 20 → parseFieldDescriptor (TX3 k).2.2.1 = some (tyX3 k) := by decide +kernel
def RX4 : String := "ForthHouse$Lists"
def TX4 : u_T := fun k => match k with
  | 0 => ("ForthHouse$Lists", "order", "[I", true)
  | 1 => ("ForthHouse$Lists", "orderCount", "I", false)
  | 2 => ("ForthHouse$Lists", "total", "I", false)
  | 3 => ("ForthHouse$Lists", "current", "I", false)
  | 4 => ("ForthHouse$Lists", "markers", "I", false)
  | 5 => ("ForthHouse$Lists", "markItems", "[I", true)
  | 6 => ("ForthHouse$Lists", "markLists", "[I", true)
  | 7 => ("ForthHouse$Lists", "markHeres", "[I", true)
  | 8 => ("ForthHouse$Lists", "markLatest", "[I", true)
  | 9 => ("ForthHouse$Lists", "markCurrents", "[I", true)
  | 10 => ("ForthHouse$Lists", "markCounts", "[I", true)
  | _ => ("ForthHouse$Lists", "markOrders", "[I", true)
def tyX4 : Nat → FieldType := fun k => match k with
  | 0 => .array .int
  | 1 => .int
  | 2 => .int
  | 3 => .int
  | 4 => .int
  | 5 => .array .int
  | 6 => .array .int
  | 7 => .array .int
  | 8 => .array .int
  | 9 => .array .int
  | 10 => .array .int
  | _ => .array .int
theorem nmX4 : ∀ a, a < 12 → ∀ b, b < 12 → a ≠ b → (TX4 a).2.1 ≠ (TX4 b).2.1 := by decide +kernel
theorem tyX4_ok : ∀ k, k < 12 → parseFieldDescriptor (TX4 k).2.2.1 = some (tyX4 k) := by decide +kernel
def RX5 : String := "ForthHouse$Making"
def TX5 : u_T := fun k => match k with
  | 0 => ("ForthHouse$Making", "items", "LForthHouse$Items;", true)
  | 1 => ("ForthHouse$Making", "compiling", "Z", false)
  | 2 => ("ForthHouse$Making", "nameless", "Z", false)
  | 3 => ("ForthHouse$Making", "latestBefore", "I", false)
  | 4 => ("ForthHouse$Making", "open", "I", false)
  | 5 => ("ForthHouse$Making", "tokens", "[I", true)
  | 6 => ("ForthHouse$Making", "bases", "[I", true)
  | 7 => ("ForthHouse$Making", "overs", "[I", true)
  | 8 => ("ForthHouse$Making", "marks", "[I", true)
  | 9 => ("ForthHouse$Making", "localCounts", "[I", true)
  | 10 => ("ForthHouse$Making", "localLengths", "[B", true)
  | 11 => ("ForthHouse$Making", "localNames", "[B", true)
  | 12 => ("ForthHouse$Making", "pairs", "I", false)
  | 13 => ("ForthHouse$Making", "pairKinds", "[I", true)
  | _ => ("ForthHouse$Making", "pairPlaces", "[I", true)
def tyX5 : Nat → FieldType := fun k => match k with
  | 0 => .object "ForthHouse$Items"
  | 1 => .boolean
  | 2 => .boolean
  | 3 => .int
  | 4 => .int
  | 5 => .array .int
  | 6 => .array .int
  | 7 => .array .int
  | 8 => .array .int
  | 9 => .array .int
  | 10 => .array .byte
  | 11 => .array .byte
  | 12 => .int
  | 13 => .array .int
  | _ => .array .int
theorem nmX5 : ∀ a, a < 15 → ∀ b, b < 15 → a ≠ b → (TX5 a).2.1 ≠ (TX5 b).2.1 := by decide +kernel
theorem tyX5_ok : ∀ k, k < 15 → parseFieldDescriptor (TX5 k).2.2.1 = some (tyX5 k) := by decide +kernel
def RX6 : String := "ForthHouse$Sink"
def TX6 : u_T := fun k => match k with
  | 0 => ("ForthHouse$Sink", "bytes", "[B", true)
  | 1 => ("ForthHouse$Sink", "total", "I", false)
  | 2 => ("ForthHouse$Sink", "digits", "[B", true)
  | 3 => ("ForthHouse$Sink", "noted", "I", false)
  | 4 => ("ForthHouse$Sink", "kept", "[I", true)
  | 5 => ("ForthHouse$Sink", "keptCount", "I", false)
  | 6 => ("ForthHouse$Sink", "good", "I", false)
  | _ => ("ForthHouse$Sink", "bad", "I", false)
def tyX6 : Nat → FieldType := fun k => match k with
  | 0 => .array .byte
  | 1 => .int
  | 2 => .array .byte
  | 3 => .int
  | 4 => .array .int
  | 5 => .int
  | 6 => .int
  | _ => .int
theorem nmX6 : ∀ a, a < 8 → ∀ b, b < 8 → a ≠ b → (TX6 a).2.1 ≠ (TX6 b).2.1 := by decide +kernel
theorem tyX6_ok : ∀ k, k < 8 → parseFieldDescriptor (TX6 k).2.2.1 = some (tyX6 k) := by decide +kernel
def RX7 : String := "ForthHouse$Space"
def TX7 : u_T := fun k => match k with
  | 0 => ("ForthHouse$Space", "bytes", "[B", true)
  | 1 => ("ForthHouse$Space", "cellBytes", "I", false)
  | 2 => ("ForthHouse$Space", "choices", "I", false)
  | 3 => ("ForthHouse$Space", "here", "I", false)
  | _ => ("ForthHouse$Space", "picture", "I", false)
def tyX7 : Nat → FieldType := fun k => match k with
  | 0 => .array .byte
  | 1 => .int
  | 2 => .int
  | 3 => .int
  | _ => .int
theorem nmX7 : ∀ a, a < 5 → ∀ b, b < 5 → a ≠ b → (TX7 a).2.1 ≠ (TX7 b).2.1 := by decide +kernel
theorem tyX7_ok : ∀ k, k < 5 → parseFieldDescriptor (TX7 k).2.2.1 = some (tyX7 k) := by decide +kernel
def RX8 : String := "ForthHouse$Task"
def TX8 : u_T := fun k => match k with
  | 0 => ("ForthHouse$Task", "space", "LForthHouse$Space;", true)
  | 1 => ("ForthHouse$Task", "data", "[I", true)
  | 2 => ("ForthHouse$Task", "returns", "[I", true)
  | 3 => ("ForthHouse$Task", "loops", "[I", true)
  | 4 => ("ForthHouse$Task", "locals", "[I", true)
  | 5 => ("ForthHouse$Task", "frames", "[I", true)
  | 6 => ("ForthHouse$Task", "box", "[I", true)
  | 7 => ("ForthHouse$Task", "dataCount", "I", false)
  | 8 => ("ForthHouse$Task", "returnCount", "I", false)
  | 9 => ("ForthHouse$Task", "loopCount", "I", false)
  | 10 => ("ForthHouse$Task", "localCount", "I", false)
  | 11 => ("ForthHouse$Task", "frameCount", "I", false)
  | 12 => ("ForthHouse$Task", "boxCount", "I", false)
  | 13 => ("ForthHouse$Task", "place", "I", false)
  | 14 => ("ForthHouse$Task", "state", "I", false)
  | 15 => ("ForthHouse$Task", "code", "I", false)
  | 16 => ("ForthHouse$Task", "token", "I", false)
  | _ => ("ForthHouse$Task", "takes", "Z", false)
def tyX8 : Nat → FieldType := fun k => match k with
  | 0 => .object "ForthHouse$Space"
  | 1 => .array .int
  | 2 => .array .int
  | 3 => .array .int
  | 4 => .array .int
  | 5 => .array .int
  | 6 => .array .int
  | 7 => .int
  | 8 => .int
  | 9 => .int
  | 10 => .int
  | 11 => .int
  | 12 => .int
  | 13 => .int
  | 14 => .int
  | 15 => .int
  | 16 => .int
  | _ => .boolean
theorem nmX8 : ∀ a, a < 18 → ∀ b, b < 18 → a ≠ b → (TX8 a).2.1 ≠ (TX8 b).2.1 := by decide +kernel
theorem tyX8_ok : ∀ k, k < 18 → parseFieldDescriptor (TX8 k).2.2.1 = some (tyX8 k) := by decide +kernel
def RX9 : String := "ForthHouse$Texts"
def TX9 : u_T := fun k => match k with
  | 0 => ("ForthHouse$Texts", "space", "LForthHouse$Space;", true)
  | 1 => ("ForthHouse$Texts", "main", "[B", true)
  | 2 => ("ForthHouse$Texts", "blocks", "[B", true)
  | 3 => ("ForthHouse$Texts", "kinds", "[I", true)
  | 4 => ("ForthHouse$Texts", "places", "[I", true)
  | 5 => ("ForthHouse$Texts", "lengths", "[I", true)
  | 6 => ("ForthHouse$Texts", "waits", "[I", true)
  | 7 => ("ForthHouse$Texts", "read", "[B", true)
  | 8 => ("ForthHouse$Texts", "readLength", "I", false)
  | 9 => ("ForthHouse$Texts", "mainLength", "I", false)
  | 10 => ("ForthHouse$Texts", "nested", "I", false)
  | 11 => ("ForthHouse$Texts", "live", "Z", false)
  | 12 => ("ForthHouse$Texts", "source", "[B", false)
  | 13 => ("ForthHouse$Texts", "from", "I", false)
  | _ => ("ForthHouse$Texts", "length", "I", false)
def tyX9 : Nat → FieldType := fun k => match k with
  | 0 => .object "ForthHouse$Space"
  | 1 => .array .byte
  | 2 => .array .byte
  | 3 => .array .int
  | 4 => .array .int
  | 5 => .array .int
  | 6 => .array .int
  | 7 => .array .byte
  | 8 => .int
  | 9 => .int
  | 10 => .int
  | 11 => .boolean
  | 12 => .array .byte
  | 13 => .int
  | _ => .int
theorem nmX9 : ∀ a, a < 15 → ∀ b, b < 15 → a ≠ b → (TX9 a).2.1 ≠ (TX9 b).2.1 := by decide +kernel
theorem tyX9_ok : ∀ k, k < 15 → parseFieldDescriptor (TX9 k).2.2.1 = some (tyX9 k) := by decide +kernel
def RX10 : String := "ForthHouse$Words"
def TX10 : u_T := fun k => match k with
  | 0 => ("ForthHouse$Words", "kinds", "[B", true)
  | 1 => ("ForthHouse$Words", "flags", "[B", true)
  | 2 => ("ForthHouse$Words", "lists", "[B", true)
  | 3 => ("ForthHouse$Words", "values", "[I", true)
  | 4 => ("ForthHouse$Words", "sizes", "[I", true)
  | 5 => ("ForthHouse$Words", "does", "[I", true)
  | 6 => ("ForthHouse$Words", "nameLengths", "[B", true)
  | 7 => ("ForthHouse$Words", "names", "[B", true)
  | 8 => ("ForthHouse$Words", "effects", "[B", true)
  | 9 => ("ForthHouse$Words", "ins", "[I", true)
  | 10 => ("ForthHouse$Words", "outs", "[I", true)
  | 11 => ("ForthHouse$Words", "spots", "[I", true)
  | 12 => ("ForthHouse$Words", "total", "I", false)
  | _ => ("ForthHouse$Words", "latest", "I", false)
def tyX10 : Nat → FieldType := fun k => match k with
  | 0 => .array .byte
  | 1 => .array .byte
  | 2 => .array .byte
  | 3 => .array .int
  | 4 => .array .int
  | 5 => .array .int
  | 6 => .array .byte
  | 7 => .array .byte
  | 8 => .array .byte
  | 9 => .array .int
  | 10 => .array .int
  | 11 => .array .int
  | 12 => .int
  | _ => .int
theorem nmX10 : ∀ a, a < 14 → ∀ b, b < 14 → a ≠ b → (TX10 a).2.1 ≠ (TX10 b).2.1 := by decide +kernel
theorem tyX10_ok : ∀ k, k < 14 → parseFieldDescriptor (TX10 k).2.2.1 = some (tyX10 k) := by decide +kernel
def RX11 : String := "ForthHouse"
def TX11 : u_T := fun k => match k with
  | 0 => ("ForthHouse", "tape", "[B", true)
  | 1 => ("ForthHouse", "tapeLength", "I", false)
  | 2 => ("ForthHouse", "systems", "[LForthHouse$Forth;", true)
  | 3 => ("ForthHouse", "systemCount", "I", false)
  | 4 => ("ForthHouse", "images", "[LForthHouse$Forth;", true)
  | 5 => ("ForthHouse", "kept", "[Z", true)
  | _ => ("ForthHouse", "board", "LForthHouse$Chip;", true)
def tyX11 : Nat → FieldType := fun k => match k with
  | 0 => .array .byte
  | 1 => .int
  | 2 => .array (.object "ForthHouse$Forth")
  | 3 => .int
  | 4 => .array (.object "ForthHouse$Forth")
  | 5 => .array .boolean
  | _ => .object "ForthHouse$Chip"
theorem nmX11 : ∀ a, a < 7 → ∀ b, b < 7 → a ≠ b → (TX11 a).2.1 ≠ (TX11 b).2.1 := by decide +kernel
theorem tyX11_ok : ∀ k, k < 7 → parseFieldDescriptor (TX11 k).2.2.1 = some (tyX11 k) := by decide +kernel
def RX12 : String := "ForthHouseModel"
def TX12 : u_T := fun k => match k with
  | 0 => ("ForthHouseModel", "m", "[I", true)
  | 1 => ("ForthHouseModel", "tape", "[B", true)
  | 2 => ("ForthHouseModel", "taped", "I", false)
  | 3 => ("ForthHouseModel", "b", "I", false)
  | 4 => ("ForthHouseModel", "t", "I", false)
  | 5 => ("ForthHouseModel", "cell", "I", false)
  | 6 => ("ForthHouseModel", "code", "I", false)
  | 7 => ("ForthHouseModel", "places", "[I", true)
  | 8 => ("ForthHouseModel", "effects", "[I", true)
  | 9 => ("ForthHouseModel", "read", "[I", true)
  | 10 => ("ForthHouseModel", "readSize", "I", false)
  | 11 => ("ForthHouseModel", "left", "Z", false)
  | 12 => ("ForthHouseModel", "low", "J", false)
  | 13 => ("ForthHouseModel", "more", "J", false)
  | 14 => ("ForthHouseModel", "isDouble", "Z", false)
  | 15 => ("ForthHouseModel", "heights", "[I", true)
  | 16 => ("ForthHouseModel", "seen", "[I", true)
  | 17 => ("ForthHouseModel", "from", "I", false)
  | 18 => ("ForthHouseModel", "behind", "I", false)
  | 19 => ("ForthHouseModel", "verdict", "I", false)
  | 20 => ("ForthHouseModel", "place", "I", false)
  | 21 => ("ForthHouseModel", "least", "I", false)
  | 22 => ("ForthHouseModel", "given", "I", false)
  | 23 => ("ForthHouseModel", "exits", "Z", false)
  | 24 => ("ForthHouseModel", "itself", "Z", false)
  | 25 => ("ForthHouseModel", "led", "[Z", true)
  | 26 => ("ForthHouseModel", "chip", "[I", true)
  | 27 => ("ForthHouseModel", "chipSize", "I", false)
  | 28 => ("ForthHouseModel", "chipAt", "I", false)
  | 29 => ("ForthHouseModel", "chipCode", "I", false)
  | 30 => ("ForthHouseModel", "chipDone", "I", false)
  | 31 => ("ForthHouseModel", "chipEnded", "Z", false)
  | 32 => ("ForthHouseModel", "parts", "[I", true)
  | 33 => ("ForthHouseModel", "partAt", "[I", true)
  | _ => ("ForthHouseModel", "partMany", "I", false)
def tyX12 : Nat → FieldType := fun k => match k with
  | 0 => .array .int
  | 1 => .array .byte
  | 2 => .int
  | 3 => .int
  | 4 => .int
  | 5 => .int
  | 6 => .int
  | 7 => .array .int
  | 8 => .array .int
  | 9 => .array .int
  | 10 => .int
  | 11 => .boolean
  | 12 => .long
  | 13 => .long
  | 14 => .boolean
  | 15 => .array .int
  | 16 => .array .int
  | 17 => .int
  | 18 => .int
  | 19 => .int
  | 20 => .int
  | 21 => .int
  | 22 => .int
  | 23 => .boolean
  | 24 => .boolean
  | 25 => .array .boolean
  | 26 => .array .int
  | 27 => .int
  | 28 => .int
  | 29 => .int
  | 30 => .int
  | 31 => .boolean
  | 32 => .array .int
  | 33 => .array .int
  | _ => .int
theorem nmX12 : ∀ a, a < 35 → ∀ b, b < 35 → a ≠ b → (TX12 a).2.1 ≠ (TX12 b).2.1 := by decide +kernel
theorem tyX12_ok : ∀ k, k < 35 → parseFieldDescriptor (TX12 k).2.2.1 = some (tyX12 k) := by decide +kernel
def RJx145de : String := "java/io/Serializable"
def RJx9f9b0 : String := "java/lang/CharSequence"
def RJxb160c : String := "java/lang/Comparable"
def RJ9 : String := "java/lang/Math"
def RJ0 : String := "java/lang/String"
def RJ1 : String := "java/lang/StringLatin1"
def RJ2 : String := "java/lang/StringUTF16"
def RJ10 : String := "java/lang/System"
def RJxfd54e : String := "java/lang/constant/Constable"
def RJx3cf43 : String := "java/lang/constant/ConstantDesc"
def RJ7 : String := "java/util/Arrays"
def RJ3 : String := "jdk/internal/util/Preconditions"
def RL : String := "ForthHouseLaw"
abbrev cX0_init : ByteArray := prog_2_method_1_code
abbrev cX0_holds : ByteArray := prog_2_method_2_code
abbrev cX0_make : ByteArray := prog_2_method_3_code
abbrev cX0_meet : ByteArray := prog_2_method_4_code
abbrev cX0_plan : ByteArray := prog_2_method_5_code
abbrev cX0_width : ByteArray := prog_2_method_6_code
abbrev cX0_isOnChip : ByteArray := prog_2_method_7_code
abbrev cX0_layDefinition : ByteArray := prog_2_method_8_code
abbrev cX0_layWord : ByteArray := prog_2_method_9_code
abbrev cX0_layCell : ByteArray := prog_2_method_10_code
abbrev cX0_lay : ByteArray := prog_2_method_11_code
abbrev cX0_receive : ByteArray := prog_2_method_12_code
abbrev cX0_run : ByteArray := prog_2_method_13_code
abbrev cX0_step : ByteArray := prog_2_method_14_code
abbrev cX0_end : ByteArray := prog_2_method_15_code
abbrev cX0_tell : ByteArray := prog_2_method_16_code
abbrev cX1_init : ByteArray := prog_3_method_1_code
abbrev cX1_begin : ByteArray := prog_3_method_2_code
abbrev cX1_become : ByteArray := prog_3_method_3_code
abbrev cX1_isLike : ByteArray := prog_3_method_4_code
abbrev cX1_figure : ByteArray := prog_3_method_5_code
abbrev cX1_tokenOf : ByteArray := prog_3_method_6_code
abbrev cX1_othersEnded : ByteArray := prog_3_method_7_code
abbrev cX1_isAtRest : ByteArray := prog_3_method_8_code
abbrev cX1_hasText : ByteArray := prog_3_method_9_code
abbrev cX1_hand : ByteArray := prog_3_method_10_code
abbrev cX1_run : ByteArray := prog_3_method_11_code
abbrev cX1_step : ByteArray := prog_3_method_12_code
abbrev cX1_ask : ByteArray := prog_3_method_13_code
abbrev cX1_beginTask : ByteArray := prog_3_method_14_code
abbrev cX1_take : ByteArray := prog_3_method_15_code
abbrev cX1_takeFromBox : ByteArray := prog_3_method_16_code
abbrev cX1_endCatch : ByteArray := prog_3_method_17_code
abbrev cX1_itemStep : ByteArray := prog_3_method_18_code
abbrev cX1_does : ByteArray := prog_3_method_19_code
abbrev cX1_abort : ByteArray := prog_3_method_20_code
abbrev cX1_putOut : ByteArray := prog_3_method_21_code
abbrev cX1_textStep : ByteArray := prog_3_method_22_code
abbrev cX1_endText : ByteArray := prog_3_method_23_code
abbrev cX1_takeNumber : ByteArray := prog_3_method_24_code
abbrev cX1_digitOf : ByteArray := prog_3_method_25_code
abbrev cX1_leave : ByteArray := prog_3_method_26_code
abbrev cX1_unwind : ByteArray := prog_3_method_27_code
abbrev cX1_throwOut : ByteArray := prog_3_method_28_code
abbrev cX1_endTask : ByteArray := prog_3_method_29_code
abbrev cX1_handOn : ByteArray := prog_3_method_30_code
abbrev cX1_perform : ByteArray := prog_3_method_31_code
abbrev cX1_offer : ByteArray := prog_3_method_32_code
abbrev cX1_doCreated : ByteArray := prog_3_method_33_code
abbrev cX1_goBack : ByteArray := prog_3_method_34_code
abbrev cX1_printing : ByteArray := prog_3_method_35_code
abbrev cX1_print : ByteArray := prog_3_method_36_code
abbrev cX1_sharp : ByteArray := prog_3_method_37_code
abbrev cX1_defining : ByteArray := prog_3_method_38_code
abbrev cX1_readFor : ByteArray := prog_3_method_39_code
abbrev cX1_beginDefinition : ByteArray := prog_3_method_40_code
abbrev cX1_endDefinition : ByteArray := prog_3_method_41_code
abbrev cX1_finish : ByteArray := prog_3_method_42_code
abbrev cX1_beginQuotation : ByteArray := prog_3_method_43_code
abbrev cX1_endQuotation : ByteArray := prog_3_method_44_code
abbrev cX1_addDoes : ByteArray := prog_3_method_45_code
abbrev cX1_makeValue : ByteArray := prog_3_method_46_code
abbrev cX1_makeWord : ByteArray := prog_3_method_47_code
abbrev cX1_makeImmediate : ByteArray := prog_3_method_48_code
abbrev cX1_tick : ByteArray := prog_3_method_49_code
abbrev cX1_setNamed : ByteArray := prog_3_method_50_code
abbrev cX1_assign : ByteArray := prog_3_method_51_code
abbrev cX1_string : ByteArray := prog_3_method_52_code
abbrev cX1_readLocals : ByteArray := prog_3_method_53_code
abbrev cX1_addLocals : ByteArray := prog_3_method_54_code
abbrev cX1_doToken : ByteArray := prog_3_method_55_code
abbrev cX1_evaluateText : ByteArray := prog_3_method_56_code
abbrev cX1_nest : ByteArray := prog_3_method_57_code
abbrev cX1_tasking : ByteArray := prog_3_method_58_code
abbrev cX1_beginCatch : ByteArray := prog_3_method_59_code
abbrev cX1_makeTask : ByteArray := prog_3_method_60_code
abbrev cX1_send : ByteArray := prog_3_method_61_code
abbrev cX1_receive : ByteArray := prog_3_method_62_code
abbrev cX1_load : ByteArray := prog_3_method_63_code
abbrev cX2_init : ByteArray := prog_4_method_1_code
abbrev cX2_become : ByteArray := prog_4_method_2_code
abbrev cX2_isLike : ByteArray := prog_4_method_3_code
abbrev cX2_holds : ByteArray := prog_4_method_4_code
abbrev cX2_hasRoom : ByteArray := prog_4_method_5_code
abbrev cX2_add : ByteArray := prog_4_method_6_code
abbrev cX2_point : ByteArray := prog_4_method_7_code
abbrev cX2_isJump : ByteArray := prog_4_method_8_code
abbrev cX2_isWord : ByteArray := prog_4_method_9_code
abbrev cX2_isKind : ByteArray := prog_4_method_10_code
abbrev cX3_init : ByteArray := prog_5_method_1_code
abbrev cX3_work : ByteArray := prog_5_method_2_code
abbrev cX3_pass : ByteArray := prog_5_method_3_code
abbrev cX3_leastWaiting : ByteArray := prog_5_method_4_code
abbrev cX3_stop : ByteArray := prog_5_method_5_code
abbrev cX3_arrive : ByteArray := prog_5_method_6_code
abbrev cX3_take : ByteArray := prog_5_method_7_code
abbrev cX3_goOn : ByteArray := prog_5_method_8_code
abbrev cX3_leaveAt : ByteArray := prog_5_method_9_code
abbrev cX3_look : ByteArray := prog_5_method_10_code
abbrev cX3_lookLoop : ByteArray := prog_5_method_11_code
abbrev cX3_lookWord : ByteArray := prog_5_method_12_code
abbrev cX3_lookBuiltIn : ByteArray := prog_5_method_13_code
abbrev cX3_mayLean : ByteArray := prog_5_method_14_code
abbrev cX3_makeLean : ByteArray := prog_5_method_15_code
abbrev cX3_leanOnce : ByteArray := prog_5_method_16_code
abbrev cX3_markTargets : ByteArray := prog_5_method_17_code
abbrev cX3_goes : ByteArray := prog_5_method_18_code
abbrev cX3_reckonsOne : ByteArray := prog_5_method_19_code
abbrev cX3_reckonsTwo : ByteArray := prog_5_method_20_code
abbrev cX3_reckoned : ByteArray := prog_5_method_21_code
abbrev cX3_remove : ByteArray := prog_5_method_22_code
abbrev cX4_init : ByteArray := prog_6_method_1_code
abbrev cX4_become : ByteArray := prog_6_method_2_code
abbrev cX4_isLike : ByteArray := prog_6_method_3_code
abbrev cX4_only : ByteArray := prog_6_method_4_code
abbrev cX4_search : ByteArray := prog_6_method_5_code
abbrev cX4_previous : ByteArray := prog_6_method_6_code
abbrev cX4_define : ByteArray := prog_6_method_7_code
abbrev cX4_mark : ByteArray := prog_6_method_8_code
abbrev cX4_goBack : ByteArray := prog_6_method_9_code
abbrev cX5_init : ByteArray := prog_7_method_1_code
abbrev cX5_become : ByteArray := prog_7_method_2_code
abbrev cX5_isLike : ByteArray := prog_7_method_3_code
abbrev cX5_begin : ByteArray := prog_7_method_4_code
abbrev cX5_forget : ByteArray := prog_7_method_5_code
abbrev cX5_innermost : ByteArray := prog_7_method_6_code
abbrev cX5_base : ByteArray := prog_7_method_7_code
abbrev cX5_isLevel : ByteArray := prog_7_method_8_code
abbrev cX5_isMarked : ByteArray := prog_7_method_9_code
abbrev cX5_mark : ByteArray := prog_7_method_10_code
abbrev cX5_localOf : ByteArray := prog_7_method_11_code
abbrev cX5_nameLocal : ByteArray := prog_7_method_12_code
abbrev cX5_countLocals : ByteArray := prog_7_method_13_code
abbrev cX5_kindAt : ByteArray := prog_7_method_14_code
abbrev cX5_placeAt : ByteArray := prog_7_method_15_code
abbrev cX5_setPair : ByteArray := prog_7_method_16_code
abbrev cX5_control : ByteArray := prog_7_method_17_code
abbrev cX5_pair : ByteArray := prog_7_method_18_code
abbrev cX5_branch : ByteArray := prog_7_method_19_code
abbrev cX5_then : ByteArray := prog_7_method_20_code
abbrev cX5_otherwise : ByteArray := prog_7_method_21_code
abbrev cX5_back : ByteArray := prog_7_method_22_code
abbrev cX5_during : ByteArray := prog_7_method_23_code
abbrev cX5_repeat : ByteArray := prog_7_method_24_code
abbrev cX5_endLoop : ByteArray := prog_7_method_25_code
abbrev cX5_leave : ByteArray := prog_7_method_26_code
abbrev cX5_endCase : ByteArray := prog_7_method_27_code
abbrev cX6_init : ByteArray := prog_8_method_1_code
abbrev cX6_become : ByteArray := prog_8_method_2_code
abbrev cX6_byteOf : ByteArray := prog_8_method_3_code
abbrev cX6_grow : ByteArray := prog_8_method_4_code
abbrev cX6_emit : ByteArray := prog_8_method_5_code
abbrev cX6_blanks : ByteArray := prog_8_method_6_code
abbrev cX6_write : ByteArray := prog_8_method_7_code
abbrev cX6_print : ByteArray := prog_8_method_8_code
abbrev cX6_digit : ByteArray := prog_8_method_9_code
abbrev cX6_keepAbove : ByteArray := prog_8_method_10_code
abbrev cX6_judgeAbove : ByteArray := prog_8_method_11_code
abbrev cX7_init : ByteArray := prog_9_method_1_code
abbrev cX7_become : ByteArray := prog_9_method_2_code
abbrev cX7_isLike : ByteArray := prog_9_method_3_code
abbrev cX7_isFloored : ByteArray := prog_9_method_4_code
abbrev cX7_isCased : ByteArray := prog_9_method_5_code
abbrev cX7_bits : ByteArray := prog_9_method_6_code
abbrev cX7_cut : ByteArray := prog_9_method_7_code
abbrev cX7_bare : ByteArray := prog_9_method_8_code
abbrev cX7_holds : ByteArray := prog_9_method_9_code
abbrev cX7_byteAt : ByteArray := prog_9_method_10_code
abbrev cX7_cellAt : ByteArray := prog_9_method_11_code
abbrev cX7_layCell : ByteArray := prog_9_method_12_code
abbrev cX7_hasRoom : ByteArray := prog_9_method_13_code
abbrev cX7_moveHere : ByteArray := prog_9_method_14_code
abbrev cX7_aligned : ByteArray := prog_9_method_15_code
abbrev cX7_base : ByteArray := prog_9_method_16_code
abbrev cX7_hold : ByteArray := prog_9_method_17_code
abbrev cX8_init : ByteArray := prog_10_method_1_code
abbrev cX8_become : ByteArray := prog_10_method_2_code
abbrev cX8_isLike : ByteArray := prog_10_method_3_code
abbrev cX8_clearRows : ByteArray := prog_10_method_4_code
abbrev cX8_lengthOf : ByteArray := prog_10_method_5_code
abbrev cX8_cellOf : ByteArray := prog_10_method_6_code
abbrev cX8_lack : ByteArray := prog_10_method_7_code
abbrev cX8_push : ByteArray := prog_10_method_8_code
abbrev cX8_pop : ByteArray := prog_10_method_9_code
abbrev cX8_peek : ByteArray := prog_10_method_10_code
abbrev cX8_give : ByteArray := prog_10_method_11_code
abbrev cX8_flag : ByteArray := prog_10_method_12_code
abbrev cX8_giveTwin : ByteArray := prog_10_method_13_code
abbrev cX8_popTwin : ByteArray := prog_10_method_14_code
abbrev cX8_popBareTwin : ByteArray := prog_10_method_15_code
abbrev cX8_bringUp : ByteArray := prog_10_method_16_code
abbrev cX8_base : ByteArray := prog_10_method_17_code
abbrev cX8_frameKind : ByteArray := prog_10_method_18_code
abbrev cX8_open : ByteArray := prog_10_method_19_code
abbrev cX8_enter : ByteArray := prog_10_method_20_code
abbrev cX8_close : ByteArray := prog_10_method_21_code
abbrev cX8_exit : ByteArray := prog_10_method_22_code
abbrev cX8_latestCatch : ByteArray := prog_10_method_23_code
abbrev cX8_fallTo : ByteArray := prog_10_method_24_code
abbrev cX8_core : ByteArray := prog_10_method_25_code
abbrev cX8_shuffle : ByteArray := prog_10_method_26_code
abbrev cX8_duplicate : ByteArray := prog_10_method_27_code
abbrev cX8_reachDown : ByteArray := prog_10_method_28_code
abbrev cX8_overReturn : ByteArray := prog_10_method_29_code
abbrev cX8_toReturn : ByteArray := prog_10_method_30_code
abbrev cX8_reckon : ByteArray := prog_10_method_31_code
abbrev cX8_twinWord : ByteArray := prog_10_method_32_code
abbrev cX8_divide : ByteArray := prog_10_method_33_code
abbrev cX8_divideBare : ByteArray := prog_10_method_34_code
abbrev cX8_divideTwin : ByteArray := prog_10_method_35_code
abbrev cX8_compare : ByteArray := prog_10_method_36_code
abbrev cX8_shift : ByteArray := prog_10_method_37_code
abbrev cX8_within : ByteArray := prog_10_method_38_code
abbrev cX8_memory : ByteArray := prog_10_method_39_code
abbrev cX8_lay : ByteArray := prog_10_method_40_code
abbrev cX8_fill : ByteArray := prog_10_method_41_code
abbrev cX8_move : ByteArray := prog_10_method_42_code
abbrev cX8_reach : ByteArray := prog_10_method_43_code
abbrev cX8_loopWord : ByteArray := prog_10_method_44_code
abbrev cX8_flow : ByteArray := prog_10_method_45_code
abbrev cX8_beginLoop : ByteArray := prog_10_method_46_code
abbrev cX8_loop : ByteArray := prog_10_method_47_code
abbrev cX8_of : ByteArray := prog_10_method_48_code
abbrev cX8_enterLocals : ByteArray := prog_10_method_49_code
abbrev cX8_local : ByteArray := prog_10_method_50_code
abbrev cX9_init : ByteArray := prog_11_method_1_code
abbrev cX9_become : ByteArray := prog_11_method_2_code
abbrev cX9_isLike : ByteArray := prog_11_method_3_code
abbrev cX9_settle : ByteArray := prog_11_method_4_code
abbrev cX9_start : ByteArray := prog_11_method_5_code
abbrev cX9_nest : ByteArray := prog_11_method_6_code
abbrev cX9_fallTo : ByteArray := prog_11_method_7_code
abbrev cX9_inBlock : ByteArray := prog_11_method_8_code
abbrev cX9_readWord : ByteArray := prog_11_method_9_code
abbrev cX9_isBlank : ByteArray := prog_11_method_10_code
abbrev cX9_readUpTo : ByteArray := prog_11_method_11_code
abbrev cX9_skipLine : ByteArray := prog_11_method_12_code
abbrev cX9_isRead : ByteArray := prog_11_method_13_code
abbrev cX10_init : ByteArray := prog_12_method_1_code
abbrev cX10_addLine : ByteArray := prog_12_method_2_code
abbrev cX10_become : ByteArray := prog_12_method_3_code
abbrev cX10_isLike : ByteArray := prog_12_method_4_code
abbrev cX10_holds : ByteArray := prog_12_method_5_code
abbrev cX10_isFull : ByteArray := prog_12_method_6_code
abbrev cX10_has : ByteArray := prog_12_method_7_code
abbrev cX10_isKind : ByteArray := prog_12_method_8_code
abbrev cX10_isEnded : ByteArray := prog_12_method_9_code
abbrev cX10_set : ByteArray := prog_12_method_10_code
abbrev cX10_make : ByteArray := prog_12_method_11_code
abbrev cX10_end : ByteArray := prog_12_method_12_code
abbrev cX10_newest : ByteArray := prog_12_method_13_code
abbrev cX10_tell : ByteArray := prog_12_method_14_code
abbrev cX10_letter : ByteArray := prog_12_method_15_code
abbrev cX11_init : ByteArray := prog_1_method_1_code
abbrev cX11_type : ByteArray := prog_1_method_2_code
abbrev cX11_wipe : ByteArray := prog_1_method_3_code
abbrev cX11_system : ByteArray := prog_1_method_4_code
abbrev cX11_evaluate : ByteArray := prog_1_method_5_code
abbrev cX11_go : ByteArray := prog_1_method_6_code
abbrev cX11_out : ByteArray := prog_1_method_7_code
abbrev cX11_count : ByteArray := prog_1_method_8_code
abbrev cX11_thrown : ByteArray := prog_1_method_9_code
abbrev cX11_depth : ByteArray := prog_1_method_10_code
abbrev cX11_cell : ByteArray := prog_1_method_11_code
abbrev cX11_task : ByteArray := prog_1_method_12_code
abbrev cX11_fetch : ByteArray := prog_1_method_13_code
abbrev cX11_find : ByteArray := prog_1_method_14_code
abbrev cX11_word : ByteArray := prog_1_method_15_code
abbrev cX11_name : ByteArray := prog_1_method_16_code
abbrev cX11_item : ByteArray := prog_1_method_17_code
abbrev cX11_effect : ByteArray := prog_1_method_18_code
abbrev cX11_effectOf : ByteArray := prog_1_method_19_code
abbrev cX11_lean : ByteArray := prog_1_method_20_code
abbrev cX11_chip : ByteArray := prog_1_method_21_code
abbrev cX11_chipWord : ByteArray := prog_1_method_22_code
abbrev cX11_chipPut : ByteArray := prog_1_method_23_code
abbrev cX11_chipGo : ByteArray := prog_1_method_24_code
abbrev cX11_chipTold : ByteArray := prog_1_method_25_code
abbrev cX11_chipCell : ByteArray := prog_1_method_26_code
abbrev cX11_chipByte : ByteArray := prog_1_method_27_code
abbrev cX11_put : ByteArray := prog_1_method_28_code
abbrev cX11_keep : ByteArray := prog_1_method_29_code
abbrev cX11_again : ByteArray := prog_1_method_30_code
abbrev cX11_same : ByteArray := prog_1_method_31_code
abbrev cX11_systemOf : ByteArray := prog_1_method_32_code
abbrev cX11_taskOf : ByteArray := prog_1_method_33_code
abbrev cX11_stepsGood : ByteArray := prog_1_method_34_code
abbrev cX11_sameCells : ByteArray := prog_1_method_35_code
abbrev cX11_sameBytes : ByteArray := prog_1_method_36_code
abbrev cX11_copyCells : ByteArray := prog_1_method_37_code
abbrev cX11_copyBytes : ByteArray := prog_1_method_38_code
abbrev cX11_spelled : ByteArray := prog_1_method_39_code
abbrev cX11_quotient : ByteArray := prog_1_method_40_code
abbrev cX12_bits : ByteArray := prog_14_method_1_code
abbrev cX12_mask : ByteArray := prog_14_method_2_code
abbrev cX12_wide : ByteArray := prog_14_method_3_code
abbrev cX12_round : ByteArray := prog_14_method_4_code
abbrev cX12_lies : ByteArray := prog_14_method_5_code
abbrev cX12_reach : ByteArray := prog_14_method_6_code
abbrev cX12_byteAt : ByteArray := prog_14_method_7_code
abbrev cX12_putByte : ByteArray := prog_14_method_8_code
abbrev cX12_high : ByteArray := prog_14_method_9_code
abbrev cX12_cellAt : ByteArray := prog_14_method_10_code
abbrev cX12_putCell : ByteArray := prog_14_method_11_code
abbrev cX12_depth : ByteArray := prog_14_method_12_code
abbrev cX12_may : ByteArray := prog_14_method_13_code
abbrev cX12_pop : ByteArray := prog_14_method_14_code
abbrev cX12_push : ByteArray := prog_14_method_15_code
abbrev cX12_top : ByteArray := prog_14_method_16_code
abbrev cX12_pushDouble : ByteArray := prog_14_method_17_code
abbrev cX12_popDouble : ByteArray := prog_14_method_18_code
abbrev cX12_frames : ByteArray := prog_14_method_19_code
abbrev cX12_frameAt : ByteArray := prog_14_method_20_code
abbrev cX12_base : ByteArray := prog_14_method_21_code
abbrev cX12_newFrame : ByteArray := prog_14_method_22_code
abbrev cX12_put : ByteArray := prog_14_method_23_code
abbrev cX12_textFrame : ByteArray := prog_14_method_24_code
abbrev cX12_nested : ByteArray := prog_14_method_25_code
abbrev cX12_textSize : ByteArray := prog_14_method_26_code
abbrev cX12_textByte : ByteArray := prog_14_method_27_code
abbrev cX12_in : ByteArray := prog_14_method_28_code
abbrev cX12_isBlank : ByteArray := prog_14_method_29_code
abbrev cX12_word : ByteArray := prog_14_method_30_code
abbrev cX12_upTo : ByteArray := prog_14_method_31_code
abbrev cX12_wordAt : ByteArray := prog_14_method_32_code
abbrev cX12_itemAt : ByteArray := prog_14_method_33_code
abbrev cX12_isToken : ByteArray := prog_14_method_34_code
abbrev cX12_lower : ByteArray := prog_14_method_35_code
abbrev cX12_isName : ByteArray := prog_14_method_36_code
abbrev cX12_search : ByteArray := prog_14_method_37_code
abbrev cX12_newWord : ByteArray := prog_14_method_38_code
abbrev cX12_newName : ByteArray := prog_14_method_39_code
abbrev cX12_item : ByteArray := prog_14_method_40_code
abbrev cX12_items : ByteArray := prog_14_method_41_code
abbrev cX12_here : ByteArray := prog_14_method_42_code
abbrev cX12_lead : ByteArray := prog_14_method_43_code
abbrev cX12_def : ByteArray := prog_14_method_44_code
abbrev cX12_beginDef : ByteArray := prog_14_method_45_code
abbrev cX12_endDef : ByteArray := prog_14_method_46_code
abbrev cX12_pair : ByteArray := prog_14_method_47_code
abbrev cX12_topPair : ByteArray := prog_14_method_48_code
abbrev cX12_hasPair : ByteArray := prog_14_method_49_code
abbrev cX12_numberBase : ByteArray := prog_14_method_50_code
abbrev cX12_flag : ByteArray := prog_14_method_51_code
abbrev cX12_stack : ByteArray := prog_14_method_52_code
abbrev cX12_roll : ByteArray := prog_14_method_53_code
abbrev cX12_pushReturn : ByteArray := prog_14_method_54_code
abbrev cX12_popReturn : ByteArray := prog_14_method_55_code
abbrev cX12_hasReturn : ByteArray := prog_14_method_56_code
abbrev cX12_returns : ByteArray := prog_14_method_57_code
abbrev cX12_floorOf : ByteArray := prog_14_method_58_code
abbrev cX12_quotient : ByteArray := prog_14_method_59_code
abbrev cX12_divided : ByteArray := prog_14_method_60_code
abbrev cX12_unsignedDivided : ByteArray := prog_14_method_61_code
abbrev cX12_signedDivided : ByteArray := prog_14_method_62_code
abbrev cX12_reckon : ByteArray := prog_14_method_63_code
abbrev cX12_compare : ByteArray := prog_14_method_64_code
abbrev cX12_grow : ByteArray := prog_14_method_65_code
abbrev cX12_up : ByteArray := prog_14_method_66_code
abbrev cX12_storing : ByteArray := prog_14_method_67_code
abbrev cX12_rows : ByteArray := prog_14_method_68_code
abbrev cX12_hold : ByteArray := prog_14_method_69_code
abbrev cX12_letter : ByteArray := prog_14_method_70_code
abbrev cX12_digits : ByteArray := prog_14_method_71_code
abbrev cX12_print : ByteArray := prog_14_method_72_code
abbrev cX12_type : ByteArray := prog_14_method_73_code
abbrev cX12_spaces : ByteArray := prog_14_method_74_code
abbrev cX12_printing : ByteArray := prog_14_method_75_code
abbrev cX12_plain : ByteArray := prog_14_method_76_code
abbrev cX12_layString : ByteArray := prog_14_method_77_code
abbrev cX12_literal : ByteArray := prog_14_method_78_code
abbrev cX12_string : ByteArray := prog_14_method_79_code
abbrev cX12_comment : ByteArray := prog_14_method_80_code
abbrev cX12_named : ByteArray := prog_14_method_81_code
abbrev cX12_local : ByteArray := prog_14_method_82_code
abbrev cX12_is : ByteArray := prog_14_method_83_code
abbrev cX12_locals : ByteArray := prog_14_method_84_code
abbrev cX12_freeMark : ByteArray := prog_14_method_85_code
abbrev cX12_marker : ByteArray := prog_14_method_86_code
abbrev cX12_mark : ByteArray := prog_14_method_87_code
abbrev cX12_makes : ByteArray := prog_14_method_88_code
abbrev cX12_assign : ByteArray := prog_14_method_89_code
abbrev cX12_putValue : ByteArray := prog_14_method_90_code
abbrev cX12_postpone : ByteArray := prog_14_method_91_code
abbrev cX12_ends : ByteArray := prog_14_method_92_code
abbrev cX12_compiles : ByteArray := prog_14_method_93_code
abbrev cX12_drops : ByteArray := prog_14_method_94_code
abbrev cX12_origin : ByteArray := prog_14_method_95_code
abbrev cX12_then : ByteArray := prog_14_method_96_code
abbrev cX12_swapPairs : ByteArray := prog_14_method_97_code
abbrev cX12_back : ByteArray := prog_14_method_98_code
abbrev cX12_settle : ByteArray := prog_14_method_99_code
abbrev cX12_loopEnds : ByteArray := prog_14_method_100_code
abbrev cX12_innermost : ByteArray := prog_14_method_101_code
abbrev cX12_control : ByteArray := prog_14_method_102_code
abbrev cX12_endCase : ByteArray := prog_14_method_103_code
abbrev cX12_does : ByteArray := prog_14_method_104_code
abbrev cX12_enter : ByteArray := prog_14_method_105_code
abbrev cX12_isCompiling : ByteArray := prog_14_method_106_code
abbrev cX12_isOnly : ByteArray := prog_14_method_107_code
abbrev cX12_builtIn : ByteArray := prog_14_method_108_code
abbrev cX12_asks : ByteArray := prog_14_method_109_code
abbrev cX12_nest : ByteArray := prog_14_method_110_code
abbrev cX12_open : ByteArray := prog_14_method_111_code
abbrev cX12_loopAt : ByteArray := prog_14_method_112_code
abbrev cX12_exit : ByteArray := prog_14_method_113_code
abbrev cX12_loops : ByteArray := prog_14_method_114_code
abbrev cX12_beginLoop : ByteArray := prog_14_method_115_code
abbrev cX12_goOn : ByteArray := prog_14_method_116_code
abbrev cX12_runItem : ByteArray := prog_14_method_117_code
abbrev cX12_doItem : ByteArray := prog_14_method_118_code
abbrev cX12_isLocal : ByteArray := prog_14_method_119_code
abbrev cX12_doLocal : ByteArray := prog_14_method_120_code
abbrev cX12_orders : ByteArray := prog_14_method_121_code
abbrev cX12_taskAt : ByteArray := prog_14_method_122_code
abbrev cX12_passes : ByteArray := prog_14_method_123_code
abbrev cX12_emptyRows : ByteArray := prog_14_method_124_code
abbrev cX12_taskEnds : ByteArray := prog_14_method_125_code
abbrev cX12_tasks : ByteArray := prog_14_method_126_code
abbrev cX12_receive : ByteArray := prog_14_method_127_code
abbrev cX12_takeBox : ByteArray := prog_14_method_128_code
abbrev cX12_tests : ByteArray := prog_14_method_129_code
abbrev cX12_thrown : ByteArray := prog_14_method_130_code
abbrev cX12_restore : ByteArray := prog_14_method_131_code
abbrev cX12_outOf : ByteArray := prog_14_method_132_code
abbrev cX12_digit : ByteArray := prog_14_method_133_code
abbrev cX12_isNumber : ByteArray := prog_14_method_134_code
abbrev cX12_interpret : ByteArray := prog_14_method_135_code
abbrev cX12_textEnds : ByteArray := prog_14_method_136_code
abbrev cX12_step : ByteArray := prog_14_method_137_code
abbrev cX12_look : ByteArray := prog_14_method_138_code
abbrev cX12_steps : ByteArray := prog_14_method_139_code
abbrev cX12_conflict : ByteArray := prog_14_method_140_code
abbrev cX12_come : ByteArray := prog_14_method_141_code
abbrev cX12_goThrough : ByteArray := prog_14_method_142_code
abbrev cX12_taking : ByteArray := prog_14_method_143_code
abbrev cX12_ending : ByteArray := prog_14_method_144_code
abbrev cX12_visit : ByteArray := prog_14_method_145_code
abbrev cX12_comeToo : ByteArray := prog_14_method_146_code
abbrev cX12_visitWord : ByteArray := prog_14_method_147_code
abbrev cX12_visitBuiltIn : ByteArray := prog_14_method_148_code
abbrev cX12_effectOf : ByteArray := prog_14_method_149_code
abbrev cX12_laysLed : ByteArray := prog_14_method_150_code
abbrev cX12_isLed : ByteArray := prog_14_method_151_code
abbrev cX12_fold : ByteArray := prog_14_method_153_code
abbrev cX12_isFolding : ByteArray := prog_14_method_154_code
abbrev cX12_isTurning : ByteArray := prog_14_method_155_code
abbrev cX12_drop : ByteArray := prog_14_method_156_code
abbrev cX12_leanAt : ByteArray := prog_14_method_157_code
abbrev cX12_partOf : ByteArray := prog_14_method_158_code
abbrev cX12_chipWords : ByteArray := prog_14_method_159_code
abbrev cX12_measures : ByteArray := prog_14_method_160_code
abbrev cX12_lays : ByteArray := prog_14_method_161_code
abbrev cX12_chipStep : ByteArray := prog_14_method_162_code
abbrev cX12_chipExit : ByteArray := prog_14_method_163_code
abbrev cX12_init : ByteArray := prog_14_method_164_code
abbrev cX12_isIn : ByteArray := prog_14_method_165_code
abbrev cX12_isSystem : ByteArray := prog_14_method_166_code
abbrev cX12_type_ : ByteArray := prog_14_method_167_code
abbrev cX12_wipe : ByteArray := prog_14_method_168_code
abbrev cX12_copyTape : ByteArray := prog_14_method_169_code
abbrev cX12_systems : ByteArray := prog_14_method_170_code
abbrev cX12_system : ByteArray := prog_14_method_171_code
abbrev cX12_evaluate : ByteArray := prog_14_method_172_code
abbrev cX12_go : ByteArray := prog_14_method_173_code
abbrev cX12_out : ByteArray := prog_14_method_174_code
abbrev cX12_count : ByteArray := prog_14_method_175_code
abbrev cX12_thrown_ : ByteArray := prog_14_method_176_code
abbrev cX12_depth_ : ByteArray := prog_14_method_177_code
abbrev cX12_cell : ByteArray := prog_14_method_178_code
abbrev cX12_task : ByteArray := prog_14_method_179_code
abbrev cX12_fetch : ByteArray := prog_14_method_180_code
abbrev cX12_find : ByteArray := prog_14_method_181_code
abbrev cX12_isOf : ByteArray := prog_14_method_182_code
abbrev cX12_word_ : ByteArray := prog_14_method_183_code
abbrev cX12_name : ByteArray := prog_14_method_184_code
abbrev cX12_item_ : ByteArray := prog_14_method_185_code
abbrev cX12_isEnded : ByteArray := prog_14_method_186_code
abbrev cX12_effect : ByteArray := prog_14_method_187_code
abbrev cX12_effectOf_ : ByteArray := prog_14_method_188_code
abbrev cX12_lean : ByteArray := prog_14_method_189_code
abbrev cX12_chip : ByteArray := prog_14_method_190_code
abbrev cX12_chipWord : ByteArray := prog_14_method_191_code
abbrev cX12_lookChip : ByteArray := prog_14_method_192_code
abbrev cX12_chipPut : ByteArray := prog_14_method_193_code
abbrev cX12_chipGo : ByteArray := prog_14_method_194_code
abbrev cX12_chipTold : ByteArray := prog_14_method_195_code
abbrev cX12_chipCell : ByteArray := prog_14_method_196_code
abbrev cX12_chipByte : ByteArray := prog_14_method_197_code
abbrev cX12_put_ : ByteArray := prog_14_method_198_code
abbrev cX12_copy : ByteArray := prog_14_method_199_code
abbrev cX12_keep : ByteArray := prog_14_method_200_code
abbrev cX12_again : ByteArray := prog_14_method_201_code
abbrev cX12_rowsAlike : ByteArray := prog_14_method_202_code
abbrev cX12_same : ByteArray := prog_14_method_203_code
abbrev cX12_tasksAlike : ByteArray := prog_14_method_204_code
abbrev cJ9_floorDiv_f86c9 : ByteArray := prog_15_method_49_code
abbrev cJ9_abs_067f4 : ByteArray := prog_15_method_61_code
abbrev cJ9_max_7cf53 : ByteArray := prog_15_method_65_code
abbrev cJ9_min_7cf53 : ByteArray := prog_15_method_69_code
abbrev cJ9_min_f86c9 : ByteArray := prog_15_method_70_code
abbrev cJ0_length_8abf5 : ByteArray := prog_16_method_54_code
abbrev cJ0_charAt_5068e : ByteArray := prog_16_method_56_code
abbrev cJ0_coder_7d493 : ByteArray := prog_16_method_152_code
abbrev cJ0_isLatin1_aae02 : ByteArray := prog_16_method_154_code
abbrev cJ0_checkIndex_df160 : ByteArray := prog_16_method_155_code
abbrev cJ1_charAt_3b067 : ByteArray := prog_17_method_2_code
abbrev cJ2_getChar_3b067 : ByteArray := prog_18_method_5_code
abbrev cJ2_length_9d52b : ByteArray := prog_18_method_6_code
abbrev cJ2_charAt_3b067 : ByteArray := prog_18_method_83_code
abbrev cJ2_checkIndex_2214a : ByteArray := prog_18_method_91_code
abbrev cJ7_rangeCheck_23922 : ByteArray := prog_20_method_30_code
abbrev cJ7_fill_53178 : ByteArray := prog_20_method_103_code
abbrev cJ7_fill_031fb : ByteArray := prog_20_method_109_code
abbrev cJ7_fill_eb02e : ByteArray := prog_20_method_110_code
abbrev cJ3_checkIndex_8e157 : ByteArray := prog_21_method_11_code
abbrev cL_law : ByteArray := code
def yX0_init : MethodName := ⟨RX0, "<init>", "()V"⟩
def yX0_holds : MethodName := ⟨RX0, "holds", "(I)Z"⟩
def yX0_make : MethodName := ⟨RX0, "make", "(LForthHouse$Forth;I)I"⟩
def yX0_meet : MethodName := ⟨RX0, "meet", "(I)V"⟩
def yX0_plan : MethodName := ⟨RX0, "plan", "(LForthHouse$Forth;I)I"⟩
def yX0_width : MethodName := ⟨RX0, "width", "(LForthHouse$Forth;I)I"⟩
def yX0_isOnChip : MethodName := ⟨RX0, "isOnChip", "(I)Z"⟩
def yX0_layDefinition : MethodName := ⟨RX0, "layDefinition", "(LForthHouse$Forth;I)V"⟩
def yX0_layWord : MethodName := ⟨RX0, "layWord", "(LForthHouse$Forth;I)V"⟩
def yX0_layCell : MethodName := ⟨RX0, "layCell", "(I)V"⟩
def yX0_lay : MethodName := ⟨RX0, "lay", "(I)V"⟩
def yX0_receive : MethodName := ⟨RX0, "receive", "(I)I"⟩
def yX0_run : MethodName := ⟨RX0, "run", "(I)I"⟩
def yX0_step : MethodName := ⟨RX0, "step", "(I)I"⟩
def yX0_end : MethodName := ⟨RX0, "end", "()I"⟩
def yX0_tell : MethodName := ⟨RX0, "tell", "(I)I"⟩
def yX1_init : MethodName := ⟨RX1, "<init>", "()V"⟩
def yX1_begin : MethodName := ⟨RX1, "begin", "(II)V"⟩
def yX1_become : MethodName := ⟨RX1, "become", "(LForthHouse$Forth;)V"⟩
def yX1_isLike : MethodName := ⟨RX1, "isLike", "(LForthHouse$Forth;)Z"⟩
def yX1_figure : MethodName := ⟨RX1, "figure", "(I)I"⟩
def yX1_tokenOf : MethodName := ⟨RX1, "tokenOf", "([BI)I"⟩
def yX1_othersEnded : MethodName := ⟨RX1, "othersEnded", "()Z"⟩
def yX1_isAtRest : MethodName := ⟨RX1, "isAtRest", "()Z"⟩
def yX1_hasText : MethodName := ⟨RX1, "hasText", "()Z"⟩
def yX1_hand : MethodName := ⟨RX1, "hand", "()LForthHouse$Task;"⟩
def yX1_run : MethodName := ⟨RX1, "run", "(I)I"⟩
def yX1_step : MethodName := ⟨RX1, "step", "()I"⟩
def yX1_ask : MethodName := ⟨RX1, "ask", "(IZ)V"⟩
def yX1_beginTask : MethodName := ⟨RX1, "beginTask", "(LForthHouse$Task;)I"⟩
def yX1_take : MethodName := ⟨RX1, "take", "(LForthHouse$Task;)I"⟩
def yX1_takeFromBox : MethodName := ⟨RX1, "takeFromBox", "(LForthHouse$Task;)I"⟩
def yX1_endCatch : MethodName := ⟨RX1, "endCatch", "(LForthHouse$Task;)I"⟩
def yX1_itemStep : MethodName := ⟨RX1, "itemStep", "(LForthHouse$Task;)I"⟩
def yX1_does : MethodName := ⟨RX1, "does", "(LForthHouse$Task;I)I"⟩
def yX1_abort : MethodName := ⟨RX1, "abort", "(LForthHouse$Task;)I"⟩
def yX1_putOut : MethodName := ⟨RX1, "putOut", "(JJ)I"⟩
def yX1_textStep : MethodName := ⟨RX1, "textStep", "()I"⟩
def yX1_endText : MethodName := ⟨RX1, "endText", "()I"⟩
def yX1_takeNumber : MethodName := ⟨RX1, "takeNumber", "()I"⟩
def yX1_digitOf : MethodName := ⟨RX1, "digitOf", "(I)I"⟩
def yX1_leave : MethodName := ⟨RX1, "leave", "(JZ)I"⟩
def yX1_unwind : MethodName := ⟨RX1, "unwind", "(I)I"⟩
def yX1_throwOut : MethodName := ⟨RX1, "throwOut", "(I)V"⟩
def yX1_endTask : MethodName := ⟨RX1, "endTask", "(I)I"⟩
def yX1_handOn : MethodName := ⟨RX1, "handOn", "()Z"⟩
def yX1_perform : MethodName := ⟨RX1, "perform", "()I"⟩
def yX1_offer : MethodName := ⟨RX1, "offer", "(LForthHouse$Task;I)I"⟩
def yX1_doCreated : MethodName := ⟨RX1, "doCreated", "(LForthHouse$Task;I)I"⟩
def yX1_goBack : MethodName := ⟨RX1, "goBack", "(LForthHouse$Task;I)I"⟩
def yX1_printing : MethodName := ⟨RX1, "printing", "(LForthHouse$Task;I)I"⟩
def yX1_print : MethodName := ⟨RX1, "print", "(LForthHouse$Task;Z)I"⟩
def yX1_sharp : MethodName := ⟨RX1, "sharp", "(LForthHouse$Task;Z)I"⟩
def yX1_defining : MethodName := ⟨RX1, "defining", "(LForthHouse$Task;I)I"⟩
def yX1_readFor : MethodName := ⟨RX1, "readFor", "(I)I"⟩
def yX1_beginDefinition : MethodName := ⟨RX1, "beginDefinition", "(I)I"⟩
def yX1_endDefinition : MethodName := ⟨RX1, "endDefinition", "(LForthHouse$Task;)I"⟩
def yX1_finish : MethodName := ⟨RX1, "finish", "()V"⟩
def yX1_beginQuotation : MethodName := ⟨RX1, "beginQuotation", "()I"⟩
def yX1_endQuotation : MethodName := ⟨RX1, "endQuotation", "()I"⟩
def yX1_addDoes : MethodName := ⟨RX1, "addDoes", "()I"⟩
def yX1_makeValue : MethodName := ⟨RX1, "makeValue", "(LForthHouse$Task;I)I"⟩
def yX1_makeWord : MethodName := ⟨RX1, "makeWord", "(I)I"⟩
def yX1_makeImmediate : MethodName := ⟨RX1, "makeImmediate", "()I"⟩
def yX1_tick : MethodName := ⟨RX1, "tick", "(LForthHouse$Task;I)I"⟩
def yX1_setNamed : MethodName := ⟨RX1, "setNamed", "(I)I"⟩
def yX1_assign : MethodName := ⟨RX1, "assign", "(I)I"⟩
def yX1_string : MethodName := ⟨RX1, "string", "(LForthHouse$Task;I)I"⟩
def yX1_readLocals : MethodName := ⟨RX1, "readLocals", "()I"⟩
def yX1_addLocals : MethodName := ⟨RX1, "addLocals", "(II)I"⟩
def yX1_doToken : MethodName := ⟨RX1, "doToken", "(LForthHouse$Task;I)I"⟩
def yX1_evaluateText : MethodName := ⟨RX1, "evaluateText", "(LForthHouse$Task;)I"⟩
def yX1_nest : MethodName := ⟨RX1, "nest", "(LForthHouse$Task;III)I"⟩
def yX1_tasking : MethodName := ⟨RX1, "tasking", "(LForthHouse$Task;I)I"⟩
def yX1_beginCatch : MethodName := ⟨RX1, "beginCatch", "(LForthHouse$Task;)I"⟩
def yX1_makeTask : MethodName := ⟨RX1, "makeTask", "(LForthHouse$Task;)I"⟩
def yX1_send : MethodName := ⟨RX1, "send", "(LForthHouse$Task;)I"⟩
def yX1_receive : MethodName := ⟨RX1, "receive", "(LForthHouse$Task;)I"⟩
def yX1_load : MethodName := ⟨RX1, "load", "(LForthHouse$Task;)I"⟩
def yX2_init : MethodName := ⟨RX2, "<init>", "()V"⟩
def yX2_become : MethodName := ⟨RX2, "become", "(LForthHouse$Items;)V"⟩
def yX2_isLike : MethodName := ⟨RX2, "isLike", "(LForthHouse$Items;)Z"⟩
def yX2_holds : MethodName := ⟨RX2, "holds", "(I)Z"⟩
def yX2_hasRoom : MethodName := ⟨RX2, "hasRoom", "(I)Z"⟩
def yX2_add : MethodName := ⟨RX2, "add", "(II)I"⟩
def yX2_point : MethodName := ⟨RX2, "point", "(I)V"⟩
def yX2_isJump : MethodName := ⟨RX2, "isJump", "(I)Z"⟩
def yX2_isWord : MethodName := ⟨RX2, "isWord", "(II)Z"⟩
def yX2_isKind : MethodName := ⟨RX2, "isKind", "(II)Z"⟩
def yX3_init : MethodName := ⟨RX3, "<init>", "(LForthHouse$Words;LForthHouse$Items;LForthHouse$Space;)V"⟩
def yX3_work : MethodName := ⟨RX3, "work", "(I)V"⟩
def yX3_pass : MethodName := ⟨RX3, "pass", "()V"⟩
def yX3_leastWaiting : MethodName := ⟨RX3, "leastWaiting", "()I"⟩
def yX3_stop : MethodName := ⟨RX3, "stop", "(II)V"⟩
def yX3_arrive : MethodName := ⟨RX3, "arrive", "(IIII)V"⟩
def yX3_take : MethodName := ⟨RX3, "take", "(II)V"⟩
def yX3_goOn : MethodName := ⟨RX3, "goOn", "(III)V"⟩
def yX3_leaveAt : MethodName := ⟨RX3, "leaveAt", "(I)V"⟩
def yX3_look : MethodName := ⟨RX3, "look", "(I)V"⟩
def yX3_lookLoop : MethodName := ⟨RX3, "lookLoop", "(II)V"⟩
def yX3_lookWord : MethodName := ⟨RX3, "lookWord", "(II)V"⟩
def yX3_lookBuiltIn : MethodName := ⟨RX3, "lookBuiltIn", "(II)V"⟩
def yX3_mayLean : MethodName := ⟨RX3, "mayLean", "(I)Z"⟩
def yX3_makeLean : MethodName := ⟨RX3, "makeLean", "(I)I"⟩
def yX3_leanOnce : MethodName := ⟨RX3, "leanOnce", "()I"⟩
def yX3_markTargets : MethodName := ⟨RX3, "markTargets", "()V"⟩
def yX3_goes : MethodName := ⟨RX3, "goes", "(I)Z"⟩
def yX3_reckonsOne : MethodName := ⟨RX3, "reckonsOne", "(I)Z"⟩
def yX3_reckonsTwo : MethodName := ⟨RX3, "reckonsTwo", "(I)Z"⟩
def yX3_reckoned : MethodName := ⟨RX3, "reckoned", "(III)I"⟩
def yX3_remove : MethodName := ⟨RX3, "remove", "(II)I"⟩
def yX4_init : MethodName := ⟨RX4, "<init>", "()V"⟩
def yX4_become : MethodName := ⟨RX4, "become", "(LForthHouse$Lists;)V"⟩
def yX4_isLike : MethodName := ⟨RX4, "isLike", "(LForthHouse$Lists;)Z"⟩
def yX4_only : MethodName := ⟨RX4, "only", "()V"⟩
def yX4_search : MethodName := ⟨RX4, "search", "(I)I"⟩
def yX4_previous : MethodName := ⟨RX4, "previous", "()I"⟩
def yX4_define : MethodName := ⟨RX4, "define", "()I"⟩
def yX4_mark : MethodName := ⟨RX4, "mark", "(III)I"⟩
def yX4_goBack : MethodName := ⟨RX4, "goBack", "(I)V"⟩
def yX5_init : MethodName := ⟨RX5, "<init>", "(LForthHouse$Items;)V"⟩
def yX5_become : MethodName := ⟨RX5, "become", "(LForthHouse$Making;)V"⟩
def yX5_isLike : MethodName := ⟨RX5, "isLike", "(LForthHouse$Making;)Z"⟩
def yX5_begin : MethodName := ⟨RX5, "begin", "(II)V"⟩
def yX5_forget : MethodName := ⟨RX5, "forget", "()V"⟩
def yX5_innermost : MethodName := ⟨RX5, "innermost", "()I"⟩
def yX5_base : MethodName := ⟨RX5, "base", "()I"⟩
def yX5_isLevel : MethodName := ⟨RX5, "isLevel", "()Z"⟩
def yX5_isMarked : MethodName := ⟨RX5, "isMarked", "(I)Z"⟩
def yX5_mark : MethodName := ⟨RX5, "mark", "(I)V"⟩
def yX5_localOf : MethodName := ⟨RX5, "localOf", "([BIZ)I"⟩
def yX5_nameLocal : MethodName := ⟨RX5, "nameLocal", "(I[BI)V"⟩
def yX5_countLocals : MethodName := ⟨RX5, "countLocals", "(I)V"⟩
def yX5_kindAt : MethodName := ⟨RX5, "kindAt", "(I)I"⟩
def yX5_placeAt : MethodName := ⟨RX5, "placeAt", "(I)I"⟩
def yX5_setPair : MethodName := ⟨RX5, "setPair", "(III)V"⟩
def yX5_control : MethodName := ⟨RX5, "control", "(I)I"⟩
def yX5_pair : MethodName := ⟨RX5, "pair", "(II)I"⟩
def yX5_branch : MethodName := ⟨RX5, "branch", "(II)I"⟩
def yX5_then : MethodName := ⟨RX5, "then", "()I"⟩
def yX5_otherwise : MethodName := ⟨RX5, "otherwise", "(II)I"⟩
def yX5_back : MethodName := ⟨RX5, "back", "(I)I"⟩
def yX5_during : MethodName := ⟨RX5, "during", "()I"⟩
def yX5_repeat : MethodName := ⟨RX5, "repeat", "()I"⟩
def yX5_endLoop : MethodName := ⟨RX5, "endLoop", "(I)I"⟩
def yX5_leave : MethodName := ⟨RX5, "leave", "()I"⟩
def yX5_endCase : MethodName := ⟨RX5, "endCase", "()I"⟩
def yX6_init : MethodName := ⟨RX6, "<init>", "()V"⟩
def yX6_become : MethodName := ⟨RX6, "become", "(LForthHouse$Sink;)V"⟩
def yX6_byteOf : MethodName := ⟨RX6, "byteOf", "(I)I"⟩
def yX6_grow : MethodName := ⟨RX6, "grow", "(J)V"⟩
def yX6_emit : MethodName := ⟨RX6, "emit", "(I)V"⟩
def yX6_blanks : MethodName := ⟨RX6, "blanks", "(I)V"⟩
def yX6_write : MethodName := ⟨RX6, "write", "([BII)V"⟩
def yX6_print : MethodName := ⟨RX6, "print", "(JI)V"⟩
def yX6_digit : MethodName := ⟨RX6, "digit", "(I)B"⟩
def yX6_keepAbove : MethodName := ⟨RX6, "keepAbove", "(LForthHouse$Task;)V"⟩
def yX6_judgeAbove : MethodName := ⟨RX6, "judgeAbove", "(LForthHouse$Task;)V"⟩
def yX7_init : MethodName := ⟨RX7, "<init>", "()V"⟩
def yX7_become : MethodName := ⟨RX7, "become", "(LForthHouse$Space;)V"⟩
def yX7_isLike : MethodName := ⟨RX7, "isLike", "(LForthHouse$Space;)Z"⟩
def yX7_isFloored : MethodName := ⟨RX7, "isFloored", "()Z"⟩
def yX7_isCased : MethodName := ⟨RX7, "isCased", "()Z"⟩
def yX7_bits : MethodName := ⟨RX7, "bits", "()I"⟩
def yX7_cut : MethodName := ⟨RX7, "cut", "(J)I"⟩
def yX7_bare : MethodName := ⟨RX7, "bare", "(I)J"⟩
def yX7_holds : MethodName := ⟨RX7, "holds", "(JJ)Z"⟩
def yX7_byteAt : MethodName := ⟨RX7, "byteAt", "(I)I"⟩
def yX7_cellAt : MethodName := ⟨RX7, "cellAt", "(I)I"⟩
def yX7_layCell : MethodName := ⟨RX7, "layCell", "(II)V"⟩
def yX7_hasRoom : MethodName := ⟨RX7, "hasRoom", "(I)Z"⟩
def yX7_moveHere : MethodName := ⟨RX7, "moveHere", "(J)I"⟩
def yX7_aligned : MethodName := ⟨RX7, "aligned", "(J)J"⟩
def yX7_base : MethodName := ⟨RX7, "base", "()I"⟩
def yX7_hold : MethodName := ⟨RX7, "hold", "(I)I"⟩
def yX8_init : MethodName := ⟨RX8, "<init>", "(LForthHouse$Space;)V"⟩
def yX8_become : MethodName := ⟨RX8, "become", "(LForthHouse$Task;)V"⟩
def yX8_isLike : MethodName := ⟨RX8, "isLike", "(LForthHouse$Task;)Z"⟩
def yX8_clearRows : MethodName := ⟨RX8, "clearRows", "()V"⟩
def yX8_lengthOf : MethodName := ⟨RX8, "lengthOf", "(I)I"⟩
def yX8_cellOf : MethodName := ⟨RX8, "cellOf", "(II)I"⟩
def yX8_lack : MethodName := ⟨RX8, "lack", "(II)I"⟩
def yX8_push : MethodName := ⟨RX8, "push", "(I)V"⟩
def yX8_pop : MethodName := ⟨RX8, "pop", "()I"⟩
def yX8_peek : MethodName := ⟨RX8, "peek", "(I)I"⟩
def yX8_give : MethodName := ⟨RX8, "give", "(J)I"⟩
def yX8_flag : MethodName := ⟨RX8, "flag", "(Z)I"⟩
def yX8_giveTwin : MethodName := ⟨RX8, "giveTwin", "(J)I"⟩
def yX8_popTwin : MethodName := ⟨RX8, "popTwin", "()J"⟩
def yX8_popBareTwin : MethodName := ⟨RX8, "popBareTwin", "()J"⟩
def yX8_bringUp : MethodName := ⟨RX8, "bringUp", "(I)V"⟩
def yX8_base : MethodName := ⟨RX8, "base", "(I)I"⟩
def yX8_frameKind : MethodName := ⟨RX8, "frameKind", "()I"⟩
def yX8_open : MethodName := ⟨RX8, "open", "(I)Z"⟩
def yX8_enter : MethodName := ⟨RX8, "enter", "(I)I"⟩
def yX8_close : MethodName := ⟨RX8, "close", "()V"⟩
def yX8_exit : MethodName := ⟨RX8, "exit", "()I"⟩
def yX8_latestCatch : MethodName := ⟨RX8, "latestCatch", "()I"⟩
def yX8_fallTo : MethodName := ⟨RX8, "fallTo", "(II)V"⟩
def yX8_core : MethodName := ⟨RX8, "core", "(I)I"⟩
def yX8_shuffle : MethodName := ⟨RX8, "shuffle", "(I)I"⟩
def yX8_duplicate : MethodName := ⟨RX8, "duplicate", "()I"⟩
def yX8_reachDown : MethodName := ⟨RX8, "reachDown", "(I)I"⟩
def yX8_overReturn : MethodName := ⟨RX8, "overReturn", "(I)I"⟩
def yX8_toReturn : MethodName := ⟨RX8, "toReturn", "(III)I"⟩
def yX8_reckon : MethodName := ⟨RX8, "reckon", "(I)I"⟩
def yX8_twinWord : MethodName := ⟨RX8, "twinWord", "(I)I"⟩
def yX8_divide : MethodName := ⟨RX8, "divide", "(II)I"⟩
def yX8_divideBare : MethodName := ⟨RX8, "divideBare", "(J)I"⟩
def yX8_divideTwin : MethodName := ⟨RX8, "divideTwin", "(II)I"⟩
def yX8_compare : MethodName := ⟨RX8, "compare", "(I)I"⟩
def yX8_shift : MethodName := ⟨RX8, "shift", "(IJ)I"⟩
def yX8_within : MethodName := ⟨RX8, "within", "(I)I"⟩
def yX8_memory : MethodName := ⟨RX8, "memory", "(I)I"⟩
def yX8_lay : MethodName := ⟨RX8, "lay", "(II)I"⟩
def yX8_fill : MethodName := ⟨RX8, "fill", "(I)I"⟩
def yX8_move : MethodName := ⟨RX8, "move", "(J)I"⟩
def yX8_reach : MethodName := ⟨RX8, "reach", "(IJ)I"⟩
def yX8_loopWord : MethodName := ⟨RX8, "loopWord", "(I)I"⟩
def yX8_flow : MethodName := ⟨RX8, "flow", "(II)I"⟩
def yX8_beginLoop : MethodName := ⟨RX8, "beginLoop", "(II)I"⟩
def yX8_loop : MethodName := ⟨RX8, "loop", "(II)I"⟩
def yX8_of : MethodName := ⟨RX8, "of", "(I)I"⟩
def yX8_enterLocals : MethodName := ⟨RX8, "enterLocals", "(II)I"⟩
def yX8_local : MethodName := ⟨RX8, "local", "(II)I"⟩
def yX9_init : MethodName := ⟨RX9, "<init>", "(LForthHouse$Space;)V"⟩
def yX9_become : MethodName := ⟨RX9, "become", "(LForthHouse$Texts;)V"⟩
def yX9_isLike : MethodName := ⟨RX9, "isLike", "(LForthHouse$Texts;)Z"⟩
def yX9_settle : MethodName := ⟨RX9, "settle", "()V"⟩
def yX9_start : MethodName := ⟨RX9, "start", "([BI)V"⟩
def yX9_nest : MethodName := ⟨RX9, "nest", "(III)V"⟩
def yX9_fallTo : MethodName := ⟨RX9, "fallTo", "(II)V"⟩
def yX9_inBlock : MethodName := ⟨RX9, "inBlock", "()Z"⟩
def yX9_readWord : MethodName := ⟨RX9, "readWord", "(Z)I"⟩
def yX9_isBlank : MethodName := ⟨RX9, "isBlank", "(B)Z"⟩
def yX9_readUpTo : MethodName := ⟨RX9, "readUpTo", "(IZ)V"⟩
def yX9_skipLine : MethodName := ⟨RX9, "skipLine", "(Z)V"⟩
def yX9_isRead : MethodName := ⟨RX9, "isRead", "(II)Z"⟩
def yX10_init : MethodName := ⟨RX10, "<init>", "()V"⟩
def yX10_addLine : MethodName := ⟨RX10, "addLine", "(Ljava/lang/String;)V"⟩
def yX10_become : MethodName := ⟨RX10, "become", "(LForthHouse$Words;)V"⟩
def yX10_isLike : MethodName := ⟨RX10, "isLike", "(LForthHouse$Words;)Z"⟩
def yX10_holds : MethodName := ⟨RX10, "holds", "(I)Z"⟩
def yX10_isFull : MethodName := ⟨RX10, "isFull", "()Z"⟩
def yX10_has : MethodName := ⟨RX10, "has", "(II)Z"⟩
def yX10_isKind : MethodName := ⟨RX10, "isKind", "(II)Z"⟩
def yX10_isEnded : MethodName := ⟨RX10, "isEnded", "(I)Z"⟩
def yX10_set : MethodName := ⟨RX10, "set", "(II)V"⟩
def yX10_make : MethodName := ⟨RX10, "make", "(III[BI)I"⟩
def yX10_end : MethodName := ⟨RX10, "end", "(II)V"⟩
def yX10_newest : MethodName := ⟨RX10, "newest", "(I[BIZ)I"⟩
def yX10_tell : MethodName := ⟨RX10, "tell", "(II)I"⟩
def yX10_letter : MethodName := ⟨RX10, "letter", "(II)I"⟩
def yX11_init : MethodName := ⟨RX11, "<init>", "()V"⟩
def yX11_type : MethodName := ⟨RX11, "type", "(JI)I"⟩
def yX11_wipe : MethodName := ⟨RX11, "wipe", "()I"⟩
def yX11_system : MethodName := ⟨RX11, "system", "(II)I"⟩
def yX11_evaluate : MethodName := ⟨RX11, "evaluate", "(II)I"⟩
def yX11_go : MethodName := ⟨RX11, "go", "(II)I"⟩
def yX11_out : MethodName := ⟨RX11, "out", "(II)I"⟩
def yX11_count : MethodName := ⟨RX11, "count", "(II)I"⟩
def yX11_thrown : MethodName := ⟨RX11, "thrown", "(II)I"⟩
def yX11_depth : MethodName := ⟨RX11, "depth", "(III)I"⟩
def yX11_cell : MethodName := ⟨RX11, "cell", "(IIII)I"⟩
def yX11_task : MethodName := ⟨RX11, "task", "(II)I"⟩
def yX11_fetch : MethodName := ⟨RX11, "fetch", "(III)I"⟩
def yX11_find : MethodName := ⟨RX11, "find", "(I)I"⟩
def yX11_word : MethodName := ⟨RX11, "word", "(III)I"⟩
def yX11_name : MethodName := ⟨RX11, "name", "(III)I"⟩
def yX11_item : MethodName := ⟨RX11, "item", "(III)I"⟩
def yX11_effect : MethodName := ⟨RX11, "effect", "(II)I"⟩
def yX11_effectOf : MethodName := ⟨RX11, "effectOf", "(III)I"⟩
def yX11_lean : MethodName := ⟨RX11, "lean", "(II)I"⟩
def yX11_chip : MethodName := ⟨RX11, "chip", "(II)I"⟩
def yX11_chipWord : MethodName := ⟨RX11, "chipWord", "(I)I"⟩
def yX11_chipPut : MethodName := ⟨RX11, "chipPut", "(I)I"⟩
def yX11_chipGo : MethodName := ⟨RX11, "chipGo", "(I)I"⟩
def yX11_chipTold : MethodName := ⟨RX11, "chipTold", "(I)I"⟩
def yX11_chipCell : MethodName := ⟨RX11, "chipCell", "(I)I"⟩
def yX11_chipByte : MethodName := ⟨RX11, "chipByte", "(I)I"⟩
def yX11_put : MethodName := ⟨RX11, "put", "(III)I"⟩
def yX11_keep : MethodName := ⟨RX11, "keep", "(II)I"⟩
def yX11_again : MethodName := ⟨RX11, "again", "(II)I"⟩
def yX11_same : MethodName := ⟨RX11, "same", "(II)Z"⟩
def yX11_systemOf : MethodName := ⟨RX11, "systemOf", "(I)LForthHouse$Forth;"⟩
def yX11_taskOf : MethodName := ⟨RX11, "taskOf", "(II)LForthHouse$Task;"⟩
def yX11_stepsGood : MethodName := ⟨RX11, "stepsGood", "(I)Z"⟩
def yX11_sameCells : MethodName := ⟨RX11, "sameCells", "([I[III)Z"⟩
def yX11_sameBytes : MethodName := ⟨RX11, "sameBytes", "([B[BI)Z"⟩
def yX11_copyCells : MethodName := ⟨RX11, "copyCells", "([I[I)V"⟩
def yX11_copyBytes : MethodName := ⟨RX11, "copyBytes", "([B[B)V"⟩
def yX11_spelled : MethodName := ⟨RX11, "spelled", "([BI[BIZ)Z"⟩
def yX11_quotient : MethodName := ⟨RX11, "quotient", "(JJ)J"⟩
def yX12_bits : MethodName := ⟨RX12, "bits", "()I"⟩
def yX12_mask : MethodName := ⟨RX12, "mask", "()J"⟩
def yX12_wide : MethodName := ⟨RX12, "wide", "(I)J"⟩
def yX12_round : MethodName := ⟨RX12, "round", "(J)I"⟩
def yX12_lies : MethodName := ⟨RX12, "lies", "(JJ)Z"⟩
def yX12_reach : MethodName := ⟨RX12, "reach", "(IJ)Z"⟩
def yX12_byteAt : MethodName := ⟨RX12, "byteAt", "(J)I"⟩
def yX12_putByte : MethodName := ⟨RX12, "putByte", "(JI)V"⟩
def yX12_high : MethodName := ⟨RX12, "high", "()Z"⟩
def yX12_cellAt : MethodName := ⟨RX12, "cellAt", "(J)I"⟩
def yX12_putCell : MethodName := ⟨RX12, "putCell", "(JI)V"⟩
def yX12_depth : MethodName := ⟨RX12, "depth", "()I"⟩
def yX12_may : MethodName := ⟨RX12, "may", "(II)Z"⟩
def yX12_pop : MethodName := ⟨RX12, "pop", "()I"⟩
def yX12_push : MethodName := ⟨RX12, "push", "(J)V"⟩
def yX12_top : MethodName := ⟨RX12, "top", "(I)I"⟩
def yX12_pushDouble : MethodName := ⟨RX12, "pushDouble", "(J)V"⟩
def yX12_popDouble : MethodName := ⟨RX12, "popDouble", "()J"⟩
def yX12_frames : MethodName := ⟨RX12, "frames", "()I"⟩
def yX12_frameAt : MethodName := ⟨RX12, "frameAt", "(I)I"⟩
def yX12_base : MethodName := ⟨RX12, "base", "(I)I"⟩
def yX12_newFrame : MethodName := ⟨RX12, "newFrame", "(I)I"⟩
def yX12_put : MethodName := ⟨RX12, "put", "(I)V"⟩
def yX12_textFrame : MethodName := ⟨RX12, "textFrame", "()I"⟩
def yX12_nested : MethodName := ⟨RX12, "nested", "()I"⟩
def yX12_textSize : MethodName := ⟨RX12, "textSize", "(I)I"⟩
def yX12_textByte : MethodName := ⟨RX12, "textByte", "(II)I"⟩
def yX12_in : MethodName := ⟨RX12, "in", "()J"⟩
def yX12_isBlank : MethodName := ⟨RX12, "isBlank", "(I)Z"⟩
def yX12_word : MethodName := ⟨RX12, "word", "()Z"⟩
def yX12_upTo : MethodName := ⟨RX12, "upTo", "(I)V"⟩
def yX12_wordAt : MethodName := ⟨RX12, "wordAt", "(I)I"⟩
def yX12_itemAt : MethodName := ⟨RX12, "itemAt", "(I)I"⟩
def yX12_isToken : MethodName := ⟨RX12, "isToken", "(J)Z"⟩
def yX12_lower : MethodName := ⟨RX12, "lower", "(I)I"⟩
def yX12_isName : MethodName := ⟨RX12, "isName", "(II)Z"⟩
def yX12_search : MethodName := ⟨RX12, "search", "()I"⟩
def yX12_newWord : MethodName := ⟨RX12, "newWord", "(IZ)I"⟩
def yX12_newName : MethodName := ⟨RX12, "newName", "()Z"⟩
def yX12_item : MethodName := ⟨RX12, "item", "(II)V"⟩
def yX12_items : MethodName := ⟨RX12, "items", "(I)Z"⟩
def yX12_here : MethodName := ⟨RX12, "here", "()I"⟩
def yX12_lead : MethodName := ⟨RX12, "lead", "(II)V"⟩
def yX12_def : MethodName := ⟨RX12, "def", "()I"⟩
def yX12_beginDef : MethodName := ⟨RX12, "beginDef", "(ZZ)V"⟩
def yX12_endDef : MethodName := ⟨RX12, "endDef", "()Z"⟩
def yX12_pair : MethodName := ⟨RX12, "pair", "(III)V"⟩
def yX12_topPair : MethodName := ⟨RX12, "topPair", "(II)I"⟩
def yX12_hasPair : MethodName := ⟨RX12, "hasPair", "(I)Z"⟩
def yX12_numberBase : MethodName := ⟨RX12, "numberBase", "()I"⟩
def yX12_flag : MethodName := ⟨RX12, "flag", "(Z)V"⟩
def yX12_stack : MethodName := ⟨RX12, "stack", "(I)V"⟩
def yX12_roll : MethodName := ⟨RX12, "roll", "(I)V"⟩
def yX12_pushReturn : MethodName := ⟨RX12, "pushReturn", "(I)V"⟩
def yX12_popReturn : MethodName := ⟨RX12, "popReturn", "()I"⟩
def yX12_hasReturn : MethodName := ⟨RX12, "hasReturn", "(I)Z"⟩
def yX12_returns : MethodName := ⟨RX12, "returns", "(I)V"⟩
def yX12_floorOf : MethodName := ⟨RX12, "floorOf", "(JJ)J"⟩
def yX12_quotient : MethodName := ⟨RX12, "quotient", "(JJ)J"⟩
def yX12_divided : MethodName := ⟨RX12, "divided", "(I)V"⟩
def yX12_unsignedDivided : MethodName := ⟨RX12, "unsignedDivided", "()V"⟩
def yX12_signedDivided : MethodName := ⟨RX12, "signedDivided", "(Z)V"⟩
def yX12_reckon : MethodName := ⟨RX12, "reckon", "(I)V"⟩
def yX12_compare : MethodName := ⟨RX12, "compare", "(I)V"⟩
def yX12_grow : MethodName := ⟨RX12, "grow", "(J)V"⟩
def yX12_up : MethodName := ⟨RX12, "up", "(J)J"⟩
def yX12_storing : MethodName := ⟨RX12, "storing", "(I)V"⟩
def yX12_rows : MethodName := ⟨RX12, "rows", "(II)V"⟩
def yX12_hold : MethodName := ⟨RX12, "hold", "(I)V"⟩
def yX12_letter : MethodName := ⟨RX12, "letter", "(J)I"⟩
def yX12_digits : MethodName := ⟨RX12, "digits", "(Z)V"⟩
def yX12_print : MethodName := ⟨RX12, "print", "(J)V"⟩
def yX12_type : MethodName := ⟨RX12, "type", "(IJ)V"⟩
def yX12_spaces : MethodName := ⟨RX12, "spaces", "(I)V"⟩
def yX12_printing : MethodName := ⟨RX12, "printing", "(I)V"⟩
def yX12_plain : MethodName := ⟨RX12, "plain", "(I)V"⟩
def yX12_layString : MethodName := ⟨RX12, "layString", "()I"⟩
def yX12_literal : MethodName := ⟨RX12, "literal", "(I)V"⟩
def yX12_string : MethodName := ⟨RX12, "string", "(I)V"⟩
def yX12_comment : MethodName := ⟨RX12, "comment", "()V"⟩
def yX12_named : MethodName := ⟨RX12, "named", "()I"⟩
def yX12_local : MethodName := ⟨RX12, "local", "()I"⟩
def yX12_is : MethodName := ⟨RX12, "is", "(Ljava/lang/String;)Z"⟩
def yX12_locals : MethodName := ⟨RX12, "locals", "()V"⟩
def yX12_freeMark : MethodName := ⟨RX12, "freeMark", "()I"⟩
def yX12_marker : MethodName := ⟨RX12, "marker", "()V"⟩
def yX12_mark : MethodName := ⟨RX12, "mark", "(IZ)V"⟩
def yX12_makes : MethodName := ⟨RX12, "makes", "(I)V"⟩
def yX12_assign : MethodName := ⟨RX12, "assign", "(Z)V"⟩
def yX12_putValue : MethodName := ⟨RX12, "putValue", "(II)V"⟩
def yX12_postpone : MethodName := ⟨RX12, "postpone", "()V"⟩
def yX12_ends : MethodName := ⟨RX12, "ends", "(Z)V"⟩
def yX12_compiles : MethodName := ⟨RX12, "compiles", "(I)V"⟩
def yX12_drops : MethodName := ⟨RX12, "drops", "()V"⟩
def yX12_origin : MethodName := ⟨RX12, "origin", "(I)V"⟩
def yX12_then : MethodName := ⟨RX12, "then", "()V"⟩
def yX12_swapPairs : MethodName := ⟨RX12, "swapPairs", "()V"⟩
def yX12_back : MethodName := ⟨RX12, "back", "(I)V"⟩
def yX12_settle : MethodName := ⟨RX12, "settle", "(III)V"⟩
def yX12_loopEnds : MethodName := ⟨RX12, "loopEnds", "(I)V"⟩
def yX12_innermost : MethodName := ⟨RX12, "innermost", "()I"⟩
def yX12_control : MethodName := ⟨RX12, "control", "(I)V"⟩
def yX12_endCase : MethodName := ⟨RX12, "endCase", "()V"⟩
def yX12_does : MethodName := ⟨RX12, "does", "(IZ)V"⟩
def yX12_enter : MethodName := ⟨RX12, "enter", "(I)V"⟩
def yX12_isCompiling : MethodName := ⟨RX12, "isCompiling", "(I)Z"⟩
def yX12_isOnly : MethodName := ⟨RX12, "isOnly", "(I)Z"⟩
def yX12_builtIn : MethodName := ⟨RX12, "builtIn", "(I)V"⟩
def yX12_asks : MethodName := ⟨RX12, "asks", "(I)V"⟩
def yX12_nest : MethodName := ⟨RX12, "nest", "(III)V"⟩
def yX12_open : MethodName := ⟨RX12, "open", "()I"⟩
def yX12_loopAt : MethodName := ⟨RX12, "loopAt", "(I)I"⟩
def yX12_exit : MethodName := ⟨RX12, "exit", "()V"⟩
def yX12_loops : MethodName := ⟨RX12, "loops", "(I)V"⟩
def yX12_beginLoop : MethodName := ⟨RX12, "beginLoop", "(II)V"⟩
def yX12_goOn : MethodName := ⟨RX12, "goOn", "(IIJ)V"⟩
def yX12_runItem : MethodName := ⟨RX12, "runItem", "(I)V"⟩
def yX12_doItem : MethodName := ⟨RX12, "doItem", "(III)V"⟩
def yX12_isLocal : MethodName := ⟨RX12, "isLocal", "(II)Z"⟩
def yX12_doLocal : MethodName := ⟨RX12, "doLocal", "(III)V"⟩
def yX12_orders : MethodName := ⟨RX12, "orders", "(I)V"⟩
def yX12_taskAt : MethodName := ⟨RX12, "taskAt", "(I)I"⟩
def yX12_passes : MethodName := ⟨RX12, "passes", "()Z"⟩
def yX12_emptyRows : MethodName := ⟨RX12, "emptyRows", "(I)V"⟩
def yX12_taskEnds : MethodName := ⟨RX12, "taskEnds", "(I)V"⟩
def yX12_tasks : MethodName := ⟨RX12, "tasks", "(I)V"⟩
def yX12_receive : MethodName := ⟨RX12, "receive", "()V"⟩
def yX12_takeBox : MethodName := ⟨RX12, "takeBox", "()V"⟩
def yX12_tests : MethodName := ⟨RX12, "tests", "(I)V"⟩
def yX12_thrown : MethodName := ⟨RX12, "thrown", "()V"⟩
def yX12_restore : MethodName := ⟨RX12, "restore", "(I)V"⟩
def yX12_outOf : MethodName := ⟨RX12, "outOf", "(I)V"⟩
def yX12_digit : MethodName := ⟨RX12, "digit", "(I)I"⟩
def yX12_isNumber : MethodName := ⟨RX12, "isNumber", "()Z"⟩
def yX12_interpret : MethodName := ⟨RX12, "interpret", "()V"⟩
def yX12_textEnds : MethodName := ⟨RX12, "textEnds", "()V"⟩
def yX12_step : MethodName := ⟨RX12, "step", "()V"⟩
def yX12_look : MethodName := ⟨RX12, "look", "(I)V"⟩
def yX12_steps : MethodName := ⟨RX12, "steps", "(II)I"⟩
def yX12_conflict : MethodName := ⟨RX12, "conflict", "(II)V"⟩
def yX12_come : MethodName := ⟨RX12, "come", "(IIIII)V"⟩
def yX12_goThrough : MethodName := ⟨RX12, "goThrough", "(IZII)V"⟩
def yX12_taking : MethodName := ⟨RX12, "taking", "(III)I"⟩
def yX12_ending : MethodName := ⟨RX12, "ending", "(IIII)V"⟩
def yX12_visit : MethodName := ⟨RX12, "visit", "(IIZII)V"⟩
def yX12_comeToo : MethodName := ⟨RX12, "comeToo", "(IIIII)V"⟩
def yX12_visitWord : MethodName := ⟨RX12, "visitWord", "(IIIZIIIII)V"⟩
def yX12_visitBuiltIn : MethodName := ⟨RX12, "visitBuiltIn", "(IIIII)V"⟩
def yX12_effectOf : MethodName := ⟨RX12, "effectOf", "(I)V"⟩
def yX12_laysLed : MethodName := ⟨RX12, "laysLed", "(I)V"⟩
def yX12_isLed : MethodName := ⟨RX12, "isLed", "(II)Z"⟩
def yX12_fold : MethodName := ⟨RX12, "fold", "(IIIZ)I"⟩
def yX12_isFolding : MethodName := ⟨RX12, "isFolding", "(I)Z"⟩
def yX12_isTurning : MethodName := ⟨RX12, "isTurning", "(I)Z"⟩
def yX12_drop : MethodName := ⟨RX12, "drop", "(III)V"⟩
def yX12_leanAt : MethodName := ⟨RX12, "leanAt", "(II)Z"⟩
def yX12_partOf : MethodName := ⟨RX12, "partOf", "(I)I"⟩
def yX12_chipWords : MethodName := ⟨RX12, "chipWords", "(I)I"⟩
def yX12_measures : MethodName := ⟨RX12, "measures", "(I)Z"⟩
def yX12_lays : MethodName := ⟨RX12, "lays", "(I)V"⟩
def yX12_chipStep : MethodName := ⟨RX12, "chipStep", "()V"⟩
def yX12_chipExit : MethodName := ⟨RX12, "chipExit", "()V"⟩
def yX12_init : MethodName := ⟨RX12, "<init>", "()V"⟩
def yX12_isIn : MethodName := ⟨RX12, "isIn", "(III)Z"⟩
def yX12_isSystem : MethodName := ⟨RX12, "isSystem", "(I)Z"⟩
def yX12_type_ : MethodName := ⟨RX12, "type", "(JI)I"⟩
def yX12_wipe : MethodName := ⟨RX12, "wipe", "()I"⟩
def yX12_copyTape : MethodName := ⟨RX12, "copyTape", "()V"⟩
def yX12_systems : MethodName := ⟨RX12, "systems", "()I"⟩
def yX12_system : MethodName := ⟨RX12, "system", "(II)I"⟩
def yX12_evaluate : MethodName := ⟨RX12, "evaluate", "(II)I"⟩
def yX12_go : MethodName := ⟨RX12, "go", "(II)I"⟩
def yX12_out : MethodName := ⟨RX12, "out", "(II)I"⟩
def yX12_count : MethodName := ⟨RX12, "count", "(II)I"⟩
def yX12_thrown_ : MethodName := ⟨RX12, "thrown", "(II)I"⟩
def yX12_depth_ : MethodName := ⟨RX12, "depth", "(III)I"⟩
def yX12_cell : MethodName := ⟨RX12, "cell", "(IIII)I"⟩
def yX12_task : MethodName := ⟨RX12, "task", "(II)I"⟩
def yX12_fetch : MethodName := ⟨RX12, "fetch", "(III)I"⟩
def yX12_find : MethodName := ⟨RX12, "find", "(I)I"⟩
def yX12_isOf : MethodName := ⟨RX12, "isOf", "(II)Z"⟩
def yX12_word_ : MethodName := ⟨RX12, "word", "(III)I"⟩
def yX12_name : MethodName := ⟨RX12, "name", "(III)I"⟩
def yX12_item_ : MethodName := ⟨RX12, "item", "(III)I"⟩
def yX12_isEnded : MethodName := ⟨RX12, "isEnded", "(II)Z"⟩
def yX12_effect : MethodName := ⟨RX12, "effect", "(II)I"⟩
def yX12_effectOf_ : MethodName := ⟨RX12, "effectOf", "(III)I"⟩
def yX12_lean : MethodName := ⟨RX12, "lean", "(II)I"⟩
def yX12_chip : MethodName := ⟨RX12, "chip", "(II)I"⟩
def yX12_chipWord : MethodName := ⟨RX12, "chipWord", "(I)I"⟩
def yX12_lookChip : MethodName := ⟨RX12, "lookChip", "()V"⟩
def yX12_chipPut : MethodName := ⟨RX12, "chipPut", "(I)I"⟩
def yX12_chipGo : MethodName := ⟨RX12, "chipGo", "(I)I"⟩
def yX12_chipTold : MethodName := ⟨RX12, "chipTold", "(I)I"⟩
def yX12_chipCell : MethodName := ⟨RX12, "chipCell", "(I)I"⟩
def yX12_chipByte : MethodName := ⟨RX12, "chipByte", "(I)I"⟩
def yX12_put_ : MethodName := ⟨RX12, "put", "(III)I"⟩
def yX12_copy : MethodName := ⟨RX12, "copy", "(II)V"⟩
def yX12_keep : MethodName := ⟨RX12, "keep", "(II)I"⟩
def yX12_again : MethodName := ⟨RX12, "again", "(II)I"⟩
def yX12_rowsAlike : MethodName := ⟨RX12, "rowsAlike", "([IIII)Z"⟩
def yX12_same : MethodName := ⟨RX12, "same", "(II)Z"⟩
def yX12_tasksAlike : MethodName := ⟨RX12, "tasksAlike", "(II)Z"⟩
def yJ9_floorDiv_f86c9 : MethodName := ⟨RJ9, "floorDiv", "(JJ)J"⟩
def yJ9_abs_067f4 : MethodName := ⟨RJ9, "abs", "(J)J"⟩
def yJ9_max_7cf53 : MethodName := ⟨RJ9, "max", "(II)I"⟩
def yJ9_min_7cf53 : MethodName := ⟨RJ9, "min", "(II)I"⟩
def yJ9_min_f86c9 : MethodName := ⟨RJ9, "min", "(JJ)J"⟩
def yJ0_length_8abf5 : MethodName := ⟨RJ0, "length", "()I"⟩
def yJ0_charAt_5068e : MethodName := ⟨RJ0, "charAt", "(I)C"⟩
def yJ0_coder_7d493 : MethodName := ⟨RJ0, "coder", "()B"⟩
def yJ0_isLatin1_aae02 : MethodName := ⟨RJ0, "isLatin1", "()Z"⟩
def yJ0_checkIndex_df160 : MethodName := ⟨RJ0, "checkIndex", "(II)V"⟩
def yJ1_charAt_3b067 : MethodName := ⟨RJ1, "charAt", "([BI)C"⟩
def yJ2_getChar_3b067 : MethodName := ⟨RJ2, "getChar", "([BI)C"⟩
def yJ2_length_9d52b : MethodName := ⟨RJ2, "length", "([B)I"⟩
def yJ2_charAt_3b067 : MethodName := ⟨RJ2, "charAt", "([BI)C"⟩
def yJ2_checkIndex_2214a : MethodName := ⟨RJ2, "checkIndex", "(I[B)V"⟩
def yJ7_rangeCheck_23922 : MethodName := ⟨RJ7, "rangeCheck", "(III)V"⟩
def yJ7_fill_53178 : MethodName := ⟨RJ7, "fill", "([II)V"⟩
def yJ7_fill_031fb : MethodName := ⟨RJ7, "fill", "([BB)V"⟩
def yJ7_fill_eb02e : MethodName := ⟨RJ7, "fill", "([BIIB)V"⟩
def yJ3_checkIndex_8e157 : MethodName := ⟨RJ3, "checkIndex", "(IILjava/util/function/BiFunction;)I"⟩
def yL_law : MethodName := ⟨RL, "law", "([I)Z"⟩
/-! classes of the worlds -/
abbrev zcls : List vw_C := [(RX0, TX0, 11), (RX1, TX1, 18), (RX2, TX2, 3), (RX3, TX3, 20), (RX4, TX4, 12), (RX5, TX5, 15), (RX6, TX6, 8), (RX7, TX7, 5), (RX8, TX8, 18), (RX9, TX9, 15), (RX10, TX10, 14), (RX11, TX11, 7), (RX12, TX12, 35)]
def zfty (ci : Nat) : Nat → FieldType := match ci with
  | 0 => tyX0
  | 1 => tyX1
  | 2 => tyX2
  | 3 => tyX3
  | 4 => tyX4
  | 5 => tyX5
  | 6 => tyX6
  | 7 => tyX7
  | 8 => tyX8
  | 9 => tyX9
  | 10 => tyX10
  | 11 => tyX11
  | _ => tyX12
def zW : List Cond := lw_tbl.filter goodWord
theorem zW_of {w : Cond} (k : Nat) (h : lw_tbl[k]? = some w) (hg : goodWord w = true) : w ∈ zW := List.mem_filter.mpr ⟨List.mem_of_getElem? h, hg⟩
theorem zW_good : GoodIn zW zW := fun w h => ⟨h, good_of_word (List.mem_filter.mp h).2⟩
theorem zmem_of {ws : List Cond} (ps : List Nat) (h : ws.map some = ps.map (fun i => lw_tbl[i]?)) (hg : ws.all goodWord = true) : ∀ w ∈ ws, w ∈ zW := by
  intro w hw
  have h1 : some w ∈ ps.map (fun i => lw_tbl[i]?) := by rw [← h]; exact List.mem_map.mpr ⟨w, hw, rfl⟩
  obtain ⟨i, -, hi⟩ := List.mem_map.mp h1
  exact zW_of i hi (List.all_eq_true.mp hg w hw)
theorem zi_0 : ∀ w ∈ u_ws RX0 TX0 11, w ∈ zW := zmem_of [429, 431, 433, 435, 437, 439, 441, 443, 445, 447, 449] (by decide +kernel) (by decide +kernel)
theorem zi_1 : ∀ w ∈ u_ws RX1 TX1 18, w ∈ zW := zmem_of [929, 931, 933, 935, 937, 939, 941, 943, 945, 947, 949, 951, 953, 955, 957, 959, 961, 963] (by decide +kernel) (by decide +kernel)
theorem zi_2 : ∀ w ∈ u_ws RX2 TX2 3, w ∈ zW := zmem_of [612, 614, 616] (by decide +kernel) (by decide +kernel)
theorem zi_3 : ∀ w ∈ u_ws RX3 TX3 20, w ∈ zW := zmem_of [854, 856, 858, 860, 862, 864, 866, 868, 870, 872, 874, 876, 878, 880, 882, 884, 886, 888, 890, 892] (by decide +kernel) (by decide +kernel)
theorem zi_4 : ∀ w ∈ u_ws RX4 TX4 12, w ∈ zW := zmem_of [766, 768, 770, 772, 774, 776, 778, 780, 782, 784, 786, 788] (by decide +kernel) (by decide +kernel)
theorem zi_5 : ∀ w ∈ u_ws RX5 TX5 15, w ∈ zW := zmem_of [709, 711, 713, 715, 717, 719, 721, 723, 725, 727, 729, 731, 733, 735, 737] (by decide +kernel) (by decide +kernel)
theorem zi_6 : ∀ w ∈ u_ws RX6 TX6 8, w ∈ zW := zmem_of [809, 811, 813, 815, 817, 819, 821, 823] (by decide +kernel) (by decide +kernel)
theorem zi_7 : ∀ w ∈ u_ws RX7 TX7 5, w ∈ zW := zmem_of [319, 321, 323, 325, 327] (by decide +kernel) (by decide +kernel)
theorem zi_8 : ∀ w ∈ u_ws RX8 TX8 18, w ∈ zW := zmem_of [377, 379, 381, 383, 385, 387, 389, 391, 393, 395, 397, 399, 401, 403, 405, 407, 409, 411] (by decide +kernel) (by decide +kernel)
theorem zi_9 : ∀ w ∈ u_ws RX9 TX9 15, w ∈ zW := zmem_of [650, 652, 654, 656, 658, 660, 662, 664, 666, 668, 670, 672, 674, 676, 678] (by decide +kernel) (by decide +kernel)
theorem zi_10 : ∀ w ∈ u_ws RX10 TX10 14, w ∈ zW := zmem_of [562, 564, 566, 568, 570, 572, 574, 576, 578, 580, 582, 584, 586, 588] (by decide +kernel) (by decide +kernel)
theorem zi_11 : ∀ w ∈ u_ws RX11 TX11 7, w ∈ zW := zmem_of [973, 975, 977, 979, 981, 983, 985] (by decide +kernel) (by decide +kernel)
theorem zi_12 : ∀ w ∈ u_ws RX12 TX12 35, w ∈ zW := zmem_of [2279, 2281, 2283, 2285, 2287, 2289, 2291, 2293, 2295, 2297, 2299, 2301, 2303, 2305, 2307, 2309, 2311, 2313, 2315, 2317, 2319, 2321, 2323, 2325, 2327, 2329, 2331, 2333, 2335, 2337, 2339, 2341, 2343, 2345, 2347] (by decide +kernel) (by decide +kernel)
theorem zcls_ok : ∀ (ci : Nat) (q : vw_C), zcls[ci]? = some q → (∀ w ∈ u_ws q.1 q.2.1 q.2.2, w ∈ zW) ∧ (∀ k, k < q.2.2 → parseFieldDescriptor (q.2.1 k).2.2.1 = some (zfty ci k)) ∧ (∀ a, a < q.2.2 → ∀ b, b < q.2.2 → a ≠ b → (q.2.1 a).2.1 ≠ (q.2.1 b).2.1)
  | 0, q, h => by cases h; exact ⟨zi_0, tyX0_ok, nmX0⟩
  | 1, q, h => by cases h; exact ⟨zi_1, tyX1_ok, nmX1⟩
  | 2, q, h => by cases h; exact ⟨zi_2, tyX2_ok, nmX2⟩
  | 3, q, h => by cases h; exact ⟨zi_3, tyX3_ok, nmX3⟩
  | 4, q, h => by cases h; exact ⟨zi_4, tyX4_ok, nmX4⟩
  | 5, q, h => by cases h; exact ⟨zi_5, tyX5_ok, nmX5⟩
  | 6, q, h => by cases h; exact ⟨zi_6, tyX6_ok, nmX6⟩
  | 7, q, h => by cases h; exact ⟨zi_7, tyX7_ok, nmX7⟩
  | 8, q, h => by cases h; exact ⟨zi_8, tyX8_ok, nmX8⟩
  | 9, q, h => by cases h; exact ⟨zi_9, tyX9_ok, nmX9⟩
  | 10, q, h => by cases h; exact ⟨zi_10, tyX10_ok, nmX10⟩
  | 11, q, h => by cases h; exact ⟨zi_11, tyX11_ok, nmX11⟩
  | 12, q, h => by cases h; exact ⟨zi_12, tyX12_ok, nmX12⟩
  | k + 13, q, h => by simp [zcls] at h
/-! the links of the classes: (kind, a, b, place among the words) -/
def zown : Nat → String := fun k => match k with
  | 0 => "ForthHouse$Chip"
  | 1 => "ForthHouse$Forth"
  | 2 => "ForthHouse$Items"
  | 3 => "ForthHouse$Judge"
  | 4 => "ForthHouse$Lists"
  | 5 => "ForthHouse$Making"
  | 6 => "ForthHouse$Sink"
  | 7 => "ForthHouse$Space"
  | 8 => "ForthHouse$Task"
  | 9 => "ForthHouse$Texts"
  | 10 => "ForthHouse$Words"
  | 11 => "ForthHouse"
  | 12 => "ForthHouseModel"
  | 13 => "ForthHouseLaw"
  | 14 => "java/lang/Math"
  | 15 => "java/util/Arrays"
  | 16 => "java/lang/String"
  | 17 => "java/lang/StringLatin1"
  | 18 => "java/lang/StringUTF16"
  | 19 => "jdk/internal/util/Preconditions"
  | _ => "java/lang/System"
def zmn : Nat → MethodName := fun k => cond (Nat.blt k 258) (cond (Nat.blt k 129) (cond (Nat.blt k 64) (cond (Nat.blt k 32) (cond (Nat.blt k 16) (cond (Nat.blt k 8) (cond (Nat.blt k 4) (cond (Nat.blt k 2) (cond (Nat.blt k 1) (cond (Nat.beq k 0) (yX0_init) yL_law) (cond (Nat.beq k 1) (yX0_holds) yL_law)) (cond (Nat.blt k 3) (cond (Nat.beq k 2) (yX0_make) yL_law) (cond (Nat.beq k 3) (yX0_meet) yL_law))) (cond (Nat.blt k 6) (cond (Nat.blt k 5) (cond (Nat.beq k 4) (yX0_plan) yL_law) (cond (Nat.beq k 5) (yX0_width) yL_law)) (cond (Nat.blt k 7) (cond (Nat.beq k 6) (yX0_isOnChip) yL_law) (cond (Nat.beq k 7) (yX0_layDefinition) yL_law)))) (cond (Nat.blt k 12) (cond (Nat.blt k 10) (cond (Nat.blt k 9) (cond (Nat.beq k 8) (yX0_layWord) yL_law) (cond (Nat.beq k 9) (yX0_layCell) yL_law)) (cond (Nat.blt k 11) (cond (Nat.beq k 10) (yX0_lay) yL_law) (cond (Nat.beq k 11) (yX0_receive) yL_law))) (cond (Nat.blt k 14) (cond (Nat.blt k 13) (cond (Nat.beq k 12) (yX0_run) yL_law) (cond (Nat.beq k 13) (yX0_step) yL_law)) (cond (Nat.blt k 15) (cond (Nat.beq k 14) (yX0_end) yL_law) (cond (Nat.beq k 15) (yX0_tell) yL_law))))) (cond (Nat.blt k 24) (cond (Nat.blt k 20) (cond (Nat.blt k 18) (cond (Nat.blt k 17) (cond (Nat.beq k 16) (yX1_init) yL_law) (cond (Nat.beq k 17) (yX1_begin) yL_law)) (cond (Nat.blt k 19) (cond (Nat.beq k 18) (yX1_become) yL_law) (cond (Nat.beq k 19) (yX1_isLike) yL_law))) (cond (Nat.blt k 22) (cond (Nat.blt k 21) (cond (Nat.beq k 20) (yX1_figure) yL_law) (cond (Nat.beq k 21) (yX1_tokenOf) yL_law)) (cond (Nat.blt k 23) (cond (Nat.beq k 22) (yX1_othersEnded) yL_law) (cond (Nat.beq k 23) (yX1_isAtRest) yL_law)))) (cond (Nat.blt k 28) (cond (Nat.blt k 26) (cond (Nat.blt k 25) (cond (Nat.beq k 24) (yX1_hasText) yL_law) (cond (Nat.beq k 25) (yX1_hand) yL_law)) (cond (Nat.blt k 27) (cond (Nat.beq k 26) (yX1_run) yL_law) (cond (Nat.beq k 27) (yX1_step) yL_law))) (cond (Nat.blt k 30) (cond (Nat.blt k 29) (cond (Nat.beq k 28) (yX1_ask) yL_law) (cond (Nat.beq k 29) (yX1_beginTask) yL_law)) (cond (Nat.blt k 31) (cond (Nat.beq k 30) (yX1_take) yL_law) (cond (Nat.beq k 31) (yX1_takeFromBox) yL_law)))))) (cond (Nat.blt k 48) (cond (Nat.blt k 40) (cond (Nat.blt k 36) (cond (Nat.blt k 34) (cond (Nat.blt k 33) (cond (Nat.beq k 32) (yX1_endCatch) yL_law) (cond (Nat.beq k 33) (yX1_itemStep) yL_law)) (cond (Nat.blt k 35) (cond (Nat.beq k 34) (yX1_does) yL_law) (cond (Nat.beq k 35) (yX1_abort) yL_law))) (cond (Nat.blt k 38) (cond (Nat.blt k 37) (cond (Nat.beq k 36) (yX1_putOut) yL_law) (cond (Nat.beq k 37) (yX1_textStep) yL_law)) (cond (Nat.blt k 39) (cond (Nat.beq k 38) (yX1_endText) yL_law) (cond (Nat.beq k 39) (yX1_takeNumber) yL_law)))) (cond (Nat.blt k 44) (cond (Nat.blt k 42) (cond (Nat.blt k 41) (cond (Nat.beq k 40) (yX1_digitOf) yL_law) (cond (Nat.beq k 41) (yX1_leave) yL_law)) (cond (Nat.blt k 43) (cond (Nat.beq k 42) (yX1_unwind) yL_law) (cond (Nat.beq k 43) (yX1_throwOut) yL_law))) (cond (Nat.blt k 46) (cond (Nat.blt k 45) (cond (Nat.beq k 44) (yX1_endTask) yL_law) (cond (Nat.beq k 45) (yX1_handOn) yL_law)) (cond (Nat.blt k 47) (cond (Nat.beq k 46) (yX1_perform) yL_law) (cond (Nat.beq k 47) (yX1_offer) yL_law))))) (cond (Nat.blt k 56) (cond (Nat.blt k 52) (cond (Nat.blt k 50) (cond (Nat.blt k 49) (cond (Nat.beq k 48) (yX1_doCreated) yL_law) (cond (Nat.beq k 49) (yX1_goBack) yL_law)) (cond (Nat.blt k 51) (cond (Nat.beq k 50) (yX1_printing) yL_law) (cond (Nat.beq k 51) (yX1_print) yL_law))) (cond (Nat.blt k 54) (cond (Nat.blt k 53) (cond (Nat.beq k 52) (yX1_sharp) yL_law) (cond (Nat.beq k 53) (yX1_defining) yL_law)) (cond (Nat.blt k 55) (cond (Nat.beq k 54) (yX1_readFor) yL_law) (cond (Nat.beq k 55) (yX1_beginDefinition) yL_law)))) (cond (Nat.blt k 60) (cond (Nat.blt k 58) (cond (Nat.blt k 57) (cond (Nat.beq k 56) (yX1_endDefinition) yL_law) (cond (Nat.beq k 57) (yX1_finish) yL_law)) (cond (Nat.blt k 59) (cond (Nat.beq k 58) (yX1_beginQuotation) yL_law) (cond (Nat.beq k 59) (yX1_endQuotation) yL_law))) (cond (Nat.blt k 62) (cond (Nat.blt k 61) (cond (Nat.beq k 60) (yX1_addDoes) yL_law) (cond (Nat.beq k 61) (yX1_makeValue) yL_law)) (cond (Nat.blt k 63) (cond (Nat.beq k 62) (yX1_makeWord) yL_law) (cond (Nat.beq k 63) (yX1_makeImmediate) yL_law))))))) (cond (Nat.blt k 96) (cond (Nat.blt k 80) (cond (Nat.blt k 72) (cond (Nat.blt k 68) (cond (Nat.blt k 66) (cond (Nat.blt k 65) (cond (Nat.beq k 64) (yX1_tick) yL_law) (cond (Nat.beq k 65) (yX1_setNamed) yL_law)) (cond (Nat.blt k 67) (cond (Nat.beq k 66) (yX1_assign) yL_law) (cond (Nat.beq k 67) (yX1_string) yL_law))) (cond (Nat.blt k 70) (cond (Nat.blt k 69) (cond (Nat.beq k 68) (yX1_readLocals) yL_law) (cond (Nat.beq k 69) (yX1_addLocals) yL_law)) (cond (Nat.blt k 71) (cond (Nat.beq k 70) (yX1_doToken) yL_law) (cond (Nat.beq k 71) (yX1_evaluateText) yL_law)))) (cond (Nat.blt k 76) (cond (Nat.blt k 74) (cond (Nat.blt k 73) (cond (Nat.beq k 72) (yX1_nest) yL_law) (cond (Nat.beq k 73) (yX1_tasking) yL_law)) (cond (Nat.blt k 75) (cond (Nat.beq k 74) (yX1_beginCatch) yL_law) (cond (Nat.beq k 75) (yX1_makeTask) yL_law))) (cond (Nat.blt k 78) (cond (Nat.blt k 77) (cond (Nat.beq k 76) (yX1_send) yL_law) (cond (Nat.beq k 77) (yX1_receive) yL_law)) (cond (Nat.blt k 79) (cond (Nat.beq k 78) (yX1_load) yL_law) (cond (Nat.beq k 79) (yX2_init) yL_law))))) (cond (Nat.blt k 88) (cond (Nat.blt k 84) (cond (Nat.blt k 82) (cond (Nat.blt k 81) (cond (Nat.beq k 80) (yX2_become) yL_law) (cond (Nat.beq k 81) (yX2_isLike) yL_law)) (cond (Nat.blt k 83) (cond (Nat.beq k 82) (yX2_holds) yL_law) (cond (Nat.beq k 83) (yX2_hasRoom) yL_law))) (cond (Nat.blt k 86) (cond (Nat.blt k 85) (cond (Nat.beq k 84) (yX2_add) yL_law) (cond (Nat.beq k 85) (yX2_point) yL_law)) (cond (Nat.blt k 87) (cond (Nat.beq k 86) (yX2_isJump) yL_law) (cond (Nat.beq k 87) (yX2_isWord) yL_law)))) (cond (Nat.blt k 92) (cond (Nat.blt k 90) (cond (Nat.blt k 89) (cond (Nat.beq k 88) (yX2_isKind) yL_law) (cond (Nat.beq k 89) (yX3_init) yL_law)) (cond (Nat.blt k 91) (cond (Nat.beq k 90) (yX3_work) yL_law) (cond (Nat.beq k 91) (yX3_pass) yL_law))) (cond (Nat.blt k 94) (cond (Nat.blt k 93) (cond (Nat.beq k 92) (yX3_leastWaiting) yL_law) (cond (Nat.beq k 93) (yX3_stop) yL_law)) (cond (Nat.blt k 95) (cond (Nat.beq k 94) (yX3_arrive) yL_law) (cond (Nat.beq k 95) (yX3_take) yL_law)))))) (cond (Nat.blt k 112) (cond (Nat.blt k 104) (cond (Nat.blt k 100) (cond (Nat.blt k 98) (cond (Nat.blt k 97) (cond (Nat.beq k 96) (yX3_goOn) yL_law) (cond (Nat.beq k 97) (yX3_leaveAt) yL_law)) (cond (Nat.blt k 99) (cond (Nat.beq k 98) (yX3_look) yL_law) (cond (Nat.beq k 99) (yX3_lookLoop) yL_law))) (cond (Nat.blt k 102) (cond (Nat.blt k 101) (cond (Nat.beq k 100) (yX3_lookWord) yL_law) (cond (Nat.beq k 101) (yX3_lookBuiltIn) yL_law)) (cond (Nat.blt k 103) (cond (Nat.beq k 102) (yX3_mayLean) yL_law) (cond (Nat.beq k 103) (yX3_makeLean) yL_law)))) (cond (Nat.blt k 108) (cond (Nat.blt k 106) (cond (Nat.blt k 105) (cond (Nat.beq k 104) (yX3_leanOnce) yL_law) (cond (Nat.beq k 105) (yX3_markTargets) yL_law)) (cond (Nat.blt k 107) (cond (Nat.beq k 106) (yX3_goes) yL_law) (cond (Nat.beq k 107) (yX3_reckonsOne) yL_law))) (cond (Nat.blt k 110) (cond (Nat.blt k 109) (cond (Nat.beq k 108) (yX3_reckonsTwo) yL_law) (cond (Nat.beq k 109) (yX3_reckoned) yL_law)) (cond (Nat.blt k 111) (cond (Nat.beq k 110) (yX3_remove) yL_law) (cond (Nat.beq k 111) (yX4_init) yL_law))))) (cond (Nat.blt k 120) (cond (Nat.blt k 116) (cond (Nat.blt k 114) (cond (Nat.blt k 113) (cond (Nat.beq k 112) (yX4_become) yL_law) (cond (Nat.beq k 113) (yX4_isLike) yL_law)) (cond (Nat.blt k 115) (cond (Nat.beq k 114) (yX4_only) yL_law) (cond (Nat.beq k 115) (yX4_search) yL_law))) (cond (Nat.blt k 118) (cond (Nat.blt k 117) (cond (Nat.beq k 116) (yX4_previous) yL_law) (cond (Nat.beq k 117) (yX4_define) yL_law)) (cond (Nat.blt k 119) (cond (Nat.beq k 118) (yX4_mark) yL_law) (cond (Nat.beq k 119) (yX4_goBack) yL_law)))) (cond (Nat.blt k 124) (cond (Nat.blt k 122) (cond (Nat.blt k 121) (cond (Nat.beq k 120) (yX5_init) yL_law) (cond (Nat.beq k 121) (yX5_become) yL_law)) (cond (Nat.blt k 123) (cond (Nat.beq k 122) (yX5_isLike) yL_law) (cond (Nat.beq k 123) (yX5_begin) yL_law))) (cond (Nat.blt k 126) (cond (Nat.blt k 125) (cond (Nat.beq k 124) (yX5_forget) yL_law) (cond (Nat.beq k 125) (yX5_innermost) yL_law)) (cond (Nat.blt k 127) (cond (Nat.beq k 126) (yX5_base) yL_law) (cond (Nat.blt k 128) (cond (Nat.beq k 127) (yX5_isLevel) yL_law) (cond (Nat.beq k 128) (yX5_isMarked) yL_law))))))))) (cond (Nat.blt k 193) (cond (Nat.blt k 161) (cond (Nat.blt k 145) (cond (Nat.blt k 137) (cond (Nat.blt k 133) (cond (Nat.blt k 131) (cond (Nat.blt k 130) (cond (Nat.beq k 129) (yX5_mark) yL_law) (cond (Nat.beq k 130) (yX5_localOf) yL_law)) (cond (Nat.blt k 132) (cond (Nat.beq k 131) (yX5_nameLocal) yL_law) (cond (Nat.beq k 132) (yX5_countLocals) yL_law))) (cond (Nat.blt k 135) (cond (Nat.blt k 134) (cond (Nat.beq k 133) (yX5_kindAt) yL_law) (cond (Nat.beq k 134) (yX5_placeAt) yL_law)) (cond (Nat.blt k 136) (cond (Nat.beq k 135) (yX5_setPair) yL_law) (cond (Nat.beq k 136) (yX5_control) yL_law)))) (cond (Nat.blt k 141) (cond (Nat.blt k 139) (cond (Nat.blt k 138) (cond (Nat.beq k 137) (yX5_pair) yL_law) (cond (Nat.beq k 138) (yX5_branch) yL_law)) (cond (Nat.blt k 140) (cond (Nat.beq k 139) (yX5_then) yL_law) (cond (Nat.beq k 140) (yX5_otherwise) yL_law))) (cond (Nat.blt k 143) (cond (Nat.blt k 142) (cond (Nat.beq k 141) (yX5_back) yL_law) (cond (Nat.beq k 142) (yX5_during) yL_law)) (cond (Nat.blt k 144) (cond (Nat.beq k 143) (yX5_repeat) yL_law) (cond (Nat.beq k 144) (yX5_endLoop) yL_law))))) (cond (Nat.blt k 153) (cond (Nat.blt k 149) (cond (Nat.blt k 147) (cond (Nat.blt k 146) (cond (Nat.beq k 145) (yX5_leave) yL_law) (cond (Nat.beq k 146) (yX5_endCase) yL_law)) (cond (Nat.blt k 148) (cond (Nat.beq k 147) (yX6_init) yL_law) (cond (Nat.beq k 148) (yX6_become) yL_law))) (cond (Nat.blt k 151) (cond (Nat.blt k 150) (cond (Nat.beq k 149) (yX6_byteOf) yL_law) (cond (Nat.beq k 150) (yX6_grow) yL_law)) (cond (Nat.blt k 152) (cond (Nat.beq k 151) (yX6_emit) yL_law) (cond (Nat.beq k 152) (yX6_blanks) yL_law)))) (cond (Nat.blt k 157) (cond (Nat.blt k 155) (cond (Nat.blt k 154) (cond (Nat.beq k 153) (yX6_write) yL_law) (cond (Nat.beq k 154) (yX6_print) yL_law)) (cond (Nat.blt k 156) (cond (Nat.beq k 155) (yX6_digit) yL_law) (cond (Nat.beq k 156) (yX6_keepAbove) yL_law))) (cond (Nat.blt k 159) (cond (Nat.blt k 158) (cond (Nat.beq k 157) (yX6_judgeAbove) yL_law) (cond (Nat.beq k 158) (yX7_init) yL_law)) (cond (Nat.blt k 160) (cond (Nat.beq k 159) (yX7_become) yL_law) (cond (Nat.beq k 160) (yX7_isLike) yL_law)))))) (cond (Nat.blt k 177) (cond (Nat.blt k 169) (cond (Nat.blt k 165) (cond (Nat.blt k 163) (cond (Nat.blt k 162) (cond (Nat.beq k 161) (yX7_isFloored) yL_law) (cond (Nat.beq k 162) (yX7_isCased) yL_law)) (cond (Nat.blt k 164) (cond (Nat.beq k 163) (yX7_bits) yL_law) (cond (Nat.beq k 164) (yX7_cut) yL_law))) (cond (Nat.blt k 167) (cond (Nat.blt k 166) (cond (Nat.beq k 165) (yX7_bare) yL_law) (cond (Nat.beq k 166) (yX7_holds) yL_law)) (cond (Nat.blt k 168) (cond (Nat.beq k 167) (yX7_byteAt) yL_law) (cond (Nat.beq k 168) (yX7_cellAt) yL_law)))) (cond (Nat.blt k 173) (cond (Nat.blt k 171) (cond (Nat.blt k 170) (cond (Nat.beq k 169) (yX7_layCell) yL_law) (cond (Nat.beq k 170) (yX7_hasRoom) yL_law)) (cond (Nat.blt k 172) (cond (Nat.beq k 171) (yX7_moveHere) yL_law) (cond (Nat.beq k 172) (yX7_aligned) yL_law))) (cond (Nat.blt k 175) (cond (Nat.blt k 174) (cond (Nat.beq k 173) (yX7_base) yL_law) (cond (Nat.beq k 174) (yX7_hold) yL_law)) (cond (Nat.blt k 176) (cond (Nat.beq k 175) (yX8_init) yL_law) (cond (Nat.beq k 176) (yX8_become) yL_law))))) (cond (Nat.blt k 185) (cond (Nat.blt k 181) (cond (Nat.blt k 179) (cond (Nat.blt k 178) (cond (Nat.beq k 177) (yX8_isLike) yL_law) (cond (Nat.beq k 178) (yX8_clearRows) yL_law)) (cond (Nat.blt k 180) (cond (Nat.beq k 179) (yX8_lengthOf) yL_law) (cond (Nat.beq k 180) (yX8_cellOf) yL_law))) (cond (Nat.blt k 183) (cond (Nat.blt k 182) (cond (Nat.beq k 181) (yX8_lack) yL_law) (cond (Nat.beq k 182) (yX8_push) yL_law)) (cond (Nat.blt k 184) (cond (Nat.beq k 183) (yX8_pop) yL_law) (cond (Nat.beq k 184) (yX8_peek) yL_law)))) (cond (Nat.blt k 189) (cond (Nat.blt k 187) (cond (Nat.blt k 186) (cond (Nat.beq k 185) (yX8_give) yL_law) (cond (Nat.beq k 186) (yX8_flag) yL_law)) (cond (Nat.blt k 188) (cond (Nat.beq k 187) (yX8_giveTwin) yL_law) (cond (Nat.beq k 188) (yX8_popTwin) yL_law))) (cond (Nat.blt k 191) (cond (Nat.blt k 190) (cond (Nat.beq k 189) (yX8_popBareTwin) yL_law) (cond (Nat.beq k 190) (yX8_bringUp) yL_law)) (cond (Nat.blt k 192) (cond (Nat.beq k 191) (yX8_base) yL_law) (cond (Nat.beq k 192) (yX8_frameKind) yL_law))))))) (cond (Nat.blt k 225) (cond (Nat.blt k 209) (cond (Nat.blt k 201) (cond (Nat.blt k 197) (cond (Nat.blt k 195) (cond (Nat.blt k 194) (cond (Nat.beq k 193) (yX8_open) yL_law) (cond (Nat.beq k 194) (yX8_enter) yL_law)) (cond (Nat.blt k 196) (cond (Nat.beq k 195) (yX8_close) yL_law) (cond (Nat.beq k 196) (yX8_exit) yL_law))) (cond (Nat.blt k 199) (cond (Nat.blt k 198) (cond (Nat.beq k 197) (yX8_latestCatch) yL_law) (cond (Nat.beq k 198) (yX8_fallTo) yL_law)) (cond (Nat.blt k 200) (cond (Nat.beq k 199) (yX8_core) yL_law) (cond (Nat.beq k 200) (yX8_shuffle) yL_law)))) (cond (Nat.blt k 205) (cond (Nat.blt k 203) (cond (Nat.blt k 202) (cond (Nat.beq k 201) (yX8_duplicate) yL_law) (cond (Nat.beq k 202) (yX8_reachDown) yL_law)) (cond (Nat.blt k 204) (cond (Nat.beq k 203) (yX8_overReturn) yL_law) (cond (Nat.beq k 204) (yX8_toReturn) yL_law))) (cond (Nat.blt k 207) (cond (Nat.blt k 206) (cond (Nat.beq k 205) (yX8_reckon) yL_law) (cond (Nat.beq k 206) (yX8_twinWord) yL_law)) (cond (Nat.blt k 208) (cond (Nat.beq k 207) (yX8_divide) yL_law) (cond (Nat.beq k 208) (yX8_divideBare) yL_law))))) (cond (Nat.blt k 217) (cond (Nat.blt k 213) (cond (Nat.blt k 211) (cond (Nat.blt k 210) (cond (Nat.beq k 209) (yX8_divideTwin) yL_law) (cond (Nat.beq k 210) (yX8_compare) yL_law)) (cond (Nat.blt k 212) (cond (Nat.beq k 211) (yX8_shift) yL_law) (cond (Nat.beq k 212) (yX8_within) yL_law))) (cond (Nat.blt k 215) (cond (Nat.blt k 214) (cond (Nat.beq k 213) (yX8_memory) yL_law) (cond (Nat.beq k 214) (yX8_lay) yL_law)) (cond (Nat.blt k 216) (cond (Nat.beq k 215) (yX8_fill) yL_law) (cond (Nat.beq k 216) (yX8_move) yL_law)))) (cond (Nat.blt k 221) (cond (Nat.blt k 219) (cond (Nat.blt k 218) (cond (Nat.beq k 217) (yX8_reach) yL_law) (cond (Nat.beq k 218) (yX8_loopWord) yL_law)) (cond (Nat.blt k 220) (cond (Nat.beq k 219) (yX8_flow) yL_law) (cond (Nat.beq k 220) (yX8_beginLoop) yL_law))) (cond (Nat.blt k 223) (cond (Nat.blt k 222) (cond (Nat.beq k 221) (yX8_loop) yL_law) (cond (Nat.beq k 222) (yX8_of) yL_law)) (cond (Nat.blt k 224) (cond (Nat.beq k 223) (yX8_enterLocals) yL_law) (cond (Nat.beq k 224) (yX8_local) yL_law)))))) (cond (Nat.blt k 241) (cond (Nat.blt k 233) (cond (Nat.blt k 229) (cond (Nat.blt k 227) (cond (Nat.blt k 226) (cond (Nat.beq k 225) (yX9_init) yL_law) (cond (Nat.beq k 226) (yX9_become) yL_law)) (cond (Nat.blt k 228) (cond (Nat.beq k 227) (yX9_isLike) yL_law) (cond (Nat.beq k 228) (yX9_settle) yL_law))) (cond (Nat.blt k 231) (cond (Nat.blt k 230) (cond (Nat.beq k 229) (yX9_start) yL_law) (cond (Nat.beq k 230) (yX9_nest) yL_law)) (cond (Nat.blt k 232) (cond (Nat.beq k 231) (yX9_fallTo) yL_law) (cond (Nat.beq k 232) (yX9_inBlock) yL_law)))) (cond (Nat.blt k 237) (cond (Nat.blt k 235) (cond (Nat.blt k 234) (cond (Nat.beq k 233) (yX9_readWord) yL_law) (cond (Nat.beq k 234) (yX9_isBlank) yL_law)) (cond (Nat.blt k 236) (cond (Nat.beq k 235) (yX9_readUpTo) yL_law) (cond (Nat.beq k 236) (yX9_skipLine) yL_law))) (cond (Nat.blt k 239) (cond (Nat.blt k 238) (cond (Nat.beq k 237) (yX9_isRead) yL_law) (cond (Nat.beq k 238) (yX10_init) yL_law)) (cond (Nat.blt k 240) (cond (Nat.beq k 239) (yX10_addLine) yL_law) (cond (Nat.beq k 240) (yX10_become) yL_law))))) (cond (Nat.blt k 249) (cond (Nat.blt k 245) (cond (Nat.blt k 243) (cond (Nat.blt k 242) (cond (Nat.beq k 241) (yX10_isLike) yL_law) (cond (Nat.beq k 242) (yX10_holds) yL_law)) (cond (Nat.blt k 244) (cond (Nat.beq k 243) (yX10_isFull) yL_law) (cond (Nat.beq k 244) (yX10_has) yL_law))) (cond (Nat.blt k 247) (cond (Nat.blt k 246) (cond (Nat.beq k 245) (yX10_isKind) yL_law) (cond (Nat.beq k 246) (yX10_isEnded) yL_law)) (cond (Nat.blt k 248) (cond (Nat.beq k 247) (yX10_set) yL_law) (cond (Nat.beq k 248) (yX10_make) yL_law)))) (cond (Nat.blt k 253) (cond (Nat.blt k 251) (cond (Nat.blt k 250) (cond (Nat.beq k 249) (yX10_end) yL_law) (cond (Nat.beq k 250) (yX10_newest) yL_law)) (cond (Nat.blt k 252) (cond (Nat.beq k 251) (yX10_tell) yL_law) (cond (Nat.beq k 252) (yX10_letter) yL_law))) (cond (Nat.blt k 255) (cond (Nat.blt k 254) (cond (Nat.beq k 253) (yX11_init) yL_law) (cond (Nat.beq k 254) (yX11_type) yL_law)) (cond (Nat.blt k 256) (cond (Nat.beq k 255) (yX11_wipe) yL_law) (cond (Nat.blt k 257) (cond (Nat.beq k 256) (yX11_system) yL_law) (cond (Nat.beq k 257) (yX11_evaluate) yL_law)))))))))) (cond (Nat.blt k 387) (cond (Nat.blt k 322) (cond (Nat.blt k 290) (cond (Nat.blt k 274) (cond (Nat.blt k 266) (cond (Nat.blt k 262) (cond (Nat.blt k 260) (cond (Nat.blt k 259) (cond (Nat.beq k 258) (yX11_go) yL_law) (cond (Nat.beq k 259) (yX11_out) yL_law)) (cond (Nat.blt k 261) (cond (Nat.beq k 260) (yX11_count) yL_law) (cond (Nat.beq k 261) (yX11_thrown) yL_law))) (cond (Nat.blt k 264) (cond (Nat.blt k 263) (cond (Nat.beq k 262) (yX11_depth) yL_law) (cond (Nat.beq k 263) (yX11_cell) yL_law)) (cond (Nat.blt k 265) (cond (Nat.beq k 264) (yX11_task) yL_law) (cond (Nat.beq k 265) (yX11_fetch) yL_law)))) (cond (Nat.blt k 270) (cond (Nat.blt k 268) (cond (Nat.blt k 267) (cond (Nat.beq k 266) (yX11_find) yL_law) (cond (Nat.beq k 267) (yX11_word) yL_law)) (cond (Nat.blt k 269) (cond (Nat.beq k 268) (yX11_name) yL_law) (cond (Nat.beq k 269) (yX11_item) yL_law))) (cond (Nat.blt k 272) (cond (Nat.blt k 271) (cond (Nat.beq k 270) (yX11_effect) yL_law) (cond (Nat.beq k 271) (yX11_effectOf) yL_law)) (cond (Nat.blt k 273) (cond (Nat.beq k 272) (yX11_lean) yL_law) (cond (Nat.beq k 273) (yX11_chip) yL_law))))) (cond (Nat.blt k 282) (cond (Nat.blt k 278) (cond (Nat.blt k 276) (cond (Nat.blt k 275) (cond (Nat.beq k 274) (yX11_chipWord) yL_law) (cond (Nat.beq k 275) (yX11_chipPut) yL_law)) (cond (Nat.blt k 277) (cond (Nat.beq k 276) (yX11_chipGo) yL_law) (cond (Nat.beq k 277) (yX11_chipTold) yL_law))) (cond (Nat.blt k 280) (cond (Nat.blt k 279) (cond (Nat.beq k 278) (yX11_chipCell) yL_law) (cond (Nat.beq k 279) (yX11_chipByte) yL_law)) (cond (Nat.blt k 281) (cond (Nat.beq k 280) (yX11_put) yL_law) (cond (Nat.beq k 281) (yX11_keep) yL_law)))) (cond (Nat.blt k 286) (cond (Nat.blt k 284) (cond (Nat.blt k 283) (cond (Nat.beq k 282) (yX11_again) yL_law) (cond (Nat.beq k 283) (yX11_same) yL_law)) (cond (Nat.blt k 285) (cond (Nat.beq k 284) (yX11_systemOf) yL_law) (cond (Nat.beq k 285) (yX11_taskOf) yL_law))) (cond (Nat.blt k 288) (cond (Nat.blt k 287) (cond (Nat.beq k 286) (yX11_stepsGood) yL_law) (cond (Nat.beq k 287) (yX11_sameCells) yL_law)) (cond (Nat.blt k 289) (cond (Nat.beq k 288) (yX11_sameBytes) yL_law) (cond (Nat.beq k 289) (yX11_copyCells) yL_law)))))) (cond (Nat.blt k 306) (cond (Nat.blt k 298) (cond (Nat.blt k 294) (cond (Nat.blt k 292) (cond (Nat.blt k 291) (cond (Nat.beq k 290) (yX11_copyBytes) yL_law) (cond (Nat.beq k 291) (yX11_spelled) yL_law)) (cond (Nat.blt k 293) (cond (Nat.beq k 292) (yX11_quotient) yL_law) (cond (Nat.beq k 293) (yX12_bits) yL_law))) (cond (Nat.blt k 296) (cond (Nat.blt k 295) (cond (Nat.beq k 294) (yX12_mask) yL_law) (cond (Nat.beq k 295) (yX12_wide) yL_law)) (cond (Nat.blt k 297) (cond (Nat.beq k 296) (yX12_round) yL_law) (cond (Nat.beq k 297) (yX12_lies) yL_law)))) (cond (Nat.blt k 302) (cond (Nat.blt k 300) (cond (Nat.blt k 299) (cond (Nat.beq k 298) (yX12_reach) yL_law) (cond (Nat.beq k 299) (yX12_byteAt) yL_law)) (cond (Nat.blt k 301) (cond (Nat.beq k 300) (yX12_putByte) yL_law) (cond (Nat.beq k 301) (yX12_high) yL_law))) (cond (Nat.blt k 304) (cond (Nat.blt k 303) (cond (Nat.beq k 302) (yX12_cellAt) yL_law) (cond (Nat.beq k 303) (yX12_putCell) yL_law)) (cond (Nat.blt k 305) (cond (Nat.beq k 304) (yX12_depth) yL_law) (cond (Nat.beq k 305) (yX12_may) yL_law))))) (cond (Nat.blt k 314) (cond (Nat.blt k 310) (cond (Nat.blt k 308) (cond (Nat.blt k 307) (cond (Nat.beq k 306) (yX12_pop) yL_law) (cond (Nat.beq k 307) (yX12_push) yL_law)) (cond (Nat.blt k 309) (cond (Nat.beq k 308) (yX12_top) yL_law) (cond (Nat.beq k 309) (yX12_pushDouble) yL_law))) (cond (Nat.blt k 312) (cond (Nat.blt k 311) (cond (Nat.beq k 310) (yX12_popDouble) yL_law) (cond (Nat.beq k 311) (yX12_frames) yL_law)) (cond (Nat.blt k 313) (cond (Nat.beq k 312) (yX12_frameAt) yL_law) (cond (Nat.beq k 313) (yX12_base) yL_law)))) (cond (Nat.blt k 318) (cond (Nat.blt k 316) (cond (Nat.blt k 315) (cond (Nat.beq k 314) (yX12_newFrame) yL_law) (cond (Nat.beq k 315) (yX12_put) yL_law)) (cond (Nat.blt k 317) (cond (Nat.beq k 316) (yX12_textFrame) yL_law) (cond (Nat.beq k 317) (yX12_nested) yL_law))) (cond (Nat.blt k 320) (cond (Nat.blt k 319) (cond (Nat.beq k 318) (yX12_textSize) yL_law) (cond (Nat.beq k 319) (yX12_textByte) yL_law)) (cond (Nat.blt k 321) (cond (Nat.beq k 320) (yX12_in) yL_law) (cond (Nat.beq k 321) (yX12_isBlank) yL_law))))))) (cond (Nat.blt k 354) (cond (Nat.blt k 338) (cond (Nat.blt k 330) (cond (Nat.blt k 326) (cond (Nat.blt k 324) (cond (Nat.blt k 323) (cond (Nat.beq k 322) (yX12_word) yL_law) (cond (Nat.beq k 323) (yX12_upTo) yL_law)) (cond (Nat.blt k 325) (cond (Nat.beq k 324) (yX12_wordAt) yL_law) (cond (Nat.beq k 325) (yX12_itemAt) yL_law))) (cond (Nat.blt k 328) (cond (Nat.blt k 327) (cond (Nat.beq k 326) (yX12_isToken) yL_law) (cond (Nat.beq k 327) (yX12_lower) yL_law)) (cond (Nat.blt k 329) (cond (Nat.beq k 328) (yX12_isName) yL_law) (cond (Nat.beq k 329) (yX12_search) yL_law)))) (cond (Nat.blt k 334) (cond (Nat.blt k 332) (cond (Nat.blt k 331) (cond (Nat.beq k 330) (yX12_newWord) yL_law) (cond (Nat.beq k 331) (yX12_newName) yL_law)) (cond (Nat.blt k 333) (cond (Nat.beq k 332) (yX12_item) yL_law) (cond (Nat.beq k 333) (yX12_items) yL_law))) (cond (Nat.blt k 336) (cond (Nat.blt k 335) (cond (Nat.beq k 334) (yX12_here) yL_law) (cond (Nat.beq k 335) (yX12_lead) yL_law)) (cond (Nat.blt k 337) (cond (Nat.beq k 336) (yX12_def) yL_law) (cond (Nat.beq k 337) (yX12_beginDef) yL_law))))) (cond (Nat.blt k 346) (cond (Nat.blt k 342) (cond (Nat.blt k 340) (cond (Nat.blt k 339) (cond (Nat.beq k 338) (yX12_endDef) yL_law) (cond (Nat.beq k 339) (yX12_pair) yL_law)) (cond (Nat.blt k 341) (cond (Nat.beq k 340) (yX12_topPair) yL_law) (cond (Nat.beq k 341) (yX12_hasPair) yL_law))) (cond (Nat.blt k 344) (cond (Nat.blt k 343) (cond (Nat.beq k 342) (yX12_numberBase) yL_law) (cond (Nat.beq k 343) (yX12_flag) yL_law)) (cond (Nat.blt k 345) (cond (Nat.beq k 344) (yX12_stack) yL_law) (cond (Nat.beq k 345) (yX12_roll) yL_law)))) (cond (Nat.blt k 350) (cond (Nat.blt k 348) (cond (Nat.blt k 347) (cond (Nat.beq k 346) (yX12_pushReturn) yL_law) (cond (Nat.beq k 347) (yX12_popReturn) yL_law)) (cond (Nat.blt k 349) (cond (Nat.beq k 348) (yX12_hasReturn) yL_law) (cond (Nat.beq k 349) (yX12_returns) yL_law))) (cond (Nat.blt k 352) (cond (Nat.blt k 351) (cond (Nat.beq k 350) (yX12_floorOf) yL_law) (cond (Nat.beq k 351) (yX12_quotient) yL_law)) (cond (Nat.blt k 353) (cond (Nat.beq k 352) (yX12_divided) yL_law) (cond (Nat.beq k 353) (yX12_unsignedDivided) yL_law)))))) (cond (Nat.blt k 370) (cond (Nat.blt k 362) (cond (Nat.blt k 358) (cond (Nat.blt k 356) (cond (Nat.blt k 355) (cond (Nat.beq k 354) (yX12_signedDivided) yL_law) (cond (Nat.beq k 355) (yX12_reckon) yL_law)) (cond (Nat.blt k 357) (cond (Nat.beq k 356) (yX12_compare) yL_law) (cond (Nat.beq k 357) (yX12_grow) yL_law))) (cond (Nat.blt k 360) (cond (Nat.blt k 359) (cond (Nat.beq k 358) (yX12_up) yL_law) (cond (Nat.beq k 359) (yX12_storing) yL_law)) (cond (Nat.blt k 361) (cond (Nat.beq k 360) (yX12_rows) yL_law) (cond (Nat.beq k 361) (yX12_hold) yL_law)))) (cond (Nat.blt k 366) (cond (Nat.blt k 364) (cond (Nat.blt k 363) (cond (Nat.beq k 362) (yX12_letter) yL_law) (cond (Nat.beq k 363) (yX12_digits) yL_law)) (cond (Nat.blt k 365) (cond (Nat.beq k 364) (yX12_print) yL_law) (cond (Nat.beq k 365) (yX12_type) yL_law))) (cond (Nat.blt k 368) (cond (Nat.blt k 367) (cond (Nat.beq k 366) (yX12_spaces) yL_law) (cond (Nat.beq k 367) (yX12_printing) yL_law)) (cond (Nat.blt k 369) (cond (Nat.beq k 368) (yX12_plain) yL_law) (cond (Nat.beq k 369) (yX12_layString) yL_law))))) (cond (Nat.blt k 378) (cond (Nat.blt k 374) (cond (Nat.blt k 372) (cond (Nat.blt k 371) (cond (Nat.beq k 370) (yX12_literal) yL_law) (cond (Nat.beq k 371) (yX12_string) yL_law)) (cond (Nat.blt k 373) (cond (Nat.beq k 372) (yX12_comment) yL_law) (cond (Nat.beq k 373) (yX12_named) yL_law))) (cond (Nat.blt k 376) (cond (Nat.blt k 375) (cond (Nat.beq k 374) (yX12_local) yL_law) (cond (Nat.beq k 375) (yX12_is) yL_law)) (cond (Nat.blt k 377) (cond (Nat.beq k 376) (yX12_locals) yL_law) (cond (Nat.beq k 377) (yX12_freeMark) yL_law)))) (cond (Nat.blt k 382) (cond (Nat.blt k 380) (cond (Nat.blt k 379) (cond (Nat.beq k 378) (yX12_marker) yL_law) (cond (Nat.beq k 379) (yX12_mark) yL_law)) (cond (Nat.blt k 381) (cond (Nat.beq k 380) (yX12_makes) yL_law) (cond (Nat.beq k 381) (yX12_assign) yL_law))) (cond (Nat.blt k 384) (cond (Nat.blt k 383) (cond (Nat.beq k 382) (yX12_putValue) yL_law) (cond (Nat.beq k 383) (yX12_postpone) yL_law)) (cond (Nat.blt k 385) (cond (Nat.beq k 384) (yX12_ends) yL_law) (cond (Nat.blt k 386) (cond (Nat.beq k 385) (yX12_compiles) yL_law) (cond (Nat.beq k 386) (yX12_drops) yL_law))))))))) (cond (Nat.blt k 452) (cond (Nat.blt k 419) (cond (Nat.blt k 403) (cond (Nat.blt k 395) (cond (Nat.blt k 391) (cond (Nat.blt k 389) (cond (Nat.blt k 388) (cond (Nat.beq k 387) (yX12_origin) yL_law) (cond (Nat.beq k 388) (yX12_then) yL_law)) (cond (Nat.blt k 390) (cond (Nat.beq k 389) (yX12_swapPairs) yL_law) (cond (Nat.beq k 390) (yX12_back) yL_law))) (cond (Nat.blt k 393) (cond (Nat.blt k 392) (cond (Nat.beq k 391) (yX12_settle) yL_law) (cond (Nat.beq k 392) (yX12_loopEnds) yL_law)) (cond (Nat.blt k 394) (cond (Nat.beq k 393) (yX12_innermost) yL_law) (cond (Nat.beq k 394) (yX12_control) yL_law)))) (cond (Nat.blt k 399) (cond (Nat.blt k 397) (cond (Nat.blt k 396) (cond (Nat.beq k 395) (yX12_endCase) yL_law) (cond (Nat.beq k 396) (yX12_does) yL_law)) (cond (Nat.blt k 398) (cond (Nat.beq k 397) (yX12_enter) yL_law) (cond (Nat.beq k 398) (yX12_isCompiling) yL_law))) (cond (Nat.blt k 401) (cond (Nat.blt k 400) (cond (Nat.beq k 399) (yX12_isOnly) yL_law) (cond (Nat.beq k 400) (yX12_builtIn) yL_law)) (cond (Nat.blt k 402) (cond (Nat.beq k 401) (yX12_asks) yL_law) (cond (Nat.beq k 402) (yX12_nest) yL_law))))) (cond (Nat.blt k 411) (cond (Nat.blt k 407) (cond (Nat.blt k 405) (cond (Nat.blt k 404) (cond (Nat.beq k 403) (yX12_open) yL_law) (cond (Nat.beq k 404) (yX12_loopAt) yL_law)) (cond (Nat.blt k 406) (cond (Nat.beq k 405) (yX12_exit) yL_law) (cond (Nat.beq k 406) (yX12_loops) yL_law))) (cond (Nat.blt k 409) (cond (Nat.blt k 408) (cond (Nat.beq k 407) (yX12_beginLoop) yL_law) (cond (Nat.beq k 408) (yX12_goOn) yL_law)) (cond (Nat.blt k 410) (cond (Nat.beq k 409) (yX12_runItem) yL_law) (cond (Nat.beq k 410) (yX12_doItem) yL_law)))) (cond (Nat.blt k 415) (cond (Nat.blt k 413) (cond (Nat.blt k 412) (cond (Nat.beq k 411) (yX12_isLocal) yL_law) (cond (Nat.beq k 412) (yX12_doLocal) yL_law)) (cond (Nat.blt k 414) (cond (Nat.beq k 413) (yX12_orders) yL_law) (cond (Nat.beq k 414) (yX12_taskAt) yL_law))) (cond (Nat.blt k 417) (cond (Nat.blt k 416) (cond (Nat.beq k 415) (yX12_passes) yL_law) (cond (Nat.beq k 416) (yX12_emptyRows) yL_law)) (cond (Nat.blt k 418) (cond (Nat.beq k 417) (yX12_taskEnds) yL_law) (cond (Nat.beq k 418) (yX12_tasks) yL_law)))))) (cond (Nat.blt k 435) (cond (Nat.blt k 427) (cond (Nat.blt k 423) (cond (Nat.blt k 421) (cond (Nat.blt k 420) (cond (Nat.beq k 419) (yX12_receive) yL_law) (cond (Nat.beq k 420) (yX12_takeBox) yL_law)) (cond (Nat.blt k 422) (cond (Nat.beq k 421) (yX12_tests) yL_law) (cond (Nat.beq k 422) (yX12_thrown) yL_law))) (cond (Nat.blt k 425) (cond (Nat.blt k 424) (cond (Nat.beq k 423) (yX12_restore) yL_law) (cond (Nat.beq k 424) (yX12_outOf) yL_law)) (cond (Nat.blt k 426) (cond (Nat.beq k 425) (yX12_digit) yL_law) (cond (Nat.beq k 426) (yX12_isNumber) yL_law)))) (cond (Nat.blt k 431) (cond (Nat.blt k 429) (cond (Nat.blt k 428) (cond (Nat.beq k 427) (yX12_interpret) yL_law) (cond (Nat.beq k 428) (yX12_textEnds) yL_law)) (cond (Nat.blt k 430) (cond (Nat.beq k 429) (yX12_step) yL_law) (cond (Nat.beq k 430) (yX12_look) yL_law))) (cond (Nat.blt k 433) (cond (Nat.blt k 432) (cond (Nat.beq k 431) (yX12_steps) yL_law) (cond (Nat.beq k 432) (yX12_conflict) yL_law)) (cond (Nat.blt k 434) (cond (Nat.beq k 433) (yX12_come) yL_law) (cond (Nat.beq k 434) (yX12_goThrough) yL_law))))) (cond (Nat.blt k 443) (cond (Nat.blt k 439) (cond (Nat.blt k 437) (cond (Nat.blt k 436) (cond (Nat.beq k 435) (yX12_taking) yL_law) (cond (Nat.beq k 436) (yX12_ending) yL_law)) (cond (Nat.blt k 438) (cond (Nat.beq k 437) (yX12_visit) yL_law) (cond (Nat.beq k 438) (yX12_comeToo) yL_law))) (cond (Nat.blt k 441) (cond (Nat.blt k 440) (cond (Nat.beq k 439) (yX12_visitWord) yL_law) (cond (Nat.beq k 440) (yX12_visitBuiltIn) yL_law)) (cond (Nat.blt k 442) (cond (Nat.beq k 441) (yX12_effectOf) yL_law) (cond (Nat.beq k 442) (yX12_laysLed) yL_law)))) (cond (Nat.blt k 447) (cond (Nat.blt k 445) (cond (Nat.blt k 444) (cond (Nat.beq k 443) (yX12_isLed) yL_law) (cond (Nat.beq k 444) (yX12_fold) yL_law)) (cond (Nat.blt k 446) (cond (Nat.beq k 445) (yX12_isFolding) yL_law) (cond (Nat.beq k 446) (yX12_isTurning) yL_law))) (cond (Nat.blt k 449) (cond (Nat.blt k 448) (cond (Nat.beq k 447) (yX12_drop) yL_law) (cond (Nat.beq k 448) (yX12_leanAt) yL_law)) (cond (Nat.blt k 450) (cond (Nat.beq k 449) (yX12_partOf) yL_law) (cond (Nat.blt k 451) (cond (Nat.beq k 450) (yX12_chipWords) yL_law) (cond (Nat.beq k 451) (yX12_measures) yL_law)))))))) (cond (Nat.blt k 484) (cond (Nat.blt k 468) (cond (Nat.blt k 460) (cond (Nat.blt k 456) (cond (Nat.blt k 454) (cond (Nat.blt k 453) (cond (Nat.beq k 452) (yX12_lays) yL_law) (cond (Nat.beq k 453) (yX12_chipStep) yL_law)) (cond (Nat.blt k 455) (cond (Nat.beq k 454) (yX12_chipExit) yL_law) (cond (Nat.beq k 455) (yX12_init) yL_law))) (cond (Nat.blt k 458) (cond (Nat.blt k 457) (cond (Nat.beq k 456) (yX12_isIn) yL_law) (cond (Nat.beq k 457) (yX12_isSystem) yL_law)) (cond (Nat.blt k 459) (cond (Nat.beq k 458) (yX12_type_) yL_law) (cond (Nat.beq k 459) (yX12_wipe) yL_law)))) (cond (Nat.blt k 464) (cond (Nat.blt k 462) (cond (Nat.blt k 461) (cond (Nat.beq k 460) (yX12_copyTape) yL_law) (cond (Nat.beq k 461) (yX12_systems) yL_law)) (cond (Nat.blt k 463) (cond (Nat.beq k 462) (yX12_system) yL_law) (cond (Nat.beq k 463) (yX12_evaluate) yL_law))) (cond (Nat.blt k 466) (cond (Nat.blt k 465) (cond (Nat.beq k 464) (yX12_go) yL_law) (cond (Nat.beq k 465) (yX12_out) yL_law)) (cond (Nat.blt k 467) (cond (Nat.beq k 466) (yX12_count) yL_law) (cond (Nat.beq k 467) (yX12_thrown_) yL_law))))) (cond (Nat.blt k 476) (cond (Nat.blt k 472) (cond (Nat.blt k 470) (cond (Nat.blt k 469) (cond (Nat.beq k 468) (yX12_depth_) yL_law) (cond (Nat.beq k 469) (yX12_cell) yL_law)) (cond (Nat.blt k 471) (cond (Nat.beq k 470) (yX12_task) yL_law) (cond (Nat.beq k 471) (yX12_fetch) yL_law))) (cond (Nat.blt k 474) (cond (Nat.blt k 473) (cond (Nat.beq k 472) (yX12_find) yL_law) (cond (Nat.beq k 473) (yX12_isOf) yL_law)) (cond (Nat.blt k 475) (cond (Nat.beq k 474) (yX12_word_) yL_law) (cond (Nat.beq k 475) (yX12_name) yL_law)))) (cond (Nat.blt k 480) (cond (Nat.blt k 478) (cond (Nat.blt k 477) (cond (Nat.beq k 476) (yX12_item_) yL_law) (cond (Nat.beq k 477) (yX12_isEnded) yL_law)) (cond (Nat.blt k 479) (cond (Nat.beq k 478) (yX12_effect) yL_law) (cond (Nat.beq k 479) (yX12_effectOf_) yL_law))) (cond (Nat.blt k 482) (cond (Nat.blt k 481) (cond (Nat.beq k 480) (yX12_lean) yL_law) (cond (Nat.beq k 481) (yX12_chip) yL_law)) (cond (Nat.blt k 483) (cond (Nat.beq k 482) (yX12_chipWord) yL_law) (cond (Nat.beq k 483) (yX12_lookChip) yL_law)))))) (cond (Nat.blt k 500) (cond (Nat.blt k 492) (cond (Nat.blt k 488) (cond (Nat.blt k 486) (cond (Nat.blt k 485) (cond (Nat.beq k 484) (yX12_chipPut) yL_law) (cond (Nat.beq k 485) (yX12_chipGo) yL_law)) (cond (Nat.blt k 487) (cond (Nat.beq k 486) (yX12_chipTold) yL_law) (cond (Nat.beq k 487) (yX12_chipCell) yL_law))) (cond (Nat.blt k 490) (cond (Nat.blt k 489) (cond (Nat.beq k 488) (yX12_chipByte) yL_law) (cond (Nat.beq k 489) (yX12_put_) yL_law)) (cond (Nat.blt k 491) (cond (Nat.beq k 490) (yX12_copy) yL_law) (cond (Nat.beq k 491) (yX12_keep) yL_law)))) (cond (Nat.blt k 496) (cond (Nat.blt k 494) (cond (Nat.blt k 493) (cond (Nat.beq k 492) (yX12_again) yL_law) (cond (Nat.beq k 493) (yX12_rowsAlike) yL_law)) (cond (Nat.blt k 495) (cond (Nat.beq k 494) (yX12_same) yL_law) (cond (Nat.beq k 495) (yX12_tasksAlike) yL_law))) (cond (Nat.blt k 498) (cond (Nat.blt k 497) (cond (Nat.beq k 496) (yJ9_floorDiv_f86c9) yL_law) (cond (Nat.beq k 497) (yJ9_abs_067f4) yL_law)) (cond (Nat.blt k 499) (cond (Nat.beq k 498) (yJ9_max_7cf53) yL_law) (cond (Nat.beq k 499) (yJ9_min_7cf53) yL_law))))) (cond (Nat.blt k 508) (cond (Nat.blt k 504) (cond (Nat.blt k 502) (cond (Nat.blt k 501) (cond (Nat.beq k 500) (yJ9_min_f86c9) yL_law) (cond (Nat.beq k 501) (yJ0_length_8abf5) yL_law)) (cond (Nat.blt k 503) (cond (Nat.beq k 502) (yJ0_charAt_5068e) yL_law) (cond (Nat.beq k 503) (yJ0_coder_7d493) yL_law))) (cond (Nat.blt k 506) (cond (Nat.blt k 505) (cond (Nat.beq k 504) (yJ0_isLatin1_aae02) yL_law) (cond (Nat.beq k 505) (yJ0_checkIndex_df160) yL_law)) (cond (Nat.blt k 507) (cond (Nat.beq k 506) (yJ1_charAt_3b067) yL_law) (cond (Nat.beq k 507) (yJ2_getChar_3b067) yL_law)))) (cond (Nat.blt k 512) (cond (Nat.blt k 510) (cond (Nat.blt k 509) (cond (Nat.beq k 508) (yJ2_length_9d52b) yL_law) (cond (Nat.beq k 509) (yJ2_charAt_3b067) yL_law)) (cond (Nat.blt k 511) (cond (Nat.beq k 510) (yJ2_checkIndex_2214a) yL_law) (cond (Nat.beq k 511) (yJ7_rangeCheck_23922) yL_law))) (cond (Nat.blt k 514) (cond (Nat.blt k 513) (cond (Nat.beq k 512) (yJ7_fill_53178) yL_law) (cond (Nat.beq k 513) (yJ7_fill_031fb) yL_law)) (cond (Nat.blt k 515) (cond (Nat.beq k 514) (yJ7_fill_eb02e) yL_law) (cond (Nat.blt k 516) (cond (Nat.beq k 515) (yJ3_checkIndex_8e157) yL_law) (cond (Nat.beq k 516) (yL_law) yL_law))))))))))
def zlkT_0 : Nat → Option (Nat × Nat × Nat × Nat) := fun k => cond (Nat.blt k 109) (cond (Nat.blt k 53) (cond (Nat.blt k 27) (cond (Nat.blt k 17) (cond (Nat.blt k 9) (cond (Nat.beq k 3) (some (9, 0, 0, 297)) none) (cond (Nat.blt k 15) (cond (Nat.beq k 9) (some (0, 0, 0, 414)) none) (cond (Nat.beq k 15) (some (3, 7, 0, 298)) none))) (cond (Nat.blt k 22) (cond (Nat.blt k 18) (cond (Nat.beq k 17) (some (2, 158, 0, 300)) none) (cond (Nat.beq k 18) (some (0, 0, 2, 417)) none)) (cond (Nat.blt k 24) (cond (Nat.beq k 22) (some (3, 8, 0, 333)) none) (cond (Nat.beq k 24) (some (1, 175, 1, 335)) none)))) (cond (Nat.blt k 40) (cond (Nat.blt k 34) (cond (Nat.blt k 31) (cond (Nat.beq k 27) (some (0, 0, 3, 419)) none) (cond (Nat.beq k 31) (some (0, 0, 7, 425)) none)) (cond (Nat.blt k 37) (cond (Nat.beq k 34) (some (0, 0, 8, 426)) none) (cond (Nat.beq k 37) (some (0, 0, 9, 427)) none))) (cond (Nat.blt k 47) (cond (Nat.blt k 44) (cond (Nat.beq k 40) (some (0, 0, 1, 416)) none) (cond (Nat.beq k 44) (some (1, 178, 0, 2021)) none)) (cond (Nat.blt k 50) (cond (Nat.beq k 47) (some (0, 0, 4, 421)) none) (cond (Nat.beq k 50) (some (0, 0, 5, 423)) none))))) (cond (Nat.blt k 76) (cond (Nat.blt k 63) (cond (Nat.blt k 56) (cond (Nat.beq k 53) (some (0, 0, 6, 424)) none) (cond (Nat.blt k 60) (cond (Nat.beq k 56) (some (1, 4, 2, 2022)) none) (cond (Nat.beq k 60) (some (0, 0, 10, 428)) none))) (cond (Nat.blt k 70) (cond (Nat.blt k 67) (cond (Nat.beq k 63) (some (1, 7, 2, 2044)) none) (cond (Nat.beq k 67) (some (0, 1, 0, 899)) none)) (cond (Nat.blt k 73) (cond (Nat.beq k 70) (some (1, 159, 1, 2063)) none) (cond (Nat.beq k 73) (some (0, 8, 13, 365)) none)))) (cond (Nat.blt k 95) (cond (Nat.blt k 86) (cond (Nat.blt k 82) (cond (Nat.beq k 76) (some (1, 512, 2, 2026)) none) (cond (Nat.beq k 82) (some (1, 3, 1, 2029)) none)) (cond (Nat.blt k 89) (cond (Nat.beq k 86) (some (0, 1, 1, 902)) none) (cond (Nat.beq k 89) (some (1, 246, 1, 2033)) none))) (cond (Nat.blt k 102) (cond (Nat.blt k 99) (cond (Nat.beq k 95) (some (1, 244, 2, 2034)) none) (cond (Nat.beq k 99) (some (0, 10, 3, 536)) none)) (cond (Nat.blt k 105) (cond (Nat.beq k 102) (some (0, 10, 4, 540)) none) (cond (Nat.beq k 105) (some (0, 1, 2, 905)) none)))))) (cond (Nat.blt k 149) (cond (Nat.blt k 129) (cond (Nat.blt k 121) (cond (Nat.blt k 114) (cond (Nat.beq k 109) (some (1, 82, 1, 2035)) none) (cond (Nat.blt k 117) (cond (Nat.beq k 114) (some (1, 5, 2, 2036)) none) (cond (Nat.beq k 117) (some (0, 2, 0, 598)) none))) (cond (Nat.blt k 125) (cond (Nat.blt k 124) (cond (Nat.beq k 121) (some (0, 2, 1, 603)) none) (cond (Nat.beq k 124) (some (1, 242, 1, 2040)) none)) (cond (Nat.blt k 126) (cond (Nat.beq k 125) (some (0, 10, 0, 529)) none) (cond (Nat.beq k 126) (some (1, 6, 1, 2041)) none)))) (cond (Nat.blt k 141) (cond (Nat.blt k 135) (cond (Nat.blt k 132) (cond (Nat.beq k 129) (some (0, 10, 5, 542)) none) (cond (Nat.beq k 132) (some (1, 9, 1, 2048)) none)) (cond (Nat.blt k 138) (cond (Nat.beq k 135) (some (1, 8, 2, 2057)) none) (cond (Nat.beq k 138) (some (1, 86, 1, 2062)) none))) (cond (Nat.blt k 145) (cond (Nat.blt k 142) (cond (Nat.beq k 141) (some (5, 16777216, 0, 2052)) none) (cond (Nat.beq k 142) (some (1, 10, 1, 2053)) none)) (cond (Nat.blt k 146) (cond (Nat.beq k 145) (some (5, 285212672, 0, 2061)) none) (cond (Nat.beq k 146) (some (0, 8, 7, 351)) none))))) (cond (Nat.blt k 174) (cond (Nat.blt k 162) (cond (Nat.blt k 157) (cond (Nat.blt k 153) (cond (Nat.beq k 149) (some (1, 185, 1, 2088)) none) (cond (Nat.beq k 153) (some (1, 13, 1, 2097)) none)) (cond (Nat.blt k 158) (cond (Nat.beq k 157) (some (1, 1, 1, 2101)) none) (cond (Nat.beq k 158) (some (1, 219, 2, 2102)) none))) (cond (Nat.blt k 168) (cond (Nat.blt k 165) (cond (Nat.beq k 162) (some (1, 194, 1, 2103)) none) (cond (Nat.beq k 165) (some (8, 13, 0, 2104)) none)) (cond (Nat.blt k 171) (cond (Nat.beq k 168) (some (8, 14, 0, 2105)) none) (cond (Nat.beq k 171) (some (1, 181, 2, 2106)) none)))) (cond (Nat.blt k 187) (cond (Nat.blt k 180) (cond (Nat.blt k 177) (cond (Nat.beq k 174) (some (1, 199, 1, 2107)) none) (cond (Nat.beq k 177) (some (0, 8, 11, 360)) none)) (cond (Nat.blt k 184) (cond (Nat.beq k 180) (some (1, 196, 0, 2108)) none) (cond (Nat.beq k 184) (some (1, 14, 0, 2109)) none))) (cond (Nat.blt k 193) (cond (Nat.blt k 190) (cond (Nat.beq k 187) (some (0, 8, 8, 354)) none) (cond (Nat.beq k 190) (some (0, 8, 9, 356)) none)) (cond (Nat.blt k 196) (cond (Nat.beq k 193) (some (0, 8, 10, 358)) none) (cond (Nat.beq k 196) (some (1, 179, 1, 2121)) none))))))
def zlk_0 : Nat → Option (Nat × Nat × Nat × Nat) := fun k => cond (Nat.blt k 1060) (zlkT_0 k) none
def zlkT_1 : Nat → Option (Nat × Nat × Nat × Nat) := fun k => cond (Nat.blt k 351) (cond (Nat.blt k 167) (cond (Nat.blt k 83) (cond (Nat.blt k 43) (cond (Nat.blt k 25) (cond (Nat.blt k 12) (cond (Nat.blt k 9) (cond (Nat.beq k 3) (some (9, 0, 0, 456)) none) (cond (Nat.blt k 11) (cond (Nat.beq k 9) (some (3, 7, 0, 457)) none) (cond (Nat.beq k 11) (some (2, 158, 0, 458)) none))) (cond (Nat.blt k 20) (cond (Nat.blt k 18) (cond (Nat.beq k 12) (some (0, 1, 0, 898)) none) (cond (Nat.beq k 18) (some (3, 10, 0, 459)) none)) (cond (Nat.blt k 21) (cond (Nat.beq k 20) (some (1, 238, 0, 461)) none) (cond (Nat.beq k 21) (some (0, 1, 1, 901)) none)))) (cond (Nat.blt k 32) (cond (Nat.blt k 27) (cond (Nat.beq k 25) (some (3, 2, 0, 591)) none) (cond (Nat.blt k 28) (cond (Nat.beq k 27) (some (2, 79, 0, 593)) none) (cond (Nat.beq k 28) (some (0, 1, 2, 904)) none))) (cond (Nat.blt k 37) (cond (Nat.blt k 34) (cond (Nat.beq k 32) (some (3, 9, 0, 619)) none) (cond (Nat.beq k 34) (some (1, 225, 1, 621)) none)) (cond (Nat.blt k 41) (cond (Nat.beq k 37) (some (0, 1, 3, 907)) none) (cond (Nat.beq k 41) (some (3, 5, 0, 681)) none))))) (cond (Nat.blt k 60) (cond (Nat.blt k 52) (cond (Nat.blt k 46) (cond (Nat.beq k 43) (some (1, 120, 1, 683)) none) (cond (Nat.blt k 50) (cond (Nat.beq k 46) (some (0, 1, 4, 909)) none) (cond (Nat.beq k 50) (some (3, 4, 0, 740)) none))) (cond (Nat.blt k 57) (cond (Nat.blt k 53) (cond (Nat.beq k 52) (some (1, 111, 0, 742)) none) (cond (Nat.beq k 53) (some (0, 1, 5, 910)) none)) (cond (Nat.blt k 59) (cond (Nat.beq k 57) (some (3, 6, 0, 791)) none) (cond (Nat.beq k 59) (some (2, 147, 0, 793)) none)))) (cond (Nat.blt k 69) (cond (Nat.blt k 64) (cond (Nat.beq k 60) (some (0, 1, 6, 911)) none) (cond (Nat.blt k 66) (cond (Nat.beq k 64) (some (3, 3, 0, 826)) none) (cond (Nat.beq k 66) (some (1, 89, 3, 828)) none))) (cond (Nat.blt k 75) (cond (Nat.blt k 73) (cond (Nat.beq k 69) (some (0, 1, 7, 913)) none) (cond (Nat.beq k 73) (some (3, 8, 0, 895)) none)) (cond (Nat.blt k 79) (cond (Nat.beq k 75) (some (0, 1, 8, 915)) none) (cond (Nat.beq k 79) (some (0, 1, 14, 925)) none)))))) (cond (Nat.blt k 123) (cond (Nat.blt k 103) (cond (Nat.blt k 90) (cond (Nat.blt k 86) (cond (Nat.beq k 83) (some (0, 1, 16, 927)) none) (cond (Nat.blt k 87) (cond (Nat.beq k 86) (some (1, 175, 1, 897)) none) (cond (Nat.beq k 87) (some (0, 8, 14, 367)) none))) (cond (Nat.blt k 96) (cond (Nat.blt k 93) (cond (Nat.beq k 90) (some (0, 7, 1, 308)) none) (cond (Nat.beq k 93) (some (0, 7, 2, 312)) none)) (cond (Nat.blt k 100) (cond (Nat.beq k 96) (some (1, 169, 2, 1004)) none) (cond (Nat.beq k 100) (some (1, 159, 1, 2142)) none)))) (cond (Nat.blt k 111) (cond (Nat.blt k 106) (cond (Nat.beq k 103) (some (1, 240, 1, 2143)) none) (cond (Nat.blt k 108) (cond (Nat.beq k 106) (some (1, 80, 1, 2151)) none) (cond (Nat.beq k 108) (some (1, 226, 1, 2157)) none))) (cond (Nat.blt k 117) (cond (Nat.blt k 114) (cond (Nat.beq k 111) (some (1, 121, 1, 2163)) none) (cond (Nat.beq k 114) (some (1, 112, 1, 2169)) none)) (cond (Nat.blt k 120) (cond (Nat.beq k 117) (some (1, 148, 1, 2174)) none) (cond (Nat.beq k 120) (some (1, 176, 1, 2180)) none))))) (cond (Nat.blt k 145) (cond (Nat.blt k 132) (cond (Nat.blt k 126) (cond (Nat.beq k 123) (some (0, 1, 9, 917)) none) (cond (Nat.blt k 129) (cond (Nat.beq k 126) (some (0, 1, 10, 918)) none) (cond (Nat.beq k 129) (some (0, 1, 11, 919)) none))) (cond (Nat.blt k 138) (cond (Nat.blt k 135) (cond (Nat.beq k 132) (some (0, 1, 12, 921)) none) (cond (Nat.beq k 135) (some (0, 1, 13, 923)) none)) (cond (Nat.blt k 142) (cond (Nat.beq k 138) (some (1, 177, 1, 2197)) none) (cond (Nat.beq k 142) (some (1, 160, 1, 2204)) none)))) (cond (Nat.blt k 157) (cond (Nat.blt k 151) (cond (Nat.blt k 148) (cond (Nat.beq k 145) (some (1, 241, 1, 2211)) none) (cond (Nat.beq k 148) (some (1, 81, 1, 2217)) none)) (cond (Nat.blt k 154) (cond (Nat.beq k 151) (some (1, 227, 1, 2223)) none) (cond (Nat.beq k 154) (some (1, 122, 1, 2228)) none))) (cond (Nat.blt k 163) (cond (Nat.blt k 160) (cond (Nat.beq k 157) (some (1, 113, 1, 2232)) none) (cond (Nat.beq k 160) (some (0, 7, 3, 315)) none)) (cond (Nat.blt k 166) (cond (Nat.beq k 163) (some (0, 10, 12, 559)) none) (cond (Nat.beq k 166) (some (0, 2, 2, 610)) none))))))) (cond (Nat.blt k 259) (cond (Nat.blt k 209) (cond (Nat.blt k 185) (cond (Nat.blt k 173) (cond (Nat.blt k 168) (cond (Nat.beq k 167) (some (0, 6, 1, 799)) none) (cond (Nat.blt k 172) (cond (Nat.beq k 168) (some (0, 5, 1, 689)) none) (cond (Nat.beq k 172) (some (0, 4, 2, 751)) none))) (cond (Nat.blt k 179) (cond (Nat.blt k 176) (cond (Nat.beq k 173) (some (0, 4, 1, 749)) none) (cond (Nat.beq k 176) (some (0, 4, 3, 753)) none)) (cond (Nat.blt k 182) (cond (Nat.beq k 179) (some (0, 6, 6, 806)) none) (cond (Nat.beq k 182) (some (0, 6, 7, 808)) none)))) (cond (Nat.blt k 194) (cond (Nat.blt k 188) (cond (Nat.beq k 185) (some (0, 9, 11, 646)) none) (cond (Nat.blt k 191) (cond (Nat.beq k 188) (some (0, 10, 13, 561)) none) (cond (Nat.beq k 191) (some (0, 5, 12, 706)) none))) (cond (Nat.blt k 201) (cond (Nat.blt k 197) (cond (Nat.beq k 194) (some (0, 9, 10, 643)) none) (cond (Nat.beq k 197) (some (0, 4, 0, 747)) none)) (cond (Nat.blt k 205) (cond (Nat.beq k 201) (some (1, 162, 0, 1226)) none) (cond (Nat.beq k 205) (some (1, 250, 4, 1245)) none))))) (cond (Nat.blt k 233) (cond (Nat.blt k 218) (cond (Nat.blt k 212) (cond (Nat.beq k 209) (some (0, 5, 4, 695)) none) (cond (Nat.blt k 215) (cond (Nat.beq k 212) (some (1, 22, 0, 1313)) none) (cond (Nat.beq k 215) (some (0, 1, 17, 928)) none))) (cond (Nat.blt k 225) (cond (Nat.blt k 222) (cond (Nat.beq k 218) (some (1, 27, 0, 1036)) none) (cond (Nat.beq k 222) (some (1, 46, 0, 1289)) none)) (cond (Nat.blt k 229) (cond (Nat.beq k 225) (some (1, 90, 1, 1785)) none) (cond (Nat.beq k 229) (some (1, 42, 1, 1845)) none)))) (cond (Nat.blt k 247) (cond (Nat.blt k 240) (cond (Nat.blt k 237) (cond (Nat.beq k 233) (some (1, 25, 0, 1040)) none) (cond (Nat.beq k 237) (some (0, 8, 16, 374)) none)) (cond (Nat.blt k 244) (cond (Nat.beq k 240) (some (1, 29, 1, 1044)) none) (cond (Nat.beq k 244) (some (0, 8, 17, 376)) none))) (cond (Nat.blt k 253) (cond (Nat.blt k 250) (cond (Nat.beq k 247) (some (1, 30, 1, 1056)) none) (cond (Nat.beq k 250) (some (1, 192, 0, 1072)) none)) (cond (Nat.blt k 256) (cond (Nat.beq k 253) (some (1, 33, 1, 1080)) none) (cond (Nat.beq k 256) (some (1, 32, 1, 1190)) none)))))) (cond (Nat.blt k 302) (cond (Nat.blt k 282) (cond (Nat.blt k 268) (cond (Nat.blt k 262) (cond (Nat.beq k 259) (some (1, 24, 0, 1195)) none) (cond (Nat.blt k 265) (cond (Nat.beq k 262) (some (1, 37, 0, 1199)) none) (cond (Nat.beq k 265) (some (1, 44, 1, 1277)) none))) (cond (Nat.blt k 275) (cond (Nat.blt k 271) (cond (Nat.beq k 268) (some (0, 1, 15, 926)) none) (cond (Nat.beq k 271) (some (1, 242, 1, 1048)) none)) (cond (Nat.blt k 279) (cond (Nat.beq k 275) (some (1, 28, 2, 1052)) none) (cond (Nat.beq k 279) (some (1, 31, 1, 1060)) none)))) (cond (Nat.blt k 292) (cond (Nat.blt k 286) (cond (Nat.beq k 282) (some (1, 181, 2, 1064)) none) (cond (Nat.blt k 289) (cond (Nat.beq k 286) (some (0, 8, 6, 348)) none) (cond (Nat.beq k 289) (some (1, 182, 1, 1068)) none))) (cond (Nat.blt k 298) (cond (Nat.blt k 295) (cond (Nat.beq k 292) (some (0, 8, 12, 363)) none) (cond (Nat.beq k 295) (some (1, 195, 0, 1194)) none)) (cond (Nat.blt k 301) (cond (Nat.beq k 298) (some (0, 8, 13, 366)) none) (cond (Nat.beq k 301) (some (1, 82, 1, 1084)) none))))) (cond (Nat.blt k 325) (cond (Nat.blt k 313) (cond (Nat.blt k 305) (cond (Nat.beq k 302) (some (0, 2, 1, 606)) none) (cond (Nat.blt k 309) (cond (Nat.beq k 305) (some (0, 2, 0, 601)) none) (cond (Nat.beq k 309) (some (1, 34, 2, 1088)) none))) (cond (Nat.blt k 319) (cond (Nat.blt k 316) (cond (Nat.beq k 313) (some (1, 66, 1, 1106)) none) (cond (Nat.beq k 316) (some (1, 84, 2, 1114)) none)) (cond (Nat.blt k 322) (cond (Nat.beq k 319) (some (1, 35, 1, 1118)) none) (cond (Nat.beq k 322) (some (1, 219, 2, 1151)) none)))) (cond (Nat.blt k 337) (cond (Nat.blt k 331) (cond (Nat.blt k 329) (cond (Nat.beq k 325) (some (1, 245, 2, 1092)) none) (cond (Nat.beq k 329) (some (0, 10, 5, 543)) none)) (cond (Nat.blt k 334) (cond (Nat.beq k 331) (some (1, 196, 0, 1097)) none) (cond (Nat.beq k 334) (some (1, 183, 0, 1110)) none))) (cond (Nat.blt k 345) (cond (Nat.blt k 341) (cond (Nat.beq k 337) (some (1, 165, 1, 1122)) none) (cond (Nat.beq k 341) (some (1, 36, 2, 1126)) none)) (cond (Nat.blt k 348) (cond (Nat.beq k 345) (some (1, 166, 2, 1130)) none) (cond (Nat.beq k 348) (some (0, 7, 0, 306)) none)))))))) (cond (Nat.blt k 527) (cond (Nat.blt k 441) (cond (Nat.blt k 398) (cond (Nat.blt k 376) (cond (Nat.blt k 362) (cond (Nat.blt k 355) (cond (Nat.beq k 351) (some (1, 153, 3, 1135)) none) (cond (Nat.blt k 359) (cond (Nat.beq k 355) (some (1, 233, 1, 1203)) none) (cond (Nat.beq k 359) (some (1, 38, 0, 1218)) none))) (cond (Nat.blt k 368) (cond (Nat.blt k 365) (cond (Nat.beq k 362) (some (0, 9, 7, 638)) none) (cond (Nat.beq k 365) (some (0, 9, 8, 640)) none)) (cond (Nat.blt k 372) (cond (Nat.beq k 368) (some (1, 130, 3, 1230)) none) (cond (Nat.beq k 372) (some (1, 21, 2, 1241)) none)))) (cond (Nat.blt k 385) (cond (Nat.blt k 379) (cond (Nat.beq k 376) (some (1, 39, 0, 1250)) none) (cond (Nat.blt k 382) (cond (Nat.beq k 379) (some (1, 244, 2, 1272)) none) (cond (Nat.beq k 382) (some (8, 15, 0, 1276)) none))) (cond (Nat.blt k 391) (cond (Nat.blt k 388) (cond (Nat.beq k 385) (some (0, 9, 6, 636)) none) (cond (Nat.beq k 388) (some (1, 231, 2, 1222)) none)) (cond (Nat.blt k 395) (cond (Nat.beq k 391) (some (1, 41, 2, 1254)) none) (cond (Nat.beq k 395) (some (1, 173, 0, 1264)) none))))) (cond (Nat.blt k 418) (cond (Nat.blt k 408) (cond (Nat.blt k 401) (cond (Nat.beq k 398) (some (1, 40, 1, 1269)) none) (cond (Nat.blt k 405) (cond (Nat.beq k 401) (some (1, 164, 1, 1258)) none) (cond (Nat.beq k 405) (some (1, 163, 0, 1259)) none))) (cond (Nat.blt k 414) (cond (Nat.blt k 411) (cond (Nat.beq k 408) (some (1, 83, 1, 1260)) none) (cond (Nat.beq k 411) (some (1, 197, 0, 1849)) none)) (cond (Nat.blt k 417) (cond (Nat.beq k 414) (some (0, 8, 5, 346)) none) (cond (Nat.beq k 417) (some (1, 198, 2, 1853)) none)))) (cond (Nat.blt k 427) (cond (Nat.blt k 421) (cond (Nat.beq k 418) (some (1, 43, 1, 1857)) none) (cond (Nat.blt k 424) (cond (Nat.beq k 421) (some (1, 168, 1, 1743)) none) (cond (Nat.beq k 424) (some (1, 178, 0, 1281)) none))) (cond (Nat.blt k 433) (cond (Nat.blt k 430) (cond (Nat.beq k 427) (some (0, 5, 5, 697)) none) (cond (Nat.beq k 430) (some (0, 10, 3, 537)) none)) (cond (Nat.blt k 438) (cond (Nat.beq k 433) (some (1, 499, 2, 1861)) none) (cond (Nat.beq k 438) (some (0, 5, 3, 693)) none)))))) (cond (Nat.blt k 481) (cond (Nat.blt k 460) (cond (Nat.blt k 450) (cond (Nat.blt k 444) (cond (Nat.beq k 441) (some (1, 124, 0, 1862)) none) (cond (Nat.blt k 447) (cond (Nat.beq k 444) (some (0, 8, 15, 372)) none) (cond (Nat.beq k 447) (some (1, 45, 0, 1285)) none))) (cond (Nat.blt k 454) (cond (Nat.blt k 451) (cond (Nat.beq k 450) (some (0, 10, 0, 531)) none) (cond (Nat.beq k 451) (some (1, 194, 1, 1293)) none)) (cond (Nat.blt k 457) (cond (Nat.beq k 454) (some (1, 48, 2, 1301)) none) (cond (Nat.beq k 457) (some (1, 49, 2, 1309)) none)))) (cond (Nat.blt k 469) (cond (Nat.blt k 463) (cond (Nat.beq k 460) (some (1, 47, 2, 1305)) none) (cond (Nat.blt k 466) (cond (Nat.beq k 463) (some (8, 13, 0, 1322)) none) (cond (Nat.beq k 466) (some (8, 14, 0, 1324)) none))) (cond (Nat.blt k 475) (cond (Nat.blt k 472) (cond (Nat.beq k 469) (some (1, 199, 1, 1326)) none) (cond (Nat.beq k 472) (some (1, 50, 2, 1476)) none)) (cond (Nat.blt k 478) (cond (Nat.beq k 475) (some (1, 53, 2, 1515)) none) (cond (Nat.beq k 478) (some (1, 136, 1, 1672)) none))))) (cond (Nat.blt k 501) (cond (Nat.blt k 490) (cond (Nat.blt k 484) (cond (Nat.beq k 481) (some (1, 73, 2, 1735)) none) (cond (Nat.blt k 487) (cond (Nat.beq k 484) (some (0, 8, 11, 361)) none) (cond (Nat.beq k 487) (some (0, 4, 4, 755)) none))) (cond (Nat.blt k 496) (cond (Nat.blt k 493) (cond (Nat.beq k 490) (some (0, 4, 8, 762)) none) (cond (Nat.beq k 493) (some (0, 4, 5, 757)) none)) (cond (Nat.blt k 499) (cond (Nat.beq k 496) (some (0, 4, 7, 760)) none) (cond (Nat.beq k 499) (some (1, 119, 1, 1317)) none)))) (cond (Nat.blt k 514) (cond (Nat.blt k 508) (cond (Nat.blt k 505) (cond (Nat.beq k 501) (some (1, 51, 2, 1480)) none) (cond (Nat.beq k 505) (some (1, 151, 1, 1496)) none)) (cond (Nat.blt k 511) (cond (Nat.beq k 508) (some (1, 152, 1, 1497)) none) (cond (Nat.beq k 511) (some (0, 7, 4, 318)) none))) (cond (Nat.blt k 521) (cond (Nat.blt k 517) (cond (Nat.beq k 514) (some (1, 52, 2, 1502)) none) (cond (Nat.beq k 517) (some (1, 188, 0, 1514)) none)) (cond (Nat.blt k 524) (cond (Nat.beq k 521) (some (1, 174, 1, 1509)) none) (cond (Nat.beq k 524) (some (1, 154, 2, 1484)) none))))))) (cond (Nat.blt k 618) (cond (Nat.blt k 571) (cond (Nat.blt k 550) (cond (Nat.blt k 538) (cond (Nat.blt k 530) (cond (Nat.beq k 527) (some (1, 189, 0, 1506)) none) (cond (Nat.blt k 534) (cond (Nat.beq k 530) (some (2, 292, 2, 1507)) none) (cond (Nat.beq k 534) (some (1, 155, 1, 1508)) none))) (cond (Nat.blt k 544) (cond (Nat.blt k 541) (cond (Nat.beq k 538) (some (1, 187, 1, 1513)) none) (cond (Nat.beq k 541) (some (1, 54, 1, 1519)) none)) (cond (Nat.blt k 547) (cond (Nat.beq k 544) (some (1, 55, 1, 1523)) none) (cond (Nat.beq k 547) (some (1, 56, 1, 1540)) none)))) (cond (Nat.blt k 559) (cond (Nat.blt k 553) (cond (Nat.beq k 550) (some (1, 61, 2, 1564)) none) (cond (Nat.blt k 556) (cond (Nat.beq k 553) (some (1, 62, 1, 1568)) none) (cond (Nat.beq k 556) (some (1, 63, 0, 1577)) none))) (cond (Nat.blt k 565) (cond (Nat.blt k 562) (cond (Nat.beq k 559) (some (1, 64, 2, 1585)) none) (cond (Nat.beq k 562) (some (0, 8, 7, 352)) none)) (cond (Nat.blt k 568) (cond (Nat.beq k 565) (some (1, 125, 0, 1556)) none) (cond (Nat.beq k 568) (some (1, 65, 1, 1589)) none))))) (cond (Nat.blt k 593) (cond (Nat.blt k 580) (cond (Nat.blt k 574) (cond (Nat.beq k 571) (some (1, 60, 0, 1593)) none) (cond (Nat.blt k 577) (cond (Nat.beq k 574) (some (1, 67, 2, 1601)) none) (cond (Nat.beq k 577) (some (1, 235, 2, 1605)) none))) (cond (Nat.blt k 587) (cond (Nat.blt k 584) (cond (Nat.beq k 580) (some (1, 236, 1, 1610)) none) (cond (Nat.beq k 584) (some (1, 68, 0, 1619)) none)) (cond (Nat.blt k 590) (cond (Nat.beq k 587) (some (1, 58, 0, 1642)) none) (cond (Nat.beq k 590) (some (1, 59, 0, 1646)) none)))) (cond (Nat.blt k 605) (cond (Nat.blt k 599) (cond (Nat.blt k 596) (cond (Nat.beq k 593) (some (1, 71, 1, 1655)) none) (cond (Nat.beq k 596) (some (1, 70, 2, 1668)) none)) (cond (Nat.blt k 602) (cond (Nat.beq k 599) (some (1, 243, 0, 1527)) none) (cond (Nat.beq k 602) (some (0, 5, 2, 691)) none))) (cond (Nat.blt k 612) (cond (Nat.blt k 609) (cond (Nat.beq k 605) (some (1, 248, 5, 1531)) none) (cond (Nat.beq k 609) (some (1, 123, 2, 1536)) none)) (cond (Nat.blt k 615) (cond (Nat.beq k 612) (some (1, 127, 0, 1544)) none) (cond (Nat.beq k 615) (some (1, 57, 0, 1552)) none)))))) (cond (Nat.blt k 663) (cond (Nat.blt k 637) (cond (Nat.blt k 627) (cond (Nat.blt k 621) (cond (Nat.beq k 618) (some (1, 249, 2, 1560)) none) (cond (Nat.blt k 624) (cond (Nat.beq k 621) (some (1, 247, 2, 1581)) none) (cond (Nat.beq k 624) (some (0, 5, 7, 700)) none))) (cond (Nat.blt k 633) (cond (Nat.blt k 630) (cond (Nat.beq k 627) (some (1, 85, 1, 1650)) none) (cond (Nat.beq k 630) (some (1, 129, 1, 1597)) none)) (cond (Nat.blt k 634) (cond (Nat.beq k 633) (some (1, 170, 1, 1572)) none) (cond (Nat.beq k 634) (some (1, 118, 3, 1573)) none)))) (cond (Nat.blt k 649) (cond (Nat.blt k 643) (cond (Nat.beq k 637) (some (10, 0, 0, 1609)) none) (cond (Nat.blt k 646) (cond (Nat.beq k 643) (some (1, 128, 1, 1623)) none) (cond (Nat.beq k 646) (some (1, 237, 2, 1624)) none))) (cond (Nat.blt k 656) (cond (Nat.blt k 652) (cond (Nat.beq k 649) (some (1, 69, 2, 1628)) none) (cond (Nat.beq k 652) (some (1, 131, 3, 1637)) none)) (cond (Nat.blt k 659) (cond (Nat.beq k 656) (some (1, 132, 1, 1632)) none) (cond (Nat.beq k 659) (some (1, 72, 4, 1659)) none))))) (cond (Nat.blt k 683) (cond (Nat.blt k 671) (cond (Nat.blt k 665) (cond (Nat.beq k 663) (some (1, 193, 1, 1663)) none) (cond (Nat.blt k 668) (cond (Nat.beq k 665) (some (1, 230, 3, 1664)) none) (cond (Nat.beq k 668) (some (1, 74, 1, 1739)) none))) (cond (Nat.blt k 677) (cond (Nat.blt k 674) (cond (Nat.beq k 671) (some (1, 115, 1, 1744)) none) (cond (Nat.beq k 674) (some (1, 116, 0, 1748)) none)) (cond (Nat.blt k 680) (cond (Nat.beq k 677) (some (1, 117, 0, 1752)) none) (cond (Nat.beq k 680) (some (1, 114, 0, 1756)) none)))) (cond (Nat.blt k 695) (cond (Nat.blt k 689) (cond (Nat.blt k 686) (cond (Nat.beq k 683) (some (1, 75, 1, 1760)) none) (cond (Nat.beq k 686) (some (1, 76, 1, 1764)) none)) (cond (Nat.blt k 692) (cond (Nat.beq k 689) (some (1, 77, 1, 1769)) none) (cond (Nat.beq k 692) (some (1, 78, 1, 1773)) none))) (cond (Nat.blt k 701) (cond (Nat.blt k 698) (cond (Nat.beq k 695) (some (0, 6, 3, 802)) none) (cond (Nat.beq k 698) (some (1, 156, 1, 1777)) none)) (cond (Nat.blt k 704) (cond (Nat.beq k 701) (some (1, 157, 1, 1781)) none) (cond (Nat.beq k 704) (some (1, 186, 1, 1768)) none))))))))
def zlk_1 : Nat → Option (Nat × Nat × Nat × Nat) := fun k => cond (Nat.blt k 1060) (zlkT_1 k) none
def zlkT_2 : Nat → Option (Nat × Nat × Nat × Nat) := fun k => cond (Nat.blt k 23) (cond (Nat.blt k 15) (cond (Nat.blt k 9) (cond (Nat.beq k 3) (some (9, 0, 0, 596)) none) (cond (Nat.beq k 9) (some (0, 2, 0, 597)) none)) (cond (Nat.blt k 19) (cond (Nat.beq k 15) (some (0, 2, 1, 602)) none) (cond (Nat.beq k 19) (some (2, 290, 2, 2155)) none))) (cond (Nat.blt k 31) (cond (Nat.blt k 27) (cond (Nat.beq k 23) (some (2, 289, 2, 2156)) none) (cond (Nat.beq k 27) (some (0, 2, 2, 608)) none)) (cond (Nat.blt k 35) (cond (Nat.beq k 31) (some (2, 288, 3, 2221)) none) (cond (Nat.blt k 39) (cond (Nat.beq k 35) (some (2, 287, 4, 2222)) none) (cond (Nat.beq k 39) (some (1, 82, 1, 1654)) none))))
def zlk_2 : Nat → Option (Nat × Nat × Nat × Nat) := fun k => cond (Nat.blt k 1060) (zlkT_2 k) none
def zlkT_3 : Nat → Option (Nat × Nat × Nat × Nat) := fun k => cond (Nat.blt k 122) (cond (Nat.blt k 66) (cond (Nat.blt k 35) (cond (Nat.blt k 21) (cond (Nat.blt k 15) (cond (Nat.blt k 9) (cond (Nat.beq k 3) (some (9, 0, 0, 831)) none) (cond (Nat.beq k 9) (some (0, 3, 3, 837)) none)) (cond (Nat.blt k 18) (cond (Nat.beq k 15) (some (0, 3, 4, 838)) none) (cond (Nat.beq k 18) (some (0, 3, 5, 839)) none))) (cond (Nat.blt k 29) (cond (Nat.blt k 25) (cond (Nat.beq k 21) (some (0, 3, 6, 840)) none) (cond (Nat.beq k 25) (some (0, 3, 0, 834)) none)) (cond (Nat.blt k 33) (cond (Nat.beq k 29) (some (0, 3, 1, 835)) none) (cond (Nat.beq k 33) (some (3, 8, 0, 832)) none)))) (cond (Nat.blt k 52) (cond (Nat.blt k 42) (cond (Nat.blt k 38) (cond (Nat.beq k 35) (some (1, 175, 1, 833)) none) (cond (Nat.beq k 38) (some (0, 3, 2, 836)) none)) (cond (Nat.blt k 48) (cond (Nat.beq k 42) (some (1, 246, 1, 1789)) none) (cond (Nat.beq k 48) (some (0, 3, 7, 841)) none))) (cond (Nat.blt k 58) (cond (Nat.blt k 55) (cond (Nat.beq k 52) (some (0, 10, 3, 535)) none) (cond (Nat.beq k 55) (some (0, 3, 8, 842)) none)) (cond (Nat.blt k 61) (cond (Nat.beq k 58) (some (0, 10, 4, 539)) none) (cond (Nat.beq k 61) (some (0, 2, 2, 609)) none))))) (cond (Nat.blt k 94) (cond (Nat.blt k 82) (cond (Nat.blt k 75) (cond (Nat.blt k 72) (cond (Nat.beq k 66) (some (1, 499, 2, 1795)) none) (cond (Nat.beq k 72) (some (0, 3, 9, 843)) none)) (cond (Nat.blt k 79) (cond (Nat.beq k 75) (some (0, 3, 16, 850)) none) (cond (Nat.beq k 79) (some (0, 3, 17, 851)) none))) (cond (Nat.blt k 88) (cond (Nat.blt k 85) (cond (Nat.beq k 82) (some (1, 91, 0, 1796)) none) (cond (Nat.beq k 85) (some (0, 3, 11, 845)) none)) (cond (Nat.blt k 91) (cond (Nat.beq k 88) (some (0, 3, 13, 847)) none) (cond (Nat.beq k 91) (some (0, 3, 18, 852)) none)))) (cond (Nat.blt k 107) (cond (Nat.blt k 100) (cond (Nat.blt k 97) (cond (Nat.beq k 94) (some (0, 3, 14, 848)) none) (cond (Nat.beq k 97) (some (0, 3, 19, 853)) none)) (cond (Nat.blt k 104) (cond (Nat.beq k 100) (some (1, 93, 2, 1821)) none) (cond (Nat.beq k 104) (some (0, 10, 8, 547)) none))) (cond (Nat.blt k 113) (cond (Nat.blt k 110) (cond (Nat.beq k 107) (some (0, 10, 9, 550)) none) (cond (Nat.beq k 110) (some (0, 10, 10, 553)) none)) (cond (Nat.blt k 116) (cond (Nat.beq k 113) (some (0, 10, 11, 556)) none) (cond (Nat.blt k 119) (cond (Nat.beq k 116) (some (0, 3, 12, 846)) none) (cond (Nat.beq k 119) (some (0, 3, 15, 849)) none))))))) (cond (Nat.blt k 176) (cond (Nat.blt k 150) (cond (Nat.blt k 137) (cond (Nat.blt k 129) (cond (Nat.blt k 125) (cond (Nat.beq k 122) (some (0, 3, 10, 844)) none) (cond (Nat.beq k 125) (some (1, 94, 4, 1800)) none)) (cond (Nat.blt k 133) (cond (Nat.beq k 129) (some (1, 92, 0, 1804)) none) (cond (Nat.beq k 133) (some (1, 98, 1, 1808)) none))) (cond (Nat.blt k 143) (cond (Nat.blt k 140) (cond (Nat.beq k 137) (some (1, 95, 2, 1827)) none) (cond (Nat.beq k 140) (some (0, 2, 1, 604)) none)) (cond (Nat.blt k 146) (cond (Nat.beq k 143) (some (0, 2, 0, 599)) none) (cond (Nat.beq k 146) (some (1, 245, 2, 1812)) none)))) (cond (Nat.blt k 163) (cond (Nat.blt k 156) (cond (Nat.blt k 153) (cond (Nat.beq k 150) (some (1, 101, 2, 1813)) none) (cond (Nat.beq k 153) (some (1, 100, 2, 1832)) none)) (cond (Nat.blt k 160) (cond (Nat.beq k 156) (some (1, 96, 3, 1837)) none) (cond (Nat.beq k 160) (some (1, 99, 2, 1841)) none))) (cond (Nat.blt k 169) (cond (Nat.blt k 166) (cond (Nat.beq k 163) (some (1, 97, 1, 1817)) none) (cond (Nat.beq k 166) (some (1, 242, 1, 1836)) none)) (cond (Nat.blt k 170) (cond (Nat.beq k 169) (some (0, 10, 0, 530)) none) (cond (Nat.blt k 173) (cond (Nat.beq k 170) (some (8, 15, 0, 1825)) none) (cond (Nat.beq k 173) (some (8, 13, 0, 1826)) none)))))) (cond (Nat.blt k 198) (cond (Nat.blt k 186) (cond (Nat.blt k 182) (cond (Nat.blt k 179) (cond (Nat.beq k 176) (some (8, 14, 0, 1831)) none) (cond (Nat.beq k 179) (some (1, 244, 2, 1964)) none)) (cond (Nat.blt k 183) (cond (Nat.beq k 182) (some (1, 88, 2, 1965)) none) (cond (Nat.beq k 183) (some (1, 104, 0, 1974)) none))) (cond (Nat.blt k 192) (cond (Nat.blt k 189) (cond (Nat.beq k 186) (some (1, 105, 0, 1978)) none) (cond (Nat.beq k 189) (some (1, 110, 2, 1986)) none)) (cond (Nat.blt k 195) (cond (Nat.beq k 192) (some (1, 106, 1, 1990)) none) (cond (Nat.beq k 195) (some (1, 107, 1, 1998)) none)))) (cond (Nat.blt k 211) (cond (Nat.blt k 205) (cond (Nat.blt k 202) (cond (Nat.beq k 198) (some (1, 109, 3, 2001)) none) (cond (Nat.beq k 202) (some (1, 108, 1, 2010)) none)) (cond (Nat.blt k 208) (cond (Nat.beq k 205) (some (1, 86, 1, 1982)) none) (cond (Nat.beq k 208) (some (1, 87, 2, 1994)) none))) (cond (Nat.blt k 217) (cond (Nat.blt k 214) (cond (Nat.beq k 211) (some (1, 178, 0, 2005)) none) (cond (Nat.beq k 214) (some (1, 182, 1, 2006)) none)) (cond (Nat.blt k 221) (cond (Nat.beq k 217) (some (1, 205, 1, 2007)) none) (cond (Nat.blt k 224) (cond (Nat.beq k 221) (some (1, 210, 1, 2008)) none) (cond (Nat.beq k 224) (some (1, 183, 0, 2009)) none)))))))
def zlk_3 : Nat → Option (Nat × Nat × Nat × Nat) := fun k => cond (Nat.blt k 1060) (zlkT_3 k) none
def zlkT_4 : Nat → Option (Nat × Nat × Nat × Nat) := fun k => cond (Nat.blt k 34) (cond (Nat.blt k 22) (cond (Nat.blt k 15) (cond (Nat.blt k 9) (cond (Nat.beq k 3) (some (9, 0, 0, 745)) none) (cond (Nat.beq k 9) (some (0, 4, 0, 746)) none)) (cond (Nat.blt k 19) (cond (Nat.beq k 15) (some (0, 4, 1, 748)) none) (cond (Nat.beq k 19) (some (0, 4, 2, 750)) none))) (cond (Nat.blt k 28) (cond (Nat.blt k 25) (cond (Nat.beq k 22) (some (0, 4, 3, 752)) none) (cond (Nat.beq k 25) (some (0, 4, 5, 756)) none)) (cond (Nat.blt k 31) (cond (Nat.beq k 28) (some (0, 4, 6, 758)) none) (cond (Nat.beq k 31) (some (0, 4, 7, 759)) none)))) (cond (Nat.blt k 46) (cond (Nat.blt k 40) (cond (Nat.blt k 37) (cond (Nat.beq k 34) (some (0, 4, 8, 761)) none) (cond (Nat.beq k 37) (some (0, 4, 9, 763)) none)) (cond (Nat.blt k 43) (cond (Nat.beq k 40) (some (0, 4, 10, 764)) none) (cond (Nat.beq k 43) (some (0, 4, 11, 765)) none))) (cond (Nat.blt k 53) (cond (Nat.blt k 50) (cond (Nat.beq k 46) (some (2, 289, 2, 2173)) none) (cond (Nat.beq k 50) (some (0, 4, 4, 754)) none)) (cond (Nat.blt k 57) (cond (Nat.beq k 53) (some (2, 287, 4, 2236)) none) (cond (Nat.beq k 57) (some (10, 0, 0, 1321)) none))))
def zlk_4 : Nat → Option (Nat × Nat × Nat × Nat) := fun k => cond (Nat.blt k 1060) (zlkT_4 k) none
def zlkT_5 : Nat → Option (Nat × Nat × Nat × Nat) := fun k => cond (Nat.blt k 81) (cond (Nat.blt k 40) (cond (Nat.blt k 24) (cond (Nat.blt k 15) (cond (Nat.blt k 9) (cond (Nat.beq k 3) (some (9, 0, 0, 686)) none) (cond (Nat.beq k 9) (some (0, 5, 5, 696)) none)) (cond (Nat.blt k 18) (cond (Nat.beq k 15) (some (0, 5, 6, 698)) none) (cond (Nat.blt k 21) (cond (Nat.beq k 18) (some (0, 5, 7, 699)) none) (cond (Nat.beq k 21) (some (0, 5, 8, 701)) none)))) (cond (Nat.blt k 31) (cond (Nat.blt k 27) (cond (Nat.beq k 24) (some (0, 5, 9, 702)) none) (cond (Nat.beq k 27) (some (0, 5, 10, 703)) none)) (cond (Nat.blt k 34) (cond (Nat.beq k 31) (some (0, 5, 11, 704)) none) (cond (Nat.blt k 37) (cond (Nat.beq k 34) (some (0, 5, 13, 707)) none) (cond (Nat.beq k 37) (some (0, 5, 14, 708)) none))))) (cond (Nat.blt k 58) (cond (Nat.blt k 48) (cond (Nat.blt k 44) (cond (Nat.beq k 40) (some (0, 5, 0, 687)) none) (cond (Nat.beq k 44) (some (0, 5, 1, 688)) none)) (cond (Nat.blt k 51) (cond (Nat.beq k 48) (some (0, 5, 2, 690)) none) (cond (Nat.blt k 55) (cond (Nat.beq k 51) (some (0, 5, 3, 692)) none) (cond (Nat.beq k 55) (some (0, 5, 4, 694)) none)))) (cond (Nat.blt k 69) (cond (Nat.blt k 62) (cond (Nat.beq k 58) (some (2, 289, 2, 2167)) none) (cond (Nat.blt k 66) (cond (Nat.beq k 62) (some (2, 290, 2, 2168)) none) (cond (Nat.beq k 66) (some (0, 5, 12, 705)) none))) (cond (Nat.blt k 73) (cond (Nat.beq k 69) (some (1, 126, 0, 1548)) none) (cond (Nat.blt k 77) (cond (Nat.beq k 73) (some (1, 128, 1, 1234)) none) (cond (Nat.beq k 77) (some (2, 291, 5, 1238)) none)))))) (cond (Nat.blt k 119) (cond (Nat.blt k 103) (cond (Nat.blt k 91) (cond (Nat.blt k 87) (cond (Nat.beq k 81) (some (10, 0, 0, 1641)) none) (cond (Nat.beq k 87) (some (1, 129, 1, 1636)) none)) (cond (Nat.blt k 95) (cond (Nat.beq k 91) (some (1, 138, 2, 1676)) none) (cond (Nat.blt k 100) (cond (Nat.beq k 95) (some (0, 2, 2, 611)) none) (cond (Nat.beq k 100) (some (1, 137, 2, 1686)) none)))) (cond (Nat.blt k 109) (cond (Nat.blt k 106) (cond (Nat.beq k 103) (some (1, 139, 0, 1690)) none) (cond (Nat.beq k 106) (some (1, 140, 2, 1703)) none)) (cond (Nat.blt k 113) (cond (Nat.beq k 109) (some (1, 141, 1, 1707)) none) (cond (Nat.blt k 116) (cond (Nat.beq k 113) (some (1, 142, 0, 1711)) none) (cond (Nat.beq k 116) (some (1, 143, 0, 1715)) none))))) (cond (Nat.blt k 135) (cond (Nat.blt k 125) (cond (Nat.blt k 122) (cond (Nat.beq k 119) (some (1, 144, 1, 1719)) none) (cond (Nat.beq k 122) (some (1, 145, 0, 1727)) none)) (cond (Nat.blt k 128) (cond (Nat.beq k 125) (some (1, 146, 0, 1731)) none) (cond (Nat.blt k 132) (cond (Nat.beq k 128) (some (1, 135, 3, 1681)) none) (cond (Nat.beq k 132) (some (1, 83, 1, 1680)) none)))) (cond (Nat.blt k 144) (cond (Nat.blt k 138) (cond (Nat.beq k 135) (some (1, 84, 2, 1685)) none) (cond (Nat.blt k 141) (cond (Nat.beq k 138) (some (1, 133, 1, 1694)) none) (cond (Nat.beq k 141) (some (1, 134, 1, 1698)) none))) (cond (Nat.blt k 147) (cond (Nat.beq k 144) (some (1, 85, 1, 1702)) none) (cond (Nat.blt k 151) (cond (Nat.beq k 147) (some (1, 88, 2, 1723)) none) (cond (Nat.beq k 151) (some (0, 2, 1, 607)) none))))))
def zlk_5 : Nat → Option (Nat × Nat × Nat × Nat) := fun k => cond (Nat.blt k 1060) (zlkT_5 k) none
def zlkT_6 : Nat → Option (Nat × Nat × Nat × Nat) := fun k => cond (Nat.blt k 46) (cond (Nat.blt k 26) (cond (Nat.blt k 15) (cond (Nat.blt k 9) (cond (Nat.beq k 3) (some (9, 0, 0, 796)) none) (cond (Nat.beq k 9) (some (0, 6, 0, 797)) none)) (cond (Nat.blt k 18) (cond (Nat.beq k 15) (some (0, 6, 2, 800)) none) (cond (Nat.blt k 22) (cond (Nat.beq k 18) (some (0, 6, 4, 803)) none) (cond (Nat.beq k 22) (some (2, 290, 2, 2178)) none)))) (cond (Nat.blt k 37) (cond (Nat.blt k 30) (cond (Nat.beq k 26) (some (0, 6, 1, 798)) none) (cond (Nat.blt k 33) (cond (Nat.beq k 30) (some (0, 6, 3, 801)) none) (cond (Nat.beq k 33) (some (2, 289, 2, 2179)) none))) (cond (Nat.blt k 40) (cond (Nat.beq k 37) (some (0, 6, 5, 804)) none) (cond (Nat.blt k 43) (cond (Nat.beq k 40) (some (0, 6, 6, 805)) none) (cond (Nat.beq k 43) (some (0, 6, 7, 807)) none))))) (cond (Nat.blt k 66) (cond (Nat.blt k 51) (cond (Nat.blt k 47) (cond (Nat.beq k 46) (some (5, 2147483647, 0, 1150)) none) (cond (Nat.beq k 47) (some (1, 150, 1, 1146)) none)) (cond (Nat.blt k 57) (cond (Nat.beq k 51) (some (1, 498, 2, 1139)) none) (cond (Nat.blt k 60) (cond (Nat.beq k 57) (some (1, 499, 2, 1142)) none) (cond (Nat.beq k 60) (some (1, 514, 4, 1501)) none)))) (cond (Nat.blt k 80) (cond (Nat.blt k 72) (cond (Nat.beq k 66) (some (10, 0, 0, 1145)) none) (cond (Nat.blt k 76) (cond (Nat.beq k 72) (some (1, 497, 1, 1488)) none) (cond (Nat.beq k 76) (some (1, 155, 1, 1489)) none))) (cond (Nat.blt k 84) (cond (Nat.beq k 80) (some (1, 151, 1, 1492)) none) (cond (Nat.blt k 89) (cond (Nat.beq k 84) (some (0, 8, 7, 350)) none) (cond (Nat.beq k 89) (some (0, 8, 1, 341)) none)))))
def zlk_6 : Nat → Option (Nat × Nat × Nat × Nat) := fun k => cond (Nat.blt k 1060) (zlkT_6 k) none
def zlkT_7 : Nat → Option (Nat × Nat × Nat × Nat) := fun k => cond (Nat.blt k 29) (cond (Nat.blt k 19) (cond (Nat.blt k 9) (cond (Nat.beq k 3) (some (9, 0, 0, 303)) none) (cond (Nat.blt k 15) (cond (Nat.beq k 9) (some (0, 7, 0, 304)) none) (cond (Nat.beq k 15) (some (0, 7, 3, 314)) none))) (cond (Nat.blt k 22) (cond (Nat.beq k 19) (some (0, 7, 4, 317)) none) (cond (Nat.blt k 26) (cond (Nat.beq k 22) (some (2, 290, 2, 2067)) none) (cond (Nat.beq k 26) (some (0, 7, 1, 309)) none)))) (cond (Nat.blt k 38) (cond (Nat.blt k 32) (cond (Nat.beq k 29) (some (0, 7, 2, 313)) none) (cond (Nat.blt k 36) (cond (Nat.beq k 32) (some (2, 288, 3, 2208)) none) (cond (Nat.beq k 36) (some (6, 4096, 0, 1134)) none))) (cond (Nat.blt k 40) (cond (Nat.beq k 38) (some (6, 256, 0, 1432)) none) (cond (Nat.blt k 46) (cond (Nat.beq k 40) (some (1, 498, 2, 1446)) none) (cond (Nat.beq k 46) (some (1, 168, 1, 1268)) none))))
def zlk_7 : Nat → Option (Nat × Nat × Nat × Nat) := fun k => cond (Nat.blt k 1060) (zlkT_7 k) none
def zlkT_8 : Nat → Option (Nat × Nat × Nat × Nat) := fun k => cond (Nat.blt k 148) (cond (Nat.blt k 73) (cond (Nat.blt k 41) (cond (Nat.blt k 24) (cond (Nat.blt k 15) (cond (Nat.blt k 9) (cond (Nat.beq k 3) (some (9, 0, 0, 338)) none) (cond (Nat.beq k 9) (some (0, 8, 1, 340)) none)) (cond (Nat.blt k 18) (cond (Nat.beq k 15) (some (0, 8, 2, 342)) none) (cond (Nat.blt k 21) (cond (Nat.beq k 18) (some (0, 8, 3, 343)) none) (cond (Nat.beq k 21) (some (0, 8, 4, 344)) none)))) (cond (Nat.blt k 30) (cond (Nat.blt k 27) (cond (Nat.beq k 24) (some (0, 8, 5, 345)) none) (cond (Nat.beq k 27) (some (0, 8, 6, 347)) none)) (cond (Nat.blt k 34) (cond (Nat.beq k 30) (some (0, 8, 13, 364)) none) (cond (Nat.blt k 37) (cond (Nat.beq k 34) (some (0, 8, 16, 373)) none) (cond (Nat.beq k 37) (some (0, 8, 0, 339)) none))))) (cond (Nat.blt k 57) (cond (Nat.blt k 48) (cond (Nat.blt k 45) (cond (Nat.beq k 41) (some (2, 289, 2, 2184)) none) (cond (Nat.beq k 45) (some (0, 8, 7, 349)) none)) (cond (Nat.blt k 51) (cond (Nat.beq k 48) (some (0, 8, 8, 353)) none) (cond (Nat.blt k 54) (cond (Nat.beq k 51) (some (0, 8, 9, 355)) none) (cond (Nat.beq k 54) (some (0, 8, 10, 357)) none)))) (cond (Nat.blt k 63) (cond (Nat.blt k 60) (cond (Nat.beq k 57) (some (0, 8, 11, 359)) none) (cond (Nat.beq k 60) (some (0, 8, 12, 362)) none)) (cond (Nat.blt k 66) (cond (Nat.beq k 63) (some (0, 8, 14, 368)) none) (cond (Nat.blt k 69) (cond (Nat.beq k 66) (some (0, 8, 15, 370)) none) (cond (Nat.beq k 69) (some (0, 8, 17, 375)) none)))))) (cond (Nat.blt k 112) (cond (Nat.blt k 94) (cond (Nat.blt k 83) (cond (Nat.blt k 77) (cond (Nat.beq k 73) (some (2, 287, 4, 2201)) none) (cond (Nat.beq k 77) (some (1, 164, 1, 1169)) none)) (cond (Nat.blt k 87) (cond (Nat.beq k 83) (some (1, 182, 1, 1155)) none) (cond (Nat.blt k 91) (cond (Nat.beq k 87) (some (1, 163, 0, 1165)) none) (cond (Nat.beq k 91) (some (1, 183, 0, 1156)) none)))) (cond (Nat.blt k 102) (cond (Nat.blt k 98) (cond (Nat.beq k 94) (some (1, 165, 1, 1346)) none) (cond (Nat.beq k 98) (some (1, 191, 1, 1076)) none)) (cond (Nat.blt k 106) (cond (Nat.beq k 102) (some (1, 193, 1, 1297)) none) (cond (Nat.blt k 109) (cond (Nat.beq k 106) (some (1, 192, 0, 1101)) none) (cond (Nat.beq k 109) (some (1, 195, 0, 1102)) none))))) (cond (Nat.blt k 130) (cond (Nat.blt k 121) (cond (Nat.blt k 118) (cond (Nat.beq k 112) (some (1, 499, 2, 1378)) none) (cond (Nat.beq k 118) (some (1, 200, 1, 1330)) none)) (cond (Nat.blt k 124) (cond (Nat.beq k 121) (some (1, 203, 1, 1347)) none) (cond (Nat.blt k 127) (cond (Nat.beq k 124) (some (1, 205, 1, 1355)) none) (cond (Nat.beq k 127) (some (1, 210, 1, 1407)) none)))) (cond (Nat.blt k 139) (cond (Nat.blt k 133) (cond (Nat.beq k 130) (some (1, 213, 1, 1424)) none) (cond (Nat.blt k 136) (cond (Nat.beq k 133) (some (1, 218, 1, 1472)) none) (cond (Nat.beq k 136) (some (1, 184, 1, 1177)) none))) (cond (Nat.blt k 142) (cond (Nat.beq k 139) (some (1, 190, 1, 1334)) none) (cond (Nat.blt k 145) (cond (Nat.beq k 142) (some (1, 201, 0, 1338)) none) (cond (Nat.beq k 145) (some (1, 202, 1, 1342)) none))))))) (cond (Nat.blt k 215) (cond (Nat.blt k 179) (cond (Nat.blt k 164) (cond (Nat.blt k 155) (cond (Nat.blt k 152) (cond (Nat.beq k 148) (some (1, 204, 3, 1351)) none) (cond (Nat.beq k 152) (some (1, 185, 1, 1359)) none)) (cond (Nat.blt k 158) (cond (Nat.beq k 155) (some (1, 207, 2, 1363)) none) (cond (Nat.blt k 160) (cond (Nat.beq k 158) (some (6, 2, 0, 1374)) none) (cond (Nat.beq k 160) (some (1, 497, 1, 1375)) none)))) (cond (Nat.blt k 170) (cond (Nat.blt k 167) (cond (Nat.beq k 164) (some (1, 498, 2, 1379)) none) (cond (Nat.beq k 167) (some (1, 187, 1, 1380)) none)) (cond (Nat.blt k 173) (cond (Nat.beq k 170) (some (1, 208, 1, 1384)) none) (cond (Nat.blt k 176) (cond (Nat.beq k 173) (some (1, 209, 2, 1395)) none) (cond (Nat.beq k 176) (some (1, 206, 1, 1403)) none))))) (cond (Nat.blt k 197) (cond (Nat.blt k 187) (cond (Nat.blt k 183) (cond (Nat.beq k 179) (some (1, 188, 0, 1399)) none) (cond (Nat.beq k 183) (some (1, 161, 0, 1367)) none)) (cond (Nat.blt k 191) (cond (Nat.beq k 187) (some (1, 496, 2, 1371)) none) (cond (Nat.blt k 194) (cond (Nat.beq k 191) (some (1, 189, 0, 1388)) none) (cond (Nat.beq k 194) (some (2, 292, 2, 1392)) none)))) (cond (Nat.blt k 205) (cond (Nat.blt k 201) (cond (Nat.beq k 197) (some (8, 13, 0, 1411)) none) (cond (Nat.beq k 201) (some (1, 186, 1, 1412)) none)) (cond (Nat.blt k 209) (cond (Nat.beq k 205) (some (1, 211, 2, 1416)) none) (cond (Nat.blt k 212) (cond (Nat.beq k 209) (some (1, 212, 1, 1420)) none) (cond (Nat.beq k 212) (some (0, 7, 3, 316)) none)))))) (cond (Nat.blt k 246) (cond (Nat.blt k 230) (cond (Nat.blt k 221) (cond (Nat.blt k 218) (cond (Nat.beq k 215) (some (1, 171, 1, 1428)) none) (cond (Nat.beq k 218) (some (0, 7, 1, 311)) none)) (cond (Nat.blt k 224) (cond (Nat.beq k 221) (some (1, 214, 2, 1433)) none) (cond (Nat.blt k 227) (cond (Nat.beq k 224) (some (1, 172, 1, 1442)) none) (cond (Nat.beq k 227) (some (1, 215, 1, 1447)) none)))) (cond (Nat.blt k 237) (cond (Nat.blt k 233) (cond (Nat.beq k 230) (some (1, 216, 1, 1458)) none) (cond (Nat.beq k 233) (some (1, 166, 2, 1451)) none)) (cond (Nat.blt k 240) (cond (Nat.beq k 237) (some (1, 167, 1, 1463)) none) (cond (Nat.blt k 243) (cond (Nat.beq k 240) (some (1, 217, 2, 1467)) none) (cond (Nat.beq k 243) (some (1, 170, 1, 1437)) none))))) (cond (Nat.blt k 267) (cond (Nat.blt k 253) (cond (Nat.blt k 249) (cond (Nat.beq k 246) (some (0, 7, 0, 307)) none) (cond (Nat.beq k 249) (some (1, 169, 2, 1441)) none)) (cond (Nat.blt k 258) (cond (Nat.beq k 253) (some (1, 514, 4, 1452)) none) (cond (Nat.blt k 264) (cond (Nat.beq k 258) (some (10, 0, 0, 1462)) none) (cond (Nat.beq k 264) (some (1, 168, 1, 1471)) none)))) (cond (Nat.blt k 276) (cond (Nat.blt k 270) (cond (Nat.beq k 267) (some (1, 220, 2, 1157)) none) (cond (Nat.blt k 273) (cond (Nat.beq k 270) (some (1, 221, 2, 1161)) none) (cond (Nat.beq k 273) (some (1, 222, 1, 1173)) none))) (cond (Nat.blt k 279) (cond (Nat.beq k 276) (some (1, 223, 2, 1181)) none) (cond (Nat.blt k 282) (cond (Nat.beq k 279) (some (1, 224, 2, 1185)) none) (cond (Nat.beq k 282) (some (1, 181, 2, 1189)) none)))))))
def zlk_8 : Nat → Option (Nat × Nat × Nat × Nat) := fun k => cond (Nat.blt k 1060) (zlkT_8 k) none
def zlkT_9 : Nat → Option (Nat × Nat × Nat × Nat) := fun k => cond (Nat.blt k 62) (cond (Nat.blt k 31) (cond (Nat.blt k 18) (cond (Nat.blt k 9) (cond (Nat.beq k 3) (some (9, 0, 0, 624)) none) (cond (Nat.blt k 15) (cond (Nat.beq k 9) (some (0, 9, 1, 629)) none) (cond (Nat.beq k 15) (some (0, 9, 2, 630)) none))) (cond (Nat.blt k 25) (cond (Nat.blt k 22) (cond (Nat.beq k 18) (some (0, 9, 3, 632)) none) (cond (Nat.beq k 22) (some (0, 9, 4, 633)) none)) (cond (Nat.blt k 28) (cond (Nat.beq k 25) (some (0, 9, 5, 634)) none) (cond (Nat.beq k 28) (some (0, 9, 6, 635)) none)))) (cond (Nat.blt k 47) (cond (Nat.blt k 38) (cond (Nat.blt k 34) (cond (Nat.beq k 31) (some (0, 9, 7, 637)) none) (cond (Nat.beq k 34) (some (0, 9, 0, 628)) none)) (cond (Nat.blt k 44) (cond (Nat.beq k 38) (some (1, 513, 2, 625)) none) (cond (Nat.beq k 44) (some (0, 9, 12, 647)) none))) (cond (Nat.blt k 55) (cond (Nat.blt k 51) (cond (Nat.beq k 47) (some (2, 290, 2, 2161)) none) (cond (Nat.beq k 51) (some (2, 289, 2, 2162)) none)) (cond (Nat.blt k 59) (cond (Nat.beq k 55) (some (0, 9, 9, 641)) none) (cond (Nat.beq k 59) (some (0, 9, 10, 642)) none))))) (cond (Nat.blt k 90) (cond (Nat.blt k 73) (cond (Nat.blt k 66) (cond (Nat.beq k 62) (some (0, 9, 11, 644)) none) (cond (Nat.blt k 69) (cond (Nat.beq k 66) (some (1, 228, 0, 1028)) none) (cond (Nat.beq k 69) (some (2, 288, 3, 2227)) none))) (cond (Nat.blt k 79) (cond (Nat.blt k 76) (cond (Nat.beq k 73) (some (0, 9, 13, 648)) none) (cond (Nat.beq k 76) (some (0, 9, 14, 649)) none)) (cond (Nat.blt k 84) (cond (Nat.beq k 79) (some (0, 7, 0, 305)) none) (cond (Nat.beq k 84) (some (10, 0, 0, 1024)) none)))) (cond (Nat.blt k 105) (cond (Nat.blt k 98) (cond (Nat.blt k 94) (cond (Nat.beq k 90) (some (1, 169, 2, 1027)) none) (cond (Nat.beq k 94) (some (1, 168, 1, 1207)) none)) (cond (Nat.blt k 101) (cond (Nat.beq k 98) (some (0, 9, 8, 639)) none) (cond (Nat.beq k 101) (some (1, 165, 1, 1211)) none))) (cond (Nat.blt k 115) (cond (Nat.blt k 111) (cond (Nat.beq k 105) (some (1, 500, 2, 1212)) none) (cond (Nat.beq k 111) (some (1, 234, 1, 1215)) none)) (cond (Nat.blt k 119) (cond (Nat.beq k 115) (some (1, 232, 0, 1614)) none) (cond (Nat.beq k 119) (some (1, 235, 2, 1618)) none)))))
def zlk_9 : Nat → Option (Nat × Nat × Nat × Nat) := fun k => cond (Nat.blt k 1060) (zlkT_9 k) none
def zlkT_10 : Nat → Option (Nat × Nat × Nat × Nat) := fun k => cond (Nat.blt k 63) (cond (Nat.blt k 37) (cond (Nat.blt k 21) (cond (Nat.blt k 15) (cond (Nat.blt k 9) (cond (Nat.beq k 3) (some (9, 0, 0, 464)) none) (cond (Nat.beq k 9) (some (0, 10, 0, 528)) none)) (cond (Nat.blt k 18) (cond (Nat.beq k 15) (some (0, 10, 1, 532)) none) (cond (Nat.beq k 18) (some (0, 10, 2, 533)) none))) (cond (Nat.blt k 28) (cond (Nat.blt k 25) (cond (Nat.beq k 21) (some (0, 10, 3, 534)) none) (cond (Nat.beq k 25) (some (0, 10, 4, 538)) none)) (cond (Nat.blt k 31) (cond (Nat.beq k 28) (some (0, 10, 5, 541)) none) (cond (Nat.blt k 34) (cond (Nat.beq k 31) (some (0, 10, 6, 544)) none) (cond (Nat.beq k 34) (some (0, 10, 7, 545)) none))))) (cond (Nat.blt k 49) (cond (Nat.blt k 43) (cond (Nat.blt k 40) (cond (Nat.beq k 37) (some (0, 10, 8, 546)) none) (cond (Nat.beq k 40) (some (0, 10, 9, 549)) none)) (cond (Nat.blt k 46) (cond (Nat.beq k 43) (some (0, 10, 10, 552)) none) (cond (Nat.beq k 46) (some (0, 10, 11, 555)) none))) (cond (Nat.blt k 55) (cond (Nat.blt k 53) (cond (Nat.beq k 49) (some (0, 10, 13, 560)) none) (cond (Nat.beq k 53) (some (7, 0, 0, 465)) none)) (cond (Nat.blt k 59) (cond (Nat.beq k 55) (some (1, 239, 1, 466)) none) (cond (Nat.blt k 61) (cond (Nat.beq k 59) (some (7, 1, 0, 520)) none) (cond (Nat.beq k 61) (some (7, 2, 0, 521)) none)))))) (cond (Nat.blt k 88) (cond (Nat.blt k 71) (cond (Nat.blt k 67) (cond (Nat.blt k 65) (cond (Nat.beq k 63) (some (7, 3, 0, 522)) none) (cond (Nat.beq k 65) (some (7, 4, 0, 523)) none)) (cond (Nat.blt k 69) (cond (Nat.beq k 67) (some (7, 5, 0, 524)) none) (cond (Nat.beq k 69) (some (7, 6, 0, 525)) none))) (cond (Nat.blt k 75) (cond (Nat.blt k 73) (cond (Nat.beq k 71) (some (7, 7, 0, 526)) none) (cond (Nat.beq k 73) (some (7, 8, 0, 527)) none)) (cond (Nat.blt k 81) (cond (Nat.beq k 75) (some (1, 501, 0, 470)) none) (cond (Nat.blt k 85) (cond (Nat.beq k 81) (some (1, 502, 1, 480)) none) (cond (Nat.beq k 85) (some (0, 10, 12, 558)) none))))) (cond (Nat.blt k 106) (cond (Nat.blt k 95) (cond (Nat.blt k 91) (cond (Nat.beq k 88) (some (8, 15, 0, 518)) none) (cond (Nat.beq k 91) (some (2, 290, 2, 2147)) none)) (cond (Nat.blt k 99) (cond (Nat.beq k 95) (some (2, 289, 2, 2148)) none) (cond (Nat.blt k 103) (cond (Nat.beq k 99) (some (1, 251, 2, 2215)) none) (cond (Nat.beq k 103) (some (1, 252, 2, 2216)) none)))) (cond (Nat.blt k 114) (cond (Nat.blt k 110) (cond (Nat.beq k 106) (some (1, 242, 1, 1096)) none) (cond (Nat.beq k 110) (some (1, 245, 2, 1793)) none)) (cond (Nat.blt k 117) (cond (Nat.beq k 114) (some (1, 244, 2, 1794)) none) (cond (Nat.blt k 123) (cond (Nat.beq k 117) (some (10, 0, 0, 1535)) none) (cond (Nat.beq k 123) (some (2, 291, 5, 1249)) none))))))
def zlk_10 : Nat → Option (Nat × Nat × Nat × Nat) := fun k => cond (Nat.blt k 1060) (zlkT_10 k) none
def zlkT_11 : Nat → Option (Nat × Nat × Nat × Nat) := fun k => cond (Nat.blt k 128) (cond (Nat.blt k 61) (cond (Nat.blt k 29) (cond (Nat.blt k 19) (cond (Nat.blt k 13) (cond (Nat.blt k 9) (cond (Nat.beq k 1) (some (9, 0, 0, 287)) none) (cond (Nat.beq k 9) (some (0, 11, 0, 966)) none)) (cond (Nat.blt k 15) (cond (Nat.beq k 13) (some (3, 1, 0, 290)) none) (cond (Nat.beq k 15) (some (0, 11, 2, 968)) none))) (cond (Nat.blt k 26) (cond (Nat.blt k 22) (cond (Nat.beq k 19) (some (0, 11, 4, 970)) none) (cond (Nat.beq k 22) (some (0, 11, 5, 971)) none)) (cond (Nat.blt k 28) (cond (Nat.beq k 26) (some (3, 0, 0, 292)) none) (cond (Nat.beq k 28) (some (2, 0, 0, 294)) none)))) (cond (Nat.blt k 41) (cond (Nat.blt k 34) (cond (Nat.blt k 33) (cond (Nat.beq k 29) (some (0, 11, 6, 972)) none) (cond (Nat.beq k 33) (some (1, 16, 0, 453)) none)) (cond (Nat.blt k 38) (cond (Nat.beq k 34) (some (0, 11, 1, 967)) none) (cond (Nat.beq k 38) (some (0, 11, 3, 969)) none))) (cond (Nat.blt k 49) (cond (Nat.blt k 45) (cond (Nat.beq k 41) (some (1, 17, 2, 1000)) none) (cond (Nat.beq k 45) (some (1, 255, 0, 1012)) none)) (cond (Nat.blt k 53) (cond (Nat.beq k 49) (some (1, 284, 1, 1013)) none) (cond (Nat.blt k 57) (cond (Nat.beq k 53) (some (1, 286, 1, 1017)) none) (cond (Nat.beq k 57) (some (0, 1, 3, 908)) none)))))) (cond (Nat.blt k 93) (cond (Nat.blt k 79) (cond (Nat.blt k 71) (cond (Nat.blt k 67) (cond (Nat.beq k 61) (some (0, 9, 11, 645)) none) (cond (Nat.beq k 67) (some (1, 229, 2, 1020)) none)) (cond (Nat.blt k 75) (cond (Nat.beq k 71) (some (1, 26, 1, 1032)) none) (cond (Nat.beq k 75) (some (0, 1, 6, 912)) none))) (cond (Nat.blt k 87) (cond (Nat.blt k 84) (cond (Nat.beq k 79) (some (1, 149, 1, 1874)) none) (cond (Nat.beq k 84) (some (1, 20, 1, 1882)) none)) (cond (Nat.blt k 90) (cond (Nat.beq k 87) (some (0, 1, 11, 920)) none) (cond (Nat.beq k 90) (some (0, 1, 12, 922)) none)))) (cond (Nat.blt k 109) (cond (Nat.blt k 100) (cond (Nat.blt k 96) (cond (Nat.beq k 93) (some (0, 1, 13, 924)) none) (cond (Nat.beq k 96) (some (1, 285, 2, 1894)) none)) (cond (Nat.blt k 105) (cond (Nat.beq k 100) (some (1, 179, 1, 1898)) none) (cond (Nat.beq k 105) (some (1, 180, 2, 1906)) none))) (cond (Nat.blt k 115) (cond (Nat.blt k 112) (cond (Nat.beq k 109) (some (0, 8, 14, 369)) none) (cond (Nat.beq k 112) (some (0, 8, 15, 371)) none)) (cond (Nat.blt k 119) (cond (Nat.beq k 115) (some (0, 1, 0, 900)) none) (cond (Nat.blt k 124) (cond (Nat.beq k 119) (some (0, 7, 1, 310)) none) (cond (Nat.beq k 124) (some (1, 166, 2, 1918)) none))))))) (cond (Nat.blt k 189) (cond (Nat.blt k 158) (cond (Nat.blt k 142) (cond (Nat.blt k 134) (cond (Nat.blt k 131) (cond (Nat.beq k 128) (some (1, 167, 1, 1919)) none) (cond (Nat.beq k 131) (some (1, 168, 1, 1920)) none)) (cond (Nat.blt k 138) (cond (Nat.beq k 134) (some (1, 21, 2, 1925)) none) (cond (Nat.beq k 138) (some (0, 1, 1, 903)) none))) (cond (Nat.blt k 150) (cond (Nat.blt k 147) (cond (Nat.beq k 142) (some (1, 251, 2, 1930)) none) (cond (Nat.beq k 147) (some (1, 252, 2, 1938)) none)) (cond (Nat.blt k 154) (cond (Nat.beq k 150) (some (0, 1, 2, 906)) none) (cond (Nat.beq k 154) (some (1, 82, 1, 1946)) none)))) (cond (Nat.blt k 171) (cond (Nat.blt k 165) (cond (Nat.blt k 161) (cond (Nat.beq k 158) (some (0, 2, 0, 600)) none) (cond (Nat.beq k 161) (some (0, 2, 1, 605)) none)) (cond (Nat.blt k 168) (cond (Nat.beq k 165) (some (1, 246, 1, 1951)) none) (cond (Nat.beq k 168) (some (0, 10, 8, 548)) none))) (cond (Nat.blt k 177) (cond (Nat.blt k 174) (cond (Nat.beq k 171) (some (0, 10, 9, 551)) none) (cond (Nat.beq k 174) (some (0, 10, 10, 554)) none)) (cond (Nat.blt k 180) (cond (Nat.beq k 177) (some (0, 10, 11, 557)) none) (cond (Nat.blt k 184) (cond (Nat.beq k 180) (some (0, 1, 7, 914)) none) (cond (Nat.beq k 184) (some (1, 102, 1, 1960)) none)))))) (cond (Nat.blt k 209) (cond (Nat.blt k 201) (cond (Nat.blt k 196) (cond (Nat.blt k 193) (cond (Nat.beq k 189) (some (1, 23, 0, 1966)) none) (cond (Nat.beq k 193) (some (1, 103, 1, 1970)) none)) (cond (Nat.blt k 200) (cond (Nat.beq k 196) (some (1, 2, 2, 2017)) none) (cond (Nat.beq k 200) (some (1, 1, 1, 2076)) none))) (cond (Nat.blt k 206) (cond (Nat.blt k 203) (cond (Nat.beq k 201) (some (0, 0, 0, 415)) none) (cond (Nat.beq k 203) (some (1, 11, 1, 2084)) none)) (cond (Nat.blt k 207) (cond (Nat.beq k 206) (some (1, 12, 1, 2093)) none) (cond (Nat.beq k 207) (some (1, 15, 1, 2117)) none)))) (cond (Nat.blt k 218) (cond (Nat.blt k 214) (cond (Nat.blt k 213) (cond (Nat.beq k 209) (some (0, 0, 3, 420)) none) (cond (Nat.beq k 213) (some (0, 0, 4, 422)) none)) (cond (Nat.blt k 215) (cond (Nat.beq k 214) (some (0, 0, 2, 418)) none) (cond (Nat.beq k 215) (some (0, 9, 2, 631)) none))) (cond (Nat.blt k 228) (cond (Nat.blt k 224) (cond (Nat.beq k 218) (some (10, 0, 0, 2071)) none) (cond (Nat.beq k 224) (some (1, 18, 1, 2138)) none)) (cond (Nat.blt k 232) (cond (Nat.beq k 228) (some (1, 19, 1, 2193)) none) (cond (Nat.blt k 236) (cond (Nat.beq k 232) (some (0, 1, 8, 916)) none) (cond (Nat.beq k 236) (some (1, 499, 2, 2070)) none)))))))
def zlk_11 : Nat → Option (Nat × Nat × Nat × Nat) := fun k => cond (Nat.blt k 1060) (zlkT_11 k) none
def zlkT_12 : Nat → Option (Nat × Nat × Nat × Nat) := fun k => cond (Nat.blt k 371) (cond (Nat.blt k 188) (cond (Nat.blt k 97) (cond (Nat.blt k 56) (cond (Nat.blt k 28) (cond (Nat.blt k 15) (cond (Nat.blt k 7) (cond (Nat.beq k 1) (some (0, 12, 5, 2249)) none) (cond (Nat.blt k 11) (cond (Nat.beq k 7) (some (1, 293, 0, 2442)) none) (cond (Nat.beq k 11) (some (1, 294, 0, 2486)) none))) (cond (Nat.blt k 21) (cond (Nat.blt k 17) (cond (Nat.beq k 15) (some (6, 4096, 0, 2571)) none) (cond (Nat.beq k 17) (some (1, 295, 1, 2482)) none)) (cond (Nat.blt k 25) (cond (Nat.beq k 21) (some (1, 297, 2, 2567)) none) (cond (Nat.beq k 25) (some (0, 12, 6, 2250)) none)))) (cond (Nat.blt k 43) (cond (Nat.blt k 35) (cond (Nat.blt k 32) (cond (Nat.beq k 28) (some (0, 12, 0, 2244)) none) (cond (Nat.beq k 32) (some (0, 12, 3, 2247)) none)) (cond (Nat.blt k 39) (cond (Nat.beq k 35) (some (1, 299, 1, 2576)) none) (cond (Nat.beq k 39) (some (1, 301, 0, 2384)) none))) (cond (Nat.blt k 50) (cond (Nat.blt k 46) (cond (Nat.beq k 43) (some (1, 296, 1, 2438)) none) (cond (Nat.beq k 46) (some (1, 300, 2, 2388)) none)) (cond (Nat.blt k 53) (cond (Nat.beq k 50) (some (0, 12, 4, 2248)) none) (cond (Nat.beq k 53) (some (1, 304, 0, 2430)) none))))) (cond (Nat.blt k 73) (cond (Nat.blt k 66) (cond (Nat.blt k 60) (cond (Nat.beq k 56) (some (1, 307, 1, 2434)) none) (cond (Nat.blt k 63) (cond (Nat.beq k 60) (some (1, 306, 0, 2474)) none) (cond (Nat.beq k 63) (some (1, 311, 0, 2506)) none))) (cond (Nat.blt k 71) (cond (Nat.blt k 70) (cond (Nat.beq k 66) (some (1, 312, 1, 2510)) none) (cond (Nat.beq k 70) (some (5, 34356, 0, 2609)) none)) (cond (Nat.blt k 72) (cond (Nat.beq k 71) (some (5, 2147483647, 0, 2610)) none) (cond (Nat.beq k 72) (some (5, 33332, 0, 2412)) none)))) (cond (Nat.blt k 84) (cond (Nat.blt k 78) (cond (Nat.blt k 75) (cond (Nat.beq k 73) (some (6, 4, 0, 2413)) none) (cond (Nat.beq k 75) (some (1, 302, 1, 2572)) none)) (cond (Nat.blt k 81) (cond (Nat.beq k 78) (some (1, 316, 0, 2645)) none) (cond (Nat.beq k 81) (some (1, 318, 1, 2649)) none))) (cond (Nat.blt k 90) (cond (Nat.blt k 87) (cond (Nat.beq k 84) (some (1, 320, 0, 2653)) none) (cond (Nat.beq k 87) (some (0, 12, 10, 2254)) none)) (cond (Nat.blt k 93) (cond (Nat.beq k 90) (some (1, 303, 2, 2380)) none) (cond (Nat.beq k 93) (some (1, 319, 2, 2657)) none)))))) (cond (Nat.blt k 142) (cond (Nat.blt k 120) (cond (Nat.blt k 107) (cond (Nat.blt k 101) (cond (Nat.beq k 97) (some (1, 321, 1, 2661)) none) (cond (Nat.blt k 104) (cond (Nat.beq k 101) (some (0, 12, 9, 2253)) none) (cond (Nat.beq k 104) (some (1, 327, 1, 2786)) none))) (cond (Nat.blt k 114) (cond (Nat.blt k 110) (cond (Nat.beq k 107) (some (1, 324, 1, 2376)) none) (cond (Nat.beq k 110) (some (1, 328, 2, 2782)) none)) (cond (Nat.blt k 117) (cond (Nat.beq k 114) (some (1, 322, 0, 2641)) none) (cond (Nat.beq k 117) (some (1, 325, 1, 2705)) none)))) (cond (Nat.blt k 132) (cond (Nat.blt k 124) (cond (Nat.blt k 121) (cond (Nat.beq k 120) (some (5, 37612, 0, 2717)) none) (cond (Nat.beq k 121) (some (1, 333, 1, 2697)) none)) (cond (Nat.blt k 128) (cond (Nat.beq k 124) (some (1, 332, 2, 2701)) none) (cond (Nat.beq k 128) (some (1, 330, 2, 2372)) none))) (cond (Nat.blt k 138) (cond (Nat.blt k 135) (cond (Nat.beq k 132) (some (1, 334, 0, 2709)) none) (cond (Nat.beq k 135) (some (1, 336, 0, 2713)) none)) (cond (Nat.blt k 139) (cond (Nat.beq k 138) (some (5, 37420, 0, 2864)) none) (cond (Nat.beq k 139) (some (1, 340, 2, 2869)) none))))) (cond (Nat.blt k 163) (cond (Nat.blt k 151) (cond (Nat.blt k 144) (cond (Nat.beq k 142) (some (6, 18446744073709551615, 0, 2550)) none) (cond (Nat.blt k 147) (cond (Nat.beq k 144) (some (1, 308, 1, 2470)) none) (cond (Nat.beq k 147) (some (1, 345, 1, 2478)) none))) (cond (Nat.blt k 157) (cond (Nat.blt k 154) (cond (Nat.beq k 151) (some (1, 305, 2, 2426)) none) (cond (Nat.beq k 154) (some (1, 313, 1, 2502)) none)) (cond (Nat.blt k 160) (cond (Nat.beq k 157) (some (1, 346, 1, 2494)) none) (cond (Nat.beq k 160) (some (1, 348, 1, 2498)) none)))) (cond (Nat.blt k 176) (cond (Nat.blt k 170) (cond (Nat.blt k 166) (cond (Nat.beq k 163) (some (1, 347, 0, 2514)) none) (cond (Nat.beq k 166) (some (1, 350, 2, 2530)) none)) (cond (Nat.blt k 173) (cond (Nat.beq k 170) (some (1, 351, 2, 2526)) none) (cond (Nat.beq k 173) (some (1, 310, 0, 2546)) none))) (cond (Nat.blt k 181) (cond (Nat.blt k 179) (cond (Nat.beq k 176) (some (1, 352, 1, 2522)) none) (cond (Nat.beq k 179) (some (6, 2, 0, 2533)) none)) (cond (Nat.blt k 185) (cond (Nat.beq k 181) (some (1, 353, 0, 2534)) none) (cond (Nat.beq k 185) (some (1, 309, 1, 2538)) none))))))) (cond (Nat.blt k 276) (cond (Nat.blt k 232) (cond (Nat.blt k 211) (cond (Nat.blt k 197) (cond (Nat.blt k 192) (cond (Nat.beq k 188) (some (1, 354, 1, 2542)) none) (cond (Nat.blt k 195) (cond (Nat.beq k 192) (some (1, 343, 1, 2555)) none) (cond (Nat.beq k 195) (some (6, 256, 0, 2584)) none))) (cond (Nat.blt k 204) (cond (Nat.blt k 201) (cond (Nat.beq k 197) (some (1, 298, 2, 2563)) none) (cond (Nat.beq k 201) (some (1, 357, 1, 2580)) none)) (cond (Nat.blt k 208) (cond (Nat.beq k 204) (some (1, 358, 1, 2585)) none) (cond (Nat.beq k 208) (some (1, 360, 2, 2589)) none)))) (cond (Nat.blt k 220) (cond (Nat.blt k 215) (cond (Nat.blt k 213) (cond (Nat.beq k 211) (some (6, 10, 0, 2614)) none) (cond (Nat.beq k 213) (some (6, 48, 0, 2615)) none)) (cond (Nat.blt k 217) (cond (Nat.beq k 215) (some (6, 65, 0, 2616)) none) (cond (Nat.beq k 217) (some (1, 342, 0, 2601)) none))) (cond (Nat.blt k 226) (cond (Nat.blt k 223) (cond (Nat.beq k 220) (some (1, 362, 1, 2611)) none) (cond (Nat.beq k 223) (some (1, 361, 1, 2629)) none)) (cond (Nat.blt k 229) (cond (Nat.beq k 226) (some (1, 315, 1, 2605)) none) (cond (Nat.beq k 229) (some (1, 364, 1, 2597)) none))))) (cond (Nat.blt k 254) (cond (Nat.blt k 242) (cond (Nat.blt k 235) (cond (Nat.beq k 232) (some (1, 366, 1, 2617)) none) (cond (Nat.blt k 239) (cond (Nat.beq k 235) (some (1, 365, 2, 2621)) none) (cond (Nat.beq k 239) (some (1, 363, 1, 2625)) none))) (cond (Nat.blt k 248) (cond (Nat.blt k 245) (cond (Nat.beq k 242) (some (0, 12, 8, 2252)) none) (cond (Nat.beq k 245) (some (1, 344, 1, 2466)) none)) (cond (Nat.blt k 251) (cond (Nat.beq k 248) (some (1, 349, 1, 2490)) none) (cond (Nat.beq k 251) (some (1, 355, 1, 2518)) none)))) (cond (Nat.blt k 266) (cond (Nat.blt k 260) (cond (Nat.blt k 257) (cond (Nat.beq k 254) (some (1, 356, 1, 2551)) none) (cond (Nat.beq k 257) (some (1, 359, 1, 2559)) none)) (cond (Nat.blt k 263) (cond (Nat.beq k 260) (some (1, 367, 1, 2593)) none) (cond (Nat.beq k 263) (some (1, 323, 1, 2810)) none))) (cond (Nat.blt k 272) (cond (Nat.blt k 269) (cond (Nat.beq k 266) (some (1, 369, 0, 2814)) none) (cond (Nat.beq k 269) (some (1, 370, 1, 2770)) none)) (cond (Nat.blt k 274) (cond (Nat.beq k 272) (some (6, 128, 0, 2818)) none) (cond (Nat.beq k 274) (some (6, 512, 0, 2823)) none)))))) (cond (Nat.blt k 321) (cond (Nat.blt k 298) (cond (Nat.blt k 288) (cond (Nat.blt k 279) (cond (Nat.beq k 276) (some (1, 329, 0, 2778)) none) (cond (Nat.blt k 284) (cond (Nat.beq k 279) (some (1, 501, 0, 2833)) none) (cond (Nat.beq k 284) (some (1, 502, 1, 2371)) none))) (cond (Nat.blt k 294) (cond (Nat.blt k 290) (cond (Nat.beq k 288) (some (7, 10, 0, 2828)) none) (cond (Nat.beq k 290) (some (1, 375, 1, 2829)) none)) (cond (Nat.blt k 296) (cond (Nat.beq k 294) (some (7, 11, 0, 2834)) none) (cond (Nat.beq k 296) (some (7, 12, 0, 2835)) none)))) (cond (Nat.blt k 308) (cond (Nat.blt k 304) (cond (Nat.blt k 301) (cond (Nat.beq k 298) (some (1, 331, 0, 2637)) none) (cond (Nat.beq k 301) (some (1, 377, 0, 2668)) none)) (cond (Nat.blt k 305) (cond (Nat.beq k 304) (some (5, 39112, 0, 2672)) none) (cond (Nat.beq k 305) (some (1, 378, 0, 2664)) none))) (cond (Nat.blt k 314) (cond (Nat.blt k 311) (cond (Nat.beq k 308) (some (1, 374, 0, 2798)) none) (cond (Nat.beq k 311) (some (1, 382, 2, 2802)) none)) (cond (Nat.blt k 318) (cond (Nat.beq k 314) (some (1, 326, 1, 2446)) none) (cond (Nat.beq k 318) (some (1, 373, 0, 2774)) none))))) (cond (Nat.blt k 346) (cond (Nat.blt k 334) (cond (Nat.blt k 327) (cond (Nat.blt k 324) (cond (Nat.beq k 321) (some (1, 338, 0, 2722)) none) (cond (Nat.beq k 324) (some (1, 441, 1, 2726)) none)) (cond (Nat.blt k 330) (cond (Nat.beq k 327) (some (1, 335, 2, 2766)) none) (cond (Nat.beq k 330) (some (1, 337, 2, 2693)) none))) (cond (Nat.blt k 340) (cond (Nat.blt k 337) (cond (Nat.beq k 334) (some (1, 384, 1, 2718)) none) (cond (Nat.beq k 337) (some (1, 383, 0, 2790)) none)) (cond (Nat.blt k 343) (cond (Nat.beq k 340) (some (1, 381, 1, 2794)) none) (cond (Nat.beq k 343) (some (1, 371, 1, 2806)) none)))) (cond (Nat.blt k 359) (cond (Nat.blt k 352) (cond (Nat.blt k 349) (cond (Nat.beq k 346) (some (1, 372, 0, 2819)) none) (cond (Nat.beq k 349) (some (1, 376, 0, 2824)) none)) (cond (Nat.blt k 356) (cond (Nat.beq k 352) (some (1, 339, 3, 2860)) none) (cond (Nat.beq k 356) (some (1, 386, 0, 2873)) none))) (cond (Nat.blt k 365) (cond (Nat.blt k 362) (cond (Nat.beq k 359) (some (1, 391, 3, 2893)) none) (cond (Nat.beq k 362) (some (1, 387, 1, 2856)) none)) (cond (Nat.blt k 368) (cond (Nat.beq k 365) (some (1, 388, 0, 2865)) none) (cond (Nat.beq k 368) (some (1, 390, 1, 2877)) none)))))))) (cond (Nat.blt k 553) (cond (Nat.blt k 463) (cond (Nat.blt k 417) (cond (Nat.blt k 392) (cond (Nat.blt k 380) (cond (Nat.blt k 374) (cond (Nat.beq k 371) (some (1, 341, 1, 2881)) none) (cond (Nat.blt k 377) (cond (Nat.beq k 374) (some (1, 389, 0, 2885)) none) (cond (Nat.beq k 377) (some (1, 392, 1, 2889)) none))) (cond (Nat.blt k 386) (cond (Nat.blt k 383) (cond (Nat.beq k 380) (some (1, 393, 0, 2897)) none) (cond (Nat.beq k 383) (some (1, 395, 0, 2901)) none)) (cond (Nat.blt k 389) (cond (Nat.beq k 386) (some (1, 400, 1, 2454)) none) (cond (Nat.beq k 389) (some (1, 397, 1, 2947)) none)))) (cond (Nat.blt k 405) (cond (Nat.blt k 399) (cond (Nat.blt k 396) (cond (Nat.beq k 392) (some (1, 379, 2, 2951)) none) (cond (Nat.beq k 396) (some (1, 314, 1, 2685)) none)) (cond (Nat.blt k 402) (cond (Nat.beq k 399) (some (1, 398, 1, 2458)) none) (cond (Nat.beq k 402) (some (1, 368, 1, 2462)) none))) (cond (Nat.blt k 411) (cond (Nat.blt k 408) (cond (Nat.beq k 405) (some (1, 380, 1, 2633)) none) (cond (Nat.beq k 408) (some (1, 401, 1, 2673)) none)) (cond (Nat.blt k 414) (cond (Nat.beq k 411) (some (1, 385, 1, 2689)) none) (cond (Nat.beq k 414) (some (1, 406, 1, 2836)) none))))) (cond (Nat.blt k 438) (cond (Nat.blt k 426) (cond (Nat.blt k 420) (cond (Nat.beq k 417) (some (1, 394, 1, 2852)) none) (cond (Nat.blt k 423) (cond (Nat.beq k 420) (some (1, 413, 1, 2905)) none) (cond (Nat.beq k 423) (some (1, 418, 1, 2909)) none))) (cond (Nat.blt k 432) (cond (Nat.blt k 429) (cond (Nat.beq k 426) (some (1, 421, 1, 2941)) none) (cond (Nat.beq k 429) (some (1, 402, 3, 2677)) none)) (cond (Nat.blt k 435) (cond (Nat.beq k 432) (some (1, 396, 2, 2450)) none) (cond (Nat.beq k 435) (some (1, 317, 0, 2681)) none)))) (cond (Nat.blt k 450) (cond (Nat.blt k 444) (cond (Nat.blt k 441) (cond (Nat.beq k 438) (some (1, 405, 0, 2840)) none) (cond (Nat.beq k 441) (some (1, 403, 0, 2844)) none)) (cond (Nat.blt k 447) (cond (Nat.beq k 444) (some (1, 404, 1, 2848)) none) (cond (Nat.beq k 447) (some (1, 410, 3, 2978)) none))) (cond (Nat.blt k 457) (cond (Nat.blt k 453) (cond (Nat.beq k 450) (some (1, 407, 2, 2982)) none) (cond (Nat.beq k 453) (some (1, 408, 3, 2986)) none)) (cond (Nat.blt k 460) (cond (Nat.beq k 457) (some (1, 412, 3, 2990)) none) (cond (Nat.beq k 460) (some (1, 411, 2, 2994)) none)))))) (cond (Nat.blt k 507) (cond (Nat.blt k 484) (cond (Nat.blt k 472) (cond (Nat.blt k 466) (cond (Nat.beq k 463) (some (1, 414, 1, 2408)) none) (cond (Nat.blt k 469) (cond (Nat.beq k 466) (some (1, 416, 1, 2913)) none) (cond (Nat.beq k 469) (some (1, 415, 0, 2917)) none))) (cond (Nat.blt k 478) (cond (Nat.blt k 475) (cond (Nat.beq k 472) (some (1, 422, 0, 2925)) none) (cond (Nat.beq k 475) (some (1, 417, 1, 2921)) none)) (cond (Nat.blt k 481) (cond (Nat.beq k 478) (some (1, 419, 0, 2937)) none) (cond (Nat.beq k 481) (some (1, 420, 0, 2422)) none)))) (cond (Nat.blt k 493) (cond (Nat.blt k 487) (cond (Nat.blt k 486) (cond (Nat.beq k 484) (some (6, 7, 0, 2945)) none) (cond (Nat.beq k 486) (some (5, 37356, 0, 2946)) none)) (cond (Nat.blt k 490) (cond (Nat.beq k 487) (some (1, 423, 1, 2929)) none) (cond (Nat.beq k 490) (some (1, 424, 1, 2933)) none))) (cond (Nat.blt k 500) (cond (Nat.blt k 497) (cond (Nat.beq k 493) (some (0, 12, 11, 2255)) none) (cond (Nat.beq k 497) (some (0, 12, 14, 2258)) none)) (cond (Nat.blt k 504) (cond (Nat.beq k 500) (some (0, 12, 13, 2257)) none) (cond (Nat.beq k 504) (some (0, 12, 12, 2256)) none))))) (cond (Nat.blt k 529) (cond (Nat.blt k 519) (cond (Nat.blt k 513) (cond (Nat.blt k 510) (cond (Nat.beq k 507) (some (1, 425, 1, 2971)) none) (cond (Nat.beq k 510) (some (1, 428, 0, 2959)) none)) (cond (Nat.blt k 516) (cond (Nat.beq k 513) (some (1, 399, 1, 2963)) none) (cond (Nat.beq k 516) (some (1, 426, 0, 2967)) none))) (cond (Nat.blt k 525) (cond (Nat.blt k 522) (cond (Nat.beq k 519) (some (1, 427, 0, 2955)) none) (cond (Nat.beq k 522) (some (1, 409, 1, 2974)) none)) (cond (Nat.blt k 526) (cond (Nat.beq k 525) (some (5, 39700, 0, 2369)) none) (cond (Nat.beq k 526) (some (1, 430, 1, 2404)) none)))) (cond (Nat.blt k 541) (cond (Nat.blt k 535) (cond (Nat.blt k 532) (cond (Nat.beq k 529) (some (1, 429, 0, 2418)) none) (cond (Nat.beq k 532) (some (0, 12, 19, 2263)) none)) (cond (Nat.blt k 538) (cond (Nat.beq k 535) (some (0, 12, 20, 2264)) none) (cond (Nat.beq k 538) (some (0, 12, 17, 2261)) none))) (cond (Nat.blt k 547) (cond (Nat.blt k 544) (cond (Nat.beq k 541) (some (0, 12, 18, 2262)) none) (cond (Nat.beq k 544) (some (1, 432, 2, 2750)) none)) (cond (Nat.blt k 550) (cond (Nat.beq k 547) (some (0, 12, 16, 2260)) none) (cond (Nat.beq k 550) (some (0, 12, 15, 2259)) none))))))) (cond (Nat.blt k 648) (cond (Nat.blt k 606) (cond (Nat.blt k 577) (cond (Nat.blt k 562) (cond (Nat.blt k 556) (cond (Nat.beq k 553) (some (0, 12, 21, 2265)) none) (cond (Nat.blt k 559) (cond (Nat.beq k 556) (some (0, 12, 23, 2267)) none) (cond (Nat.beq k 559) (some (0, 12, 24, 2268)) none))) (cond (Nat.blt k 569) (cond (Nat.blt k 566) (cond (Nat.beq k 562) (some (1, 437, 5, 2734)) none) (cond (Nat.beq k 566) (some (0, 12, 22, 2266)) none)) (cond (Nat.blt k 573) (cond (Nat.beq k 569) (some (1, 439, 9, 2738)) none) (cond (Nat.beq k 573) (some (1, 433, 5, 2758)) none)))) (cond (Nat.blt k 591) (cond (Nat.blt k 584) (cond (Nat.blt k 581) (cond (Nat.beq k 577) (some (1, 435, 3, 2754)) none) (cond (Nat.beq k 581) (some (1, 438, 5, 2762)) none)) (cond (Nat.blt k 588) (cond (Nat.beq k 584) (some (1, 436, 4, 2746)) none) (cond (Nat.beq k 588) (some (1, 440, 5, 2742)) none))) (cond (Nat.blt k 599) (cond (Nat.blt k 595) (cond (Nat.beq k 591) (some (1, 434, 4, 2730)) none) (cond (Nat.beq k 595) (some (0, 12, 25, 2269)) none)) (cond (Nat.blt k 603) (cond (Nat.beq k 599) (some (1, 456, 3, 2354)) none) (cond (Nat.beq k 603) (some (1, 447, 3, 3074)) none))))) (cond (Nat.blt k 628) (cond (Nat.blt k 616) (cond (Nat.blt k 609) (cond (Nat.beq k 606) (some (1, 443, 2, 3078)) none) (cond (Nat.blt k 612) (cond (Nat.beq k 609) (some (1, 445, 1, 3082)) none) (cond (Nat.beq k 612) (some (1, 444, 4, 3085)) none))) (cond (Nat.blt k 622) (cond (Nat.blt k 619) (cond (Nat.beq k 616) (some (1, 446, 1, 3089)) none) (cond (Nat.beq k 619) (some (0, 12, 34, 2278)) none)) (cond (Nat.blt k 625) (cond (Nat.beq k 622) (some (0, 12, 32, 2276)) none) (cond (Nat.beq k 625) (some (0, 12, 33, 2277)) none)))) (cond (Nat.blt k 640) (cond (Nat.blt k 634) (cond (Nat.blt k 631) (cond (Nat.beq k 628) (some (0, 12, 27, 2271)) none) (cond (Nat.beq k 631) (some (1, 450, 1, 3104)) none)) (cond (Nat.blt k 637) (cond (Nat.beq k 634) (some (0, 12, 7, 2251)) none) (cond (Nat.beq k 637) (some (1, 449, 1, 3096)) none))) (cond (Nat.blt k 644) (cond (Nat.blt k 643) (cond (Nat.beq k 640) (some (0, 12, 26, 2270)) none) (cond (Nat.beq k 643) (some (5, 16777216, 0, 3112)) none)) (cond (Nat.blt k 645) (cond (Nat.beq k 644) (some (5, 285212672, 0, 3113)) none) (cond (Nat.beq k 645) (some (0, 12, 28, 2272)) none)))))) (cond (Nat.blt k 685) (cond (Nat.blt k 661) (cond (Nat.blt k 655) (cond (Nat.blt k 649) (cond (Nat.beq k 648) (some (5, 16777215, 0, 3135)) none) (cond (Nat.blt k 652) (cond (Nat.beq k 649) (some (0, 12, 30, 2274)) none) (cond (Nat.beq k 652) (some (1, 454, 0, 3136)) none))) (cond (Nat.blt k 657) (cond (Nat.blt k 656) (cond (Nat.beq k 655) (some (5, 238201, 0, 3140)) none) (cond (Nat.beq k 656) (some (5, 238204, 0, 3141)) none)) (cond (Nat.blt k 658) (cond (Nat.beq k 657) (some (5, 238200, 0, 3142)) none) (cond (Nat.beq k 658) (some (0, 12, 29, 2273)) none)))) (cond (Nat.blt k 674) (cond (Nat.blt k 669) (cond (Nat.blt k 664) (cond (Nat.beq k 661) (some (0, 12, 31, 2275)) none) (cond (Nat.beq k 664) (some (9, 0, 0, 2242)) none)) (cond (Nat.blt k 670) (cond (Nat.beq k 669) (some (5, 238220, 0, 2243)) none) (cond (Nat.beq k 670) (some (0, 12, 1, 2245)) none))) (cond (Nat.blt k 680) (cond (Nat.blt k 677) (cond (Nat.beq k 674) (some (0, 12, 2, 2246)) none) (cond (Nat.beq k 677) (some (1, 461, 0, 2365)) none)) (cond (Nat.blt k 682) (cond (Nat.beq k 680) (some (7, 9, 0, 2370)) none) (cond (Nat.beq k 682) (some (1, 460, 0, 2396)) none))))) (cond (Nat.blt k 709) (cond (Nat.blt k 697) (cond (Nat.blt k 691) (cond (Nat.blt k 688) (cond (Nat.beq k 685) (some (1, 457, 1, 2400)) none) (cond (Nat.beq k 688) (some (1, 431, 2, 2414)) none)) (cond (Nat.blt k 694) (cond (Nat.beq k 691) (some (1, 473, 2, 3038)) none) (cond (Nat.beq k 694) (some (1, 477, 2, 3054)) none))) (cond (Nat.blt k 703) (cond (Nat.blt k 700) (cond (Nat.beq k 697) (some (1, 442, 1, 3066)) none) (cond (Nat.beq k 700) (some (1, 448, 2, 3070)) none)) (cond (Nat.blt k 706) (cond (Nat.beq k 703) (some (1, 451, 1, 3100)) none) (cond (Nat.beq k 706) (some (1, 452, 1, 3108)) none)))) (cond (Nat.blt k 717) (cond (Nat.blt k 713) (cond (Nat.blt k 710) (cond (Nat.beq k 709) (some (5, 198500, 0, 3114)) none) (cond (Nat.beq k 710) (some (1, 483, 0, 3123)) none)) (cond (Nat.blt k 716) (cond (Nat.beq k 713) (some (1, 453, 0, 3131)) none) (cond (Nat.beq k 716) (some (5, 229192, 0, 3147)) none))) (cond (Nat.blt k 721) (cond (Nat.blt k 718) (cond (Nat.beq k 717) (some (5, 198600, 0, 3156)) none) (cond (Nat.beq k 718) (some (1, 490, 2, 3165)) none)) (cond (Nat.blt k 725) (cond (Nat.beq k 721) (some (1, 493, 4, 3177)) none) (cond (Nat.beq k 725) (some (1, 495, 2, 3180)) none))))))))
def zlk_12 : Nat → Option (Nat × Nat × Nat × Nat) := fun k => cond (Nat.blt k 1060) (zlkT_12 k) none
def zlkT_13 : Nat → Option (Nat × Nat × Nat × Nat) := fun k => cond (Nat.blt k 76) (cond (Nat.blt k 41) (cond (Nat.blt k 24) (cond (Nat.blt k 13) (cond (Nat.blt k 10) (cond (Nat.blt k 9) (cond (Nat.beq k 7) (some (3, 11, 0, 282)) none) (cond (Nat.beq k 9) (some (1, 253, 0, 284)) none)) (cond (Nat.blt k 12) (cond (Nat.beq k 10) (some (3, 12, 0, 2237)) none) (cond (Nat.beq k 12) (some (1, 455, 0, 2239)) none))) (cond (Nat.blt k 19) (cond (Nat.blt k 15) (cond (Nat.beq k 13) (some (6, 4294967295, 0, 3184)) none) (cond (Nat.beq k 15) (some (1, 254, 2, 988)) none)) (cond (Nat.blt k 20) (cond (Nat.beq k 19) (some (1, 458, 2, 2350)) none) (cond (Nat.beq k 20) (some (1, 255, 0, 992)) none)))) (cond (Nat.blt k 33) (cond (Nat.blt k 29) (cond (Nat.blt k 25) (cond (Nat.beq k 24) (some (1, 459, 0, 2357)) none) (cond (Nat.beq k 25) (some (1, 256, 2, 996)) none)) (cond (Nat.blt k 30) (cond (Nat.beq k 29) (some (1, 462, 2, 2361)) none) (cond (Nat.beq k 30) (some (1, 257, 2, 1008)) none))) (cond (Nat.blt k 37) (cond (Nat.blt k 34) (cond (Nat.beq k 33) (some (1, 463, 2, 2392)) none) (cond (Nat.beq k 34) (some (1, 258, 2, 1866)) none)) (cond (Nat.blt k 38) (cond (Nat.beq k 37) (some (1, 464, 2, 2998)) none) (cond (Nat.beq k 38) (some (1, 259, 2, 1870)) none))))) (cond (Nat.blt k 59) (cond (Nat.blt k 49) (cond (Nat.blt k 45) (cond (Nat.blt k 42) (cond (Nat.beq k 41) (some (1, 465, 2, 3002)) none) (cond (Nat.beq k 42) (some (1, 260, 2, 1878)) none)) (cond (Nat.blt k 46) (cond (Nat.beq k 45) (some (1, 466, 2, 3006)) none) (cond (Nat.beq k 46) (some (1, 261, 2, 1886)) none))) (cond (Nat.blt k 54) (cond (Nat.blt k 50) (cond (Nat.beq k 49) (some (1, 467, 2, 3010)) none) (cond (Nat.beq k 50) (some (1, 262, 3, 1890)) none)) (cond (Nat.blt k 55) (cond (Nat.beq k 54) (some (1, 468, 3, 3014)) none) (cond (Nat.beq k 55) (some (1, 263, 4, 1902)) none)))) (cond (Nat.blt k 67) (cond (Nat.blt k 63) (cond (Nat.blt k 60) (cond (Nat.beq k 59) (some (1, 469, 4, 3018)) none) (cond (Nat.beq k 60) (some (1, 264, 2, 1910)) none)) (cond (Nat.blt k 64) (cond (Nat.beq k 63) (some (1, 470, 2, 3022)) none) (cond (Nat.beq k 64) (some (1, 265, 3, 1914)) none))) (cond (Nat.blt k 72) (cond (Nat.blt k 68) (cond (Nat.beq k 67) (some (1, 471, 3, 3026)) none) (cond (Nat.beq k 68) (some (1, 266, 1, 1921)) none)) (cond (Nat.blt k 73) (cond (Nat.beq k 72) (some (1, 472, 1, 3030)) none) (cond (Nat.beq k 73) (some (1, 267, 3, 1926)) none)))))) (cond (Nat.blt k 108) (cond (Nat.blt k 92) (cond (Nat.blt k 84) (cond (Nat.blt k 80) (cond (Nat.blt k 77) (cond (Nat.beq k 76) (some (1, 474, 3, 3034)) none) (cond (Nat.beq k 77) (some (1, 268, 3, 1934)) none)) (cond (Nat.blt k 81) (cond (Nat.beq k 80) (some (1, 475, 3, 3042)) none) (cond (Nat.beq k 81) (some (1, 269, 3, 1942)) none))) (cond (Nat.blt k 88) (cond (Nat.blt k 85) (cond (Nat.beq k 84) (some (1, 476, 3, 3046)) none) (cond (Nat.beq k 85) (some (1, 270, 2, 1947)) none)) (cond (Nat.blt k 89) (cond (Nat.beq k 88) (some (1, 478, 2, 3050)) none) (cond (Nat.beq k 89) (some (1, 271, 3, 1952)) none)))) (cond (Nat.blt k 100) (cond (Nat.blt k 96) (cond (Nat.blt k 93) (cond (Nat.beq k 92) (some (1, 479, 3, 3058)) none) (cond (Nat.beq k 93) (some (1, 272, 2, 1956)) none)) (cond (Nat.blt k 97) (cond (Nat.beq k 96) (some (1, 480, 2, 3062)) none) (cond (Nat.beq k 97) (some (1, 273, 2, 2013)) none))) (cond (Nat.blt k 104) (cond (Nat.blt k 101) (cond (Nat.beq k 100) (some (1, 481, 2, 3092)) none) (cond (Nat.beq k 101) (some (1, 274, 1, 2072)) none)) (cond (Nat.blt k 105) (cond (Nat.beq k 104) (some (1, 482, 1, 3115)) none) (cond (Nat.beq k 105) (some (1, 275, 1, 2080)) none))))) (cond (Nat.blt k 124) (cond (Nat.blt k 116) (cond (Nat.blt k 112) (cond (Nat.blt k 109) (cond (Nat.beq k 108) (some (1, 484, 1, 3119)) none) (cond (Nat.beq k 109) (some (1, 276, 1, 2089)) none)) (cond (Nat.blt k 113) (cond (Nat.beq k 112) (some (1, 485, 1, 3127)) none) (cond (Nat.beq k 113) (some (1, 277, 1, 2113)) none))) (cond (Nat.blt k 120) (cond (Nat.blt k 117) (cond (Nat.beq k 116) (some (1, 486, 1, 3143)) none) (cond (Nat.beq k 117) (some (1, 278, 1, 2122)) none)) (cond (Nat.blt k 121) (cond (Nat.beq k 120) (some (1, 487, 1, 3148)) none) (cond (Nat.beq k 121) (some (1, 279, 1, 2126)) none)))) (cond (Nat.blt k 132) (cond (Nat.blt k 128) (cond (Nat.blt k 125) (cond (Nat.beq k 124) (some (1, 488, 1, 3152)) none) (cond (Nat.beq k 125) (some (1, 280, 3, 2130)) none)) (cond (Nat.blt k 129) (cond (Nat.beq k 128) (some (1, 489, 3, 3157)) none) (cond (Nat.beq k 129) (some (1, 281, 2, 2134)) none))) (cond (Nat.blt k 136) (cond (Nat.blt k 133) (cond (Nat.beq k 132) (some (1, 491, 2, 3161)) none) (cond (Nat.beq k 133) (some (1, 282, 2, 2185)) none)) (cond (Nat.blt k 137) (cond (Nat.beq k 136) (some (1, 492, 2, 3169)) none) (cond (Nat.blt k 141) (cond (Nat.beq k 137) (some (1, 283, 2, 2189)) none) (cond (Nat.beq k 141) (some (1, 494, 2, 3173)) none)))))))
def zlk_13 : Nat → Option (Nat × Nat × Nat × Nat) := fun k => cond (Nat.blt k 1060) (zlkT_13 k) none
def zlkT_14 : Nat → Option (Nat × Nat × Nat × Nat) := fun k => none
def zlk_14 : Nat → Option (Nat × Nat × Nat × Nat) := fun k => cond (Nat.blt k 1060) (zlkT_14 k) none
def zlkT_15 : Nat → Option (Nat × Nat × Nat × Nat) := fun k => cond (Nat.beq k 13) (some (1, 511, 3, 1455)) none
def zlk_15 : Nat → Option (Nat × Nat × Nat × Nat) := fun k => cond (Nat.blt k 1060) (zlkT_15 k) none
def zlkT_16 : Nat → Option (Nat × Nat × Nat × Nat) := fun k => cond (Nat.blt k 492) (cond (Nat.blt k 38) (cond (Nat.blt k 15) (cond (Nat.beq k 9) (some (11, 0, 0, 3185)) none) (cond (Nat.beq k 15) (some (11, 1, 0, 3186)) none)) (cond (Nat.blt k 335) (cond (Nat.beq k 38) (some (12, 0, 0, 478)) none) (cond (Nat.beq k 335) (some (1, 503, 0, 474)) none))) (cond (Nat.blt k 498) (cond (Nat.blt k 495) (cond (Nat.beq k 492) (some (1, 504, 0, 484)) none) (cond (Nat.beq k 495) (some (1, 506, 2, 488)) none)) (cond (Nat.blt k 1053) (cond (Nat.beq k 498) (some (1, 509, 2, 499)) none) (cond (Nat.blt k 1059) (cond (Nat.beq k 1053) (some (13, 0, 0, 494)) none) (cond (Nat.beq k 1059) (some (1, 515, 3, 496)) none))))
def zlk_16 : Nat → Option (Nat × Nat × Nat × Nat) := fun k => cond (Nat.blt k 1060) (zlkT_16 k) none
def zlkT_17 : Nat → Option (Nat × Nat × Nat × Nat) := fun k => cond (Nat.beq k 9) (some (1, 505, 2, 491)) none
def zlk_17 : Nat → Option (Nat × Nat × Nat × Nat) := fun k => cond (Nat.blt k 1060) (zlkT_17 k) none
def zlkT_18 : Nat → Option (Nat × Nat × Nat × Nat) := fun k => cond (Nat.blt k 71) (cond (Nat.blt k 67) (cond (Nat.beq k 48) (some (1, 508, 1, 505)) none) (cond (Nat.beq k 67) (some (1, 510, 2, 502)) none)) (cond (Nat.blt k 414) (cond (Nat.beq k 71) (some (1, 507, 2, 509)) none) (cond (Nat.beq k 414) (some (1, 505, 2, 508)) none))
def zlk_18 : Nat → Option (Nat × Nat × Nat × Nat) := fun k => cond (Nat.blt k 1060) (zlkT_18 k) none
def zlkT_19 : Nat → Option (Nat × Nat × Nat × Nat) := fun k => none
def zlk_19 : Nat → Option (Nat × Nat × Nat × Nat) := fun k => cond (Nat.blt k 1060) (zlkT_19 k) none
def zlkT_20 : Nat → Option (Nat × Nat × Nat × Nat) := fun k => none
def zlk_20 : Nat → Option (Nat × Nat × Nat × Nat) := fun k => cond (Nat.blt k 1060) (zlkT_20 k) none
def zlk : Nat → Nat → Option (Nat × Nat × Nat × Nat) := fun o => cond (Nat.blt o 10) (cond (Nat.blt o 5) (cond (Nat.blt o 2) (cond (Nat.blt o 1) (cond (Nat.beq o 0) (zlk_0) (fun _ => none)) (cond (Nat.beq o 1) (zlk_1) (fun _ => none))) (cond (Nat.blt o 3) (cond (Nat.beq o 2) (zlk_2) (fun _ => none)) (cond (Nat.blt o 4) (cond (Nat.beq o 3) (zlk_3) (fun _ => none)) (cond (Nat.beq o 4) (zlk_4) (fun _ => none))))) (cond (Nat.blt o 7) (cond (Nat.blt o 6) (cond (Nat.beq o 5) (zlk_5) (fun _ => none)) (cond (Nat.beq o 6) (zlk_6) (fun _ => none))) (cond (Nat.blt o 8) (cond (Nat.beq o 7) (zlk_7) (fun _ => none)) (cond (Nat.blt o 9) (cond (Nat.beq o 8) (zlk_8) (fun _ => none)) (cond (Nat.beq o 9) (zlk_9) (fun _ => none)))))) (cond (Nat.blt o 15) (cond (Nat.blt o 12) (cond (Nat.blt o 11) (cond (Nat.beq o 10) (zlk_10) (fun _ => none)) (cond (Nat.beq o 11) (zlk_11) (fun _ => none))) (cond (Nat.blt o 13) (cond (Nat.beq o 12) (zlk_12) (fun _ => none)) (cond (Nat.blt o 14) (cond (Nat.beq o 13) (zlk_13) (fun _ => none)) (cond (Nat.beq o 14) (zlk_14) (fun _ => none))))) (cond (Nat.blt o 18) (cond (Nat.blt o 16) (cond (Nat.beq o 15) (zlk_15) (fun _ => none)) (cond (Nat.blt o 17) (cond (Nat.beq o 16) (zlk_16) (fun _ => none)) (cond (Nat.beq o 17) (zlk_17) (fun _ => none)))) (cond (Nat.blt o 19) (cond (Nat.beq o 18) (zlk_18) (fun _ => none)) (cond (Nat.blt o 20) (cond (Nat.beq o 19) (zlk_19) (fun _ => none)) (cond (Nat.beq o 20) (zlk_20) (fun _ => none))))))
/-- the word that stands behind a link -/
def zlkw (own : String) (k : Nat) (r : Nat × Nat × Nat × Nat) : Option Cond := match r with
  | (0, ci, j, _) => match zcls[ci]? with
    | some q => if j < q.2.2 then some (.fieldLink own k (q.2.1 j).1 (q.2.1 j).2.1 (q.2.1 j).2.2.1) else none
    | none => none
  | (1, a, _, _) => some (.methodLink own k (zmn a))
  | (2, a, _, _) => some (.methodLinkNest own k (zmn a) "ForthHouse")
  | (3, ci, _, _) => match zcls[ci]? with
    | some q => some (.classLink own k q.1)
    | none => none
  | (5, a, _, _) => some (.constant own k (Int32.ofNat a))
  | (6, a, _, _) => some (.constantLong own k (Int64.ofNat a))
  | (8, a, _, _) => some (.fieldLinkNest own k "ForthHouse" (if a = 13 then "TAKES" else if a = 14 then "LEAVES" else "TRAITS") "[B" "ForthHouse")
  | (9, _, _, _) => some (.methodLink own k objectInit)
  | (10, _, _, _) => some (.methodLink own k arraycopyName)
  | (11, 0, _, _) => some (.fieldLink own k "java/lang/String" "value" "[B")
  | (11, 1, _, _) => some (.fieldLink own k "java/lang/String" "coder" "B")
  | (12, _, _, _) => some (.fieldLink own k "java/lang/String" "COMPACT_STRINGS" "Z")
  | (13, _, _, _) => some (.fieldLink own k "jdk/internal/util/Preconditions" "SIOOBE_FORMATTER" "Ljava/util/function/BiFunction;")
  | _ => none
def zsel : List Cond → Nat → List Nat → List Cond
  | [], _, _ => []
  | _ :: _, _, [] => []
  | a :: l, i, p :: ps => cond (Nat.beq i p) (a :: zsel l (i + 1) ps) (zsel l (i + 1) (p :: ps))
theorem zsel_mem {w : Cond} : ∀ (l : List Cond) (i : Nat) (ps : List Nat), w ∈ zsel l i ps → w ∈ l := by
  intro l
  induction l with
  | nil => intro i ps h; cases ps <;> simp [zsel] at h
  | cons a l ih =>
    intro i ps h
    cases ps with
    | nil => simp [zsel] at h
    | cons p ps =>
      unfold zsel at h
      cases hq : Nat.beq i p with
      | true =>
        rw [hq] at h
        rcases List.mem_cons.mp h with h | h
        · exact h ▸ List.mem_cons_self
        · exact List.mem_cons_of_mem _ (ih _ _ h)
      | false =>
        rw [hq] at h
        exact List.mem_cons_of_mem _ (ih _ _ h)
/-- the links to members of the nest's host -/
def zN : List Cond := lw_tbl.filter fun w => match w with
  | .methodLinkNest _ _ _ _ => true
  | .fieldLinkNest _ _ _ _ _ _ => true
  | _ => false
def znest (w : Cond) : Bool := match w with
  | .methodLinkNest _ _ _ _ => true
  | .fieldLinkNest _ _ _ _ _ _ => true
  | _ => false
abbrev zKE : Type := Nat × (Nat × Nat × Nat × Nat)
def zlkE (own : String) (es : List zKE) : List (Option Cond) := es.map fun q => zlkw own q.1 q.2
theorem zlk_gen {f : Nat → Option (Nat × Nat × Nat × Nat)} {own : String} (es : List zKE) (ps : List Nat) (h1 : zlkE own es = (zsel lw_tbl 0 ps).map some) (h2 : ((List.range 1060).all fun k => match f k with | some r => r.1 == 7 || es.contains (k, r) | none => true) = true) (h3 : (es.all fun q => match zlkw own q.1 q.2 with | some w => goodWord w || znest w | none => false) = true) (hf : ∀ k, ¬ k < 1060 → f k = none) :
    ∀ k r, f k = some r → r.1 ≠ 7 → ∃ w, zlkw own k r = some w ∧ (w ∈ zW ∨ (w ∈ zN ∧ znest w = true)) := by
  intro k r hr h7
  have hm : (k, r) ∈ es := by
    by_cases hk : k < 1060
    · have := List.all_eq_true.mp h2 k (List.mem_range.mpr hk)
      rw [hr] at this
      simp only [Bool.or_eq_true, beq_iff_eq] at this
      rcases this with q | q
      · exact absurd q h7
      · simpa using q
    · rw [hf k hk] at hr; cases hr
  have h4 := List.all_eq_true.mp h3 (k, r) hm
  cases hw : zlkw own k r with
  | none =>
    rw [hw] at h4
    cases h4
  | some w =>
    rw [hw] at h4
    refine ⟨w, rfl, ?_⟩
    have h5 : some w ∈ (zsel lw_tbl 0 ps).map some := by
      rw [← h1, ← hw]
      exact List.mem_map.mpr ⟨(k, r), hm, rfl⟩
    obtain ⟨w', h6, h8⟩ := List.mem_map.mp h5
    cases h8
    have h9 := zsel_mem _ _ _ h6
    simp only [Bool.or_eq_true] at h4
    rcases h4 with q | q
    · exact Or.inl (List.mem_filter.mpr ⟨h9, q⟩)
    · refine Or.inr ⟨List.mem_filter.mpr ⟨h9, ?_⟩, q⟩
      cases w <;> simp [znest] at q <;> rfl
theorem zlk_no {g : Nat → Option (Nat × Nat × Nat × Nat)} (k : Nat) (h : ¬ k < 1060) : cond (Nat.blt k 1060) (g k) none = none := by
  have : Nat.blt k 1060 = false := by
    cases hq : Nat.blt k 1060 with
    | false => rfl
    | true => exact absurd (Nat.le_of_ble_eq_true hq) h
  rw [this]
  rfl
def zes_0 : List zKE := [(3, 9, 0, 0, 297), (15, 3, 7, 0, 298), (17, 2, 158, 0, 300), (22, 3, 8, 0, 333), (24, 1, 175, 1, 335), (146, 0, 8, 7, 351), (187, 0, 8, 8, 354), (190, 0, 8, 9, 356), (193, 0, 8, 10, 358), (177, 0, 8, 11, 360), (73, 0, 8, 13, 365), (9, 0, 0, 0, 414), (40, 0, 0, 1, 416), (18, 0, 0, 2, 417), (27, 0, 0, 3, 419), (47, 0, 0, 4, 421), (50, 0, 0, 5, 423), (53, 0, 0, 6, 424), (31, 0, 0, 7, 425), (34, 0, 0, 8, 426), (37, 0, 0, 9, 427), (60, 0, 0, 10, 428), (125, 0, 10, 0, 529), (99, 0, 10, 3, 536), (102, 0, 10, 4, 540), (129, 0, 10, 5, 542), (117, 0, 2, 0, 598), (121, 0, 2, 1, 603), (67, 0, 1, 0, 899), (86, 0, 1, 1, 902), (105, 0, 1, 2, 905), (44, 1, 178, 0, 2021), (56, 1, 4, 2, 2022), (76, 1, 512, 2, 2026), (82, 1, 3, 1, 2029), (89, 1, 246, 1, 2033), (95, 1, 244, 2, 2034), (109, 1, 82, 1, 2035), (114, 1, 5, 2, 2036), (124, 1, 242, 1, 2040), (126, 1, 6, 1, 2041), (63, 1, 7, 2, 2044), (132, 1, 9, 1, 2048), (141, 5, 16777216, 0, 2052), (142, 1, 10, 1, 2053), (135, 1, 8, 2, 2057), (145, 5, 285212672, 0, 2061), (138, 1, 86, 1, 2062), (70, 1, 159, 1, 2063), (149, 1, 185, 1, 2088), (153, 1, 13, 1, 2097), (157, 1, 1, 1, 2101), (158, 1, 219, 2, 2102), (162, 1, 194, 1, 2103), (165, 8, 13, 0, 2104), (168, 8, 14, 0, 2105), (171, 1, 181, 2, 2106), (174, 1, 199, 1, 2107), (180, 1, 196, 0, 2108), (184, 1, 14, 0, 2109), (196, 1, 179, 1, 2121)]
set_option maxRecDepth 100000 in
theorem zlk_0_ok : ∀ k r, zlk_0 k = some r → r.1 ≠ 7 → ∃ w, zlkw (zown 0) k r = some w ∧ (w ∈ zW ∨ (w ∈ zN ∧ znest w = true)) := zlk_gen zes_0 [297, 298, 300, 333, 335, 351, 354, 356, 358, 360, 365, 414, 416, 417, 419, 421, 423, 424, 425, 426, 427, 428, 529, 536, 540, 542, 598, 603, 899, 902, 905, 2021, 2022, 2026, 2029, 2033, 2034, 2035, 2036, 2040, 2041, 2044, 2048, 2052, 2053, 2057, 2061, 2062, 2063, 2088, 2097, 2101, 2102, 2103, 2104, 2105, 2106, 2107, 2108, 2109, 2121] (by decide +kernel) (by decide +kernel) (by decide +kernel) (fun k h => zlk_no (g := zlkT_0) k h)
def zes_1 : List zKE := [(348, 0, 7, 0, 306), (90, 0, 7, 1, 308), (93, 0, 7, 2, 312), (160, 0, 7, 3, 315), (511, 0, 7, 4, 318), (414, 0, 8, 5, 346), (286, 0, 8, 6, 348), (562, 0, 8, 7, 352), (484, 0, 8, 11, 361), (292, 0, 8, 12, 363), (298, 0, 8, 13, 366), (87, 0, 8, 14, 367), (444, 0, 8, 15, 372), (237, 0, 8, 16, 374), (244, 0, 8, 17, 376), (3, 9, 0, 0, 456), (9, 3, 7, 0, 457), (11, 2, 158, 0, 458), (18, 3, 10, 0, 459), (20, 1, 238, 0, 461), (450, 0, 10, 0, 531), (430, 0, 10, 3, 537), (329, 0, 10, 5, 543), (163, 0, 10, 12, 559), (188, 0, 10, 13, 561), (25, 3, 2, 0, 591), (27, 2, 79, 0, 593), (305, 0, 2, 0, 601), (302, 0, 2, 1, 606), (166, 0, 2, 2, 610), (32, 3, 9, 0, 619), (34, 1, 225, 1, 621), (385, 0, 9, 6, 636), (362, 0, 9, 7, 638), (365, 0, 9, 8, 640), (194, 0, 9, 10, 643), (185, 0, 9, 11, 646), (41, 3, 5, 0, 681), (43, 1, 120, 1, 683), (168, 0, 5, 1, 689), (602, 0, 5, 2, 691), (438, 0, 5, 3, 693), (209, 0, 5, 4, 695), (427, 0, 5, 5, 697), (624, 0, 5, 7, 700), (191, 0, 5, 12, 706), (50, 3, 4, 0, 740), (52, 1, 111, 0, 742), (197, 0, 4, 0, 747), (173, 0, 4, 1, 749), (172, 0, 4, 2, 751), (176, 0, 4, 3, 753), (487, 0, 4, 4, 755), (493, 0, 4, 5, 757), (496, 0, 4, 7, 760), (490, 0, 4, 8, 762), (57, 3, 6, 0, 791), (59, 2, 147, 0, 793), (167, 0, 6, 1, 799), (695, 0, 6, 3, 802), (179, 0, 6, 6, 806), (182, 0, 6, 7, 808), (64, 3, 3, 0, 826), (66, 1, 89, 3, 828), (73, 3, 8, 0, 895), (86, 1, 175, 1, 897), (12, 0, 1, 0, 898), (21, 0, 1, 1, 901), (28, 0, 1, 2, 904), (37, 0, 1, 3, 907), (46, 0, 1, 4, 909), (53, 0, 1, 5, 910), (60, 0, 1, 6, 911), (69, 0, 1, 7, 913), (75, 0, 1, 8, 915), (123, 0, 1, 9, 917), (126, 0, 1, 10, 918), (129, 0, 1, 11, 919), (132, 0, 1, 12, 921), (135, 0, 1, 13, 923), (79, 0, 1, 14, 925), (268, 0, 1, 15, 926), (83, 0, 1, 16, 927), (215, 0, 1, 17, 928), (96, 1, 169, 2, 1004), (218, 1, 27, 0, 1036), (233, 1, 25, 0, 1040), (240, 1, 29, 1, 1044), (271, 1, 242, 1, 1048), (275, 1, 28, 2, 1052), (247, 1, 30, 1, 1056), (279, 1, 31, 1, 1060), (282, 1, 181, 2, 1064), (289, 1, 182, 1, 1068), (250, 1, 192, 0, 1072), (253, 1, 33, 1, 1080), (301, 1, 82, 1, 1084), (309, 1, 34, 2, 1088), (325, 1, 245, 2, 1092), (331, 1, 196, 0, 1097), (313, 1, 66, 1, 1106), (334, 1, 183, 0, 1110), (316, 1, 84, 2, 1114), (319, 1, 35, 1, 1118), (337, 1, 165, 1, 1122), (341, 1, 36, 2, 1126), (345, 1, 166, 2, 1130), (351, 1, 153, 3, 1135), (322, 1, 219, 2, 1151), (256, 1, 32, 1, 1190), (295, 1, 195, 0, 1194), (259, 1, 24, 0, 1195), (262, 1, 37, 0, 1199), (355, 1, 233, 1, 1203), (359, 1, 38, 0, 1218), (388, 1, 231, 2, 1222), (201, 1, 162, 0, 1226), (368, 1, 130, 3, 1230), (372, 1, 21, 2, 1241), (205, 1, 250, 4, 1245), (376, 1, 39, 0, 1250), (391, 1, 41, 2, 1254), (401, 1, 164, 1, 1258), (405, 1, 163, 0, 1259), (408, 1, 83, 1, 1260), (395, 1, 173, 0, 1264), (398, 1, 40, 1, 1269), (379, 1, 244, 2, 1272), (382, 8, 15, 0, 1276), (265, 1, 44, 1, 1277), (424, 1, 178, 0, 1281), (447, 1, 45, 0, 1285), (222, 1, 46, 0, 1289), (451, 1, 194, 1, 1293), (454, 1, 48, 2, 1301), (460, 1, 47, 2, 1305), (457, 1, 49, 2, 1309), (212, 1, 22, 0, 1313), (499, 1, 119, 1, 1317), (463, 8, 13, 0, 1322), (466, 8, 14, 0, 1324), (469, 1, 199, 1, 1326), (472, 1, 50, 2, 1476), (501, 1, 51, 2, 1480), (524, 1, 154, 2, 1484), (505, 1, 151, 1, 1496), (508, 1, 152, 1, 1497), (514, 1, 52, 2, 1502), (527, 1, 189, 0, 1506), (530, 2, 292, 2, 1507), (534, 1, 155, 1, 1508), (521, 1, 174, 1, 1509), (538, 1, 187, 1, 1513), (517, 1, 188, 0, 1514), (475, 1, 53, 2, 1515), (541, 1, 54, 1, 1519), (544, 1, 55, 1, 1523), (599, 1, 243, 0, 1527), (605, 1, 248, 5, 1531), (609, 1, 123, 2, 1536), (547, 1, 56, 1, 1540), (612, 1, 127, 0, 1544), (615, 1, 57, 0, 1552), (565, 1, 125, 0, 1556), (618, 1, 249, 2, 1560), (550, 1, 61, 2, 1564), (553, 1, 62, 1, 1568), (633, 1, 170, 1, 1572), (634, 1, 118, 3, 1573), (556, 1, 63, 0, 1577), (621, 1, 247, 2, 1581), (559, 1, 64, 2, 1585), (568, 1, 65, 1, 1589), (571, 1, 60, 0, 1593), (630, 1, 129, 1, 1597), (574, 1, 67, 2, 1601), (577, 1, 235, 2, 1605), (637, 10, 0, 0, 1609), (580, 1, 236, 1, 1610), (584, 1, 68, 0, 1619), (643, 1, 128, 1, 1623), (646, 1, 237, 2, 1624), (649, 1, 69, 2, 1628), (656, 1, 132, 1, 1632), (652, 1, 131, 3, 1637), (587, 1, 58, 0, 1642), (590, 1, 59, 0, 1646), (627, 1, 85, 1, 1650), (593, 1, 71, 1, 1655), (659, 1, 72, 4, 1659), (663, 1, 193, 1, 1663), (665, 1, 230, 3, 1664), (596, 1, 70, 2, 1668), (478, 1, 136, 1, 1672), (481, 1, 73, 2, 1735), (668, 1, 74, 1, 1739), (421, 1, 168, 1, 1743), (671, 1, 115, 1, 1744), (674, 1, 116, 0, 1748), (677, 1, 117, 0, 1752), (680, 1, 114, 0, 1756), (683, 1, 75, 1, 1760), (686, 1, 76, 1, 1764), (704, 1, 186, 1, 1768), (689, 1, 77, 1, 1769), (692, 1, 78, 1, 1773), (698, 1, 156, 1, 1777), (701, 1, 157, 1, 1781), (225, 1, 90, 1, 1785), (229, 1, 42, 1, 1845), (411, 1, 197, 0, 1849), (417, 1, 198, 2, 1853), (418, 1, 43, 1, 1857), (433, 1, 499, 2, 1861), (441, 1, 124, 0, 1862), (100, 1, 159, 1, 2142), (103, 1, 240, 1, 2143), (106, 1, 80, 1, 2151), (108, 1, 226, 1, 2157), (111, 1, 121, 1, 2163), (114, 1, 112, 1, 2169), (117, 1, 148, 1, 2174), (120, 1, 176, 1, 2180), (138, 1, 177, 1, 2197), (142, 1, 160, 1, 2204), (145, 1, 241, 1, 2211), (148, 1, 81, 1, 2217), (151, 1, 227, 1, 2223), (154, 1, 122, 1, 2228), (157, 1, 113, 1, 2232)]
set_option maxRecDepth 100000 in
theorem zlk_1_ok : ∀ k r, zlk_1 k = some r → r.1 ≠ 7 → ∃ w, zlkw (zown 1) k r = some w ∧ (w ∈ zW ∨ (w ∈ zN ∧ znest w = true)) := zlk_gen zes_1 [306, 308, 312, 315, 318, 346, 348, 352, 361, 363, 366, 367, 372, 374, 376, 456, 457, 458, 459, 461, 531, 537, 543, 559, 561, 591, 593, 601, 606, 610, 619, 621, 636, 638, 640, 643, 646, 681, 683, 689, 691, 693, 695, 697, 700, 706, 740, 742, 747, 749, 751, 753, 755, 757, 760, 762, 791, 793, 799, 802, 806, 808, 826, 828, 895, 897, 898, 901, 904, 907, 909, 910, 911, 913, 915, 917, 918, 919, 921, 923, 925, 926, 927, 928, 1004, 1036, 1040, 1044, 1048, 1052, 1056, 1060, 1064, 1068, 1072, 1080, 1084, 1088, 1092, 1097, 1106, 1110, 1114, 1118, 1122, 1126, 1130, 1135, 1151, 1190, 1194, 1195, 1199, 1203, 1218, 1222, 1226, 1230, 1241, 1245, 1250, 1254, 1258, 1259, 1260, 1264, 1269, 1272, 1276, 1277, 1281, 1285, 1289, 1293, 1301, 1305, 1309, 1313, 1317, 1322, 1324, 1326, 1476, 1480, 1484, 1496, 1497, 1502, 1506, 1507, 1508, 1509, 1513, 1514, 1515, 1519, 1523, 1527, 1531, 1536, 1540, 1544, 1552, 1556, 1560, 1564, 1568, 1572, 1573, 1577, 1581, 1585, 1589, 1593, 1597, 1601, 1605, 1609, 1610, 1619, 1623, 1624, 1628, 1632, 1637, 1642, 1646, 1650, 1655, 1659, 1663, 1664, 1668, 1672, 1735, 1739, 1743, 1744, 1748, 1752, 1756, 1760, 1764, 1768, 1769, 1773, 1777, 1781, 1785, 1845, 1849, 1853, 1857, 1861, 1862, 2142, 2143, 2151, 2157, 2163, 2169, 2174, 2180, 2197, 2204, 2211, 2217, 2223, 2228, 2232] (by decide +kernel) (by decide +kernel) (by decide +kernel) (fun k h => zlk_no (g := zlkT_1) k h)
def zes_2 : List zKE := [(3, 9, 0, 0, 596), (9, 0, 2, 0, 597), (15, 0, 2, 1, 602), (27, 0, 2, 2, 608), (39, 1, 82, 1, 1654), (19, 2, 290, 2, 2155), (23, 2, 289, 2, 2156), (31, 2, 288, 3, 2221), (35, 2, 287, 4, 2222)]
set_option maxRecDepth 100000 in
theorem zlk_2_ok : ∀ k r, zlk_2 k = some r → r.1 ≠ 7 → ∃ w, zlkw (zown 2) k r = some w ∧ (w ∈ zW ∨ (w ∈ zN ∧ znest w = true)) := zlk_gen zes_2 [596, 597, 602, 608, 1654, 2155, 2156, 2221, 2222] (by decide +kernel) (by decide +kernel) (by decide +kernel) (fun k h => zlk_no (g := zlkT_2) k h)
def zes_3 : List zKE := [(169, 0, 10, 0, 530), (52, 0, 10, 3, 535), (58, 0, 10, 4, 539), (104, 0, 10, 8, 547), (107, 0, 10, 9, 550), (110, 0, 10, 10, 553), (113, 0, 10, 11, 556), (143, 0, 2, 0, 599), (140, 0, 2, 1, 604), (61, 0, 2, 2, 609), (3, 9, 0, 0, 831), (33, 3, 8, 0, 832), (35, 1, 175, 1, 833), (25, 0, 3, 0, 834), (29, 0, 3, 1, 835), (38, 0, 3, 2, 836), (9, 0, 3, 3, 837), (15, 0, 3, 4, 838), (18, 0, 3, 5, 839), (21, 0, 3, 6, 840), (48, 0, 3, 7, 841), (55, 0, 3, 8, 842), (72, 0, 3, 9, 843), (122, 0, 3, 10, 844), (85, 0, 3, 11, 845), (116, 0, 3, 12, 846), (88, 0, 3, 13, 847), (94, 0, 3, 14, 848), (119, 0, 3, 15, 849), (75, 0, 3, 16, 850), (79, 0, 3, 17, 851), (91, 0, 3, 18, 852), (97, 0, 3, 19, 853), (42, 1, 246, 1, 1789), (66, 1, 499, 2, 1795), (82, 1, 91, 0, 1796), (125, 1, 94, 4, 1800), (129, 1, 92, 0, 1804), (133, 1, 98, 1, 1808), (146, 1, 245, 2, 1812), (150, 1, 101, 2, 1813), (163, 1, 97, 1, 1817), (100, 1, 93, 2, 1821), (170, 8, 15, 0, 1825), (173, 8, 13, 0, 1826), (137, 1, 95, 2, 1827), (176, 8, 14, 0, 1831), (153, 1, 100, 2, 1832), (166, 1, 242, 1, 1836), (156, 1, 96, 3, 1837), (160, 1, 99, 2, 1841), (179, 1, 244, 2, 1964), (182, 1, 88, 2, 1965), (183, 1, 104, 0, 1974), (186, 1, 105, 0, 1978), (205, 1, 86, 1, 1982), (189, 1, 110, 2, 1986), (192, 1, 106, 1, 1990), (208, 1, 87, 2, 1994), (195, 1, 107, 1, 1998), (198, 1, 109, 3, 2001), (211, 1, 178, 0, 2005), (214, 1, 182, 1, 2006), (217, 1, 205, 1, 2007), (221, 1, 210, 1, 2008), (224, 1, 183, 0, 2009), (202, 1, 108, 1, 2010)]
set_option maxRecDepth 100000 in
theorem zlk_3_ok : ∀ k r, zlk_3 k = some r → r.1 ≠ 7 → ∃ w, zlkw (zown 3) k r = some w ∧ (w ∈ zW ∨ (w ∈ zN ∧ znest w = true)) := zlk_gen zes_3 [530, 535, 539, 547, 550, 553, 556, 599, 604, 609, 831, 832, 833, 834, 835, 836, 837, 838, 839, 840, 841, 842, 843, 844, 845, 846, 847, 848, 849, 850, 851, 852, 853, 1789, 1795, 1796, 1800, 1804, 1808, 1812, 1813, 1817, 1821, 1825, 1826, 1827, 1831, 1832, 1836, 1837, 1841, 1964, 1965, 1974, 1978, 1982, 1986, 1990, 1994, 1998, 2001, 2005, 2006, 2007, 2008, 2009, 2010] (by decide +kernel) (by decide +kernel) (by decide +kernel) (fun k h => zlk_no (g := zlkT_3) k h)
def zes_4 : List zKE := [(3, 9, 0, 0, 745), (9, 0, 4, 0, 746), (15, 0, 4, 1, 748), (19, 0, 4, 2, 750), (22, 0, 4, 3, 752), (50, 0, 4, 4, 754), (25, 0, 4, 5, 756), (28, 0, 4, 6, 758), (31, 0, 4, 7, 759), (34, 0, 4, 8, 761), (37, 0, 4, 9, 763), (40, 0, 4, 10, 764), (43, 0, 4, 11, 765), (57, 10, 0, 0, 1321), (46, 2, 289, 2, 2173), (53, 2, 287, 4, 2236)]
set_option maxRecDepth 100000 in
theorem zlk_4_ok : ∀ k r, zlk_4 k = some r → r.1 ≠ 7 → ∃ w, zlkw (zown 4) k r = some w ∧ (w ∈ zW ∨ (w ∈ zN ∧ znest w = true)) := zlk_gen zes_4 [745, 746, 748, 750, 752, 754, 756, 758, 759, 761, 763, 764, 765, 1321, 2173, 2236] (by decide +kernel) (by decide +kernel) (by decide +kernel) (fun k h => zlk_no (g := zlkT_4) k h)
def zes_5 : List zKE := [(151, 0, 2, 1, 607), (95, 0, 2, 2, 611), (3, 9, 0, 0, 686), (40, 0, 5, 0, 687), (44, 0, 5, 1, 688), (48, 0, 5, 2, 690), (51, 0, 5, 3, 692), (55, 0, 5, 4, 694), (9, 0, 5, 5, 696), (15, 0, 5, 6, 698), (18, 0, 5, 7, 699), (21, 0, 5, 8, 701), (24, 0, 5, 9, 702), (27, 0, 5, 10, 703), (31, 0, 5, 11, 704), (66, 0, 5, 12, 705), (34, 0, 5, 13, 707), (37, 0, 5, 14, 708), (73, 1, 128, 1, 1234), (77, 2, 291, 5, 1238), (69, 1, 126, 0, 1548), (87, 1, 129, 1, 1636), (81, 10, 0, 0, 1641), (91, 1, 138, 2, 1676), (132, 1, 83, 1, 1680), (128, 1, 135, 3, 1681), (135, 1, 84, 2, 1685), (100, 1, 137, 2, 1686), (103, 1, 139, 0, 1690), (138, 1, 133, 1, 1694), (141, 1, 134, 1, 1698), (144, 1, 85, 1, 1702), (106, 1, 140, 2, 1703), (109, 1, 141, 1, 1707), (113, 1, 142, 0, 1711), (116, 1, 143, 0, 1715), (119, 1, 144, 1, 1719), (147, 1, 88, 2, 1723), (122, 1, 145, 0, 1727), (125, 1, 146, 0, 1731), (58, 2, 289, 2, 2167), (62, 2, 290, 2, 2168)]
set_option maxRecDepth 100000 in
theorem zlk_5_ok : ∀ k r, zlk_5 k = some r → r.1 ≠ 7 → ∃ w, zlkw (zown 5) k r = some w ∧ (w ∈ zW ∨ (w ∈ zN ∧ znest w = true)) := zlk_gen zes_5 [607, 611, 686, 687, 688, 690, 692, 694, 696, 698, 699, 701, 702, 703, 704, 705, 707, 708, 1234, 1238, 1548, 1636, 1641, 1676, 1680, 1681, 1685, 1686, 1690, 1694, 1698, 1702, 1703, 1707, 1711, 1715, 1719, 1723, 1727, 1731, 2167, 2168] (by decide +kernel) (by decide +kernel) (by decide +kernel) (fun k h => zlk_no (g := zlkT_5) k h)
def zes_6 : List zKE := [(89, 0, 8, 1, 341), (84, 0, 8, 7, 350), (3, 9, 0, 0, 796), (9, 0, 6, 0, 797), (26, 0, 6, 1, 798), (15, 0, 6, 2, 800), (30, 0, 6, 3, 801), (18, 0, 6, 4, 803), (37, 0, 6, 5, 804), (40, 0, 6, 6, 805), (43, 0, 6, 7, 807), (51, 1, 498, 2, 1139), (57, 1, 499, 2, 1142), (66, 10, 0, 0, 1145), (47, 1, 150, 1, 1146), (46, 5, 2147483647, 0, 1150), (72, 1, 497, 1, 1488), (76, 1, 155, 1, 1489), (80, 1, 151, 1, 1492), (60, 1, 514, 4, 1501), (22, 2, 290, 2, 2178), (33, 2, 289, 2, 2179)]
set_option maxRecDepth 100000 in
theorem zlk_6_ok : ∀ k r, zlk_6 k = some r → r.1 ≠ 7 → ∃ w, zlkw (zown 6) k r = some w ∧ (w ∈ zW ∨ (w ∈ zN ∧ znest w = true)) := zlk_gen zes_6 [341, 350, 796, 797, 798, 800, 801, 803, 804, 805, 807, 1139, 1142, 1145, 1146, 1150, 1488, 1489, 1492, 1501, 2178, 2179] (by decide +kernel) (by decide +kernel) (by decide +kernel) (fun k h => zlk_no (g := zlkT_6) k h)
def zes_7 : List zKE := [(3, 9, 0, 0, 303), (9, 0, 7, 0, 304), (26, 0, 7, 1, 309), (29, 0, 7, 2, 313), (15, 0, 7, 3, 314), (19, 0, 7, 4, 317), (36, 6, 4096, 0, 1134), (46, 1, 168, 1, 1268), (38, 6, 256, 0, 1432), (40, 1, 498, 2, 1446), (22, 2, 290, 2, 2067), (32, 2, 288, 3, 2208)]
set_option maxRecDepth 100000 in
theorem zlk_7_ok : ∀ k r, zlk_7 k = some r → r.1 ≠ 7 → ∃ w, zlkw (zown 7) k r = some w ∧ (w ∈ zW ∨ (w ∈ zN ∧ znest w = true)) := zlk_gen zes_7 [303, 304, 309, 313, 314, 317, 1134, 1268, 1432, 1446, 2067, 2208] (by decide +kernel) (by decide +kernel) (by decide +kernel) (fun k h => zlk_no (g := zlkT_7) k h)
def zes_8 : List zKE := [(246, 0, 7, 0, 307), (218, 0, 7, 1, 311), (212, 0, 7, 3, 316), (3, 9, 0, 0, 338), (37, 0, 8, 0, 339), (9, 0, 8, 1, 340), (15, 0, 8, 2, 342), (18, 0, 8, 3, 343), (21, 0, 8, 4, 344), (24, 0, 8, 5, 345), (27, 0, 8, 6, 347), (45, 0, 8, 7, 349), (48, 0, 8, 8, 353), (51, 0, 8, 9, 355), (54, 0, 8, 10, 357), (57, 0, 8, 11, 359), (60, 0, 8, 12, 362), (30, 0, 8, 13, 364), (63, 0, 8, 14, 368), (66, 0, 8, 15, 370), (34, 0, 8, 16, 373), (69, 0, 8, 17, 375), (98, 1, 191, 1, 1076), (106, 1, 192, 0, 1101), (109, 1, 195, 0, 1102), (83, 1, 182, 1, 1155), (91, 1, 183, 0, 1156), (267, 1, 220, 2, 1157), (270, 1, 221, 2, 1161), (87, 1, 163, 0, 1165), (77, 1, 164, 1, 1169), (273, 1, 222, 1, 1173), (136, 1, 184, 1, 1177), (276, 1, 223, 2, 1181), (279, 1, 224, 2, 1185), (282, 1, 181, 2, 1189), (102, 1, 193, 1, 1297), (118, 1, 200, 1, 1330), (139, 1, 190, 1, 1334), (142, 1, 201, 0, 1338), (145, 1, 202, 1, 1342), (94, 1, 165, 1, 1346), (121, 1, 203, 1, 1347), (148, 1, 204, 3, 1351), (124, 1, 205, 1, 1355), (152, 1, 185, 1, 1359), (155, 1, 207, 2, 1363), (183, 1, 161, 0, 1367), (187, 1, 496, 2, 1371), (158, 6, 2, 0, 1374), (160, 1, 497, 1, 1375), (112, 1, 499, 2, 1378), (164, 1, 498, 2, 1379), (167, 1, 187, 1, 1380), (170, 1, 208, 1, 1384), (191, 1, 189, 0, 1388), (194, 2, 292, 2, 1392), (173, 1, 209, 2, 1395), (179, 1, 188, 0, 1399), (176, 1, 206, 1, 1403), (127, 1, 210, 1, 1407), (197, 8, 13, 0, 1411), (201, 1, 186, 1, 1412), (205, 1, 211, 2, 1416), (209, 1, 212, 1, 1420), (130, 1, 213, 1, 1424), (215, 1, 171, 1, 1428), (221, 1, 214, 2, 1433), (243, 1, 170, 1, 1437), (249, 1, 169, 2, 1441), (224, 1, 172, 1, 1442), (227, 1, 215, 1, 1447), (233, 1, 166, 2, 1451), (253, 1, 514, 4, 1452), (230, 1, 216, 1, 1458), (258, 10, 0, 0, 1462), (237, 1, 167, 1, 1463), (240, 1, 217, 2, 1467), (264, 1, 168, 1, 1471), (133, 1, 218, 1, 1472), (41, 2, 289, 2, 2184), (73, 2, 287, 4, 2201)]
set_option maxRecDepth 100000 in
theorem zlk_8_ok : ∀ k r, zlk_8 k = some r → r.1 ≠ 7 → ∃ w, zlkw (zown 8) k r = some w ∧ (w ∈ zW ∨ (w ∈ zN ∧ znest w = true)) := zlk_gen zes_8 [307, 311, 316, 338, 339, 340, 342, 343, 344, 345, 347, 349, 353, 355, 357, 359, 362, 364, 368, 370, 373, 375, 1076, 1101, 1102, 1155, 1156, 1157, 1161, 1165, 1169, 1173, 1177, 1181, 1185, 1189, 1297, 1330, 1334, 1338, 1342, 1346, 1347, 1351, 1355, 1359, 1363, 1367, 1371, 1374, 1375, 1378, 1379, 1380, 1384, 1388, 1392, 1395, 1399, 1403, 1407, 1411, 1412, 1416, 1420, 1424, 1428, 1433, 1437, 1441, 1442, 1447, 1451, 1452, 1458, 1462, 1463, 1467, 1471, 1472, 2184, 2201] (by decide +kernel) (by decide +kernel) (by decide +kernel) (fun k h => zlk_no (g := zlkT_8) k h)
def zes_9 : List zKE := [(79, 0, 7, 0, 305), (3, 9, 0, 0, 624), (38, 1, 513, 2, 625), (34, 0, 9, 0, 628), (9, 0, 9, 1, 629), (15, 0, 9, 2, 630), (18, 0, 9, 3, 632), (22, 0, 9, 4, 633), (25, 0, 9, 5, 634), (28, 0, 9, 6, 635), (31, 0, 9, 7, 637), (98, 0, 9, 8, 639), (55, 0, 9, 9, 641), (59, 0, 9, 10, 642), (62, 0, 9, 11, 644), (44, 0, 9, 12, 647), (73, 0, 9, 13, 648), (76, 0, 9, 14, 649), (84, 10, 0, 0, 1024), (90, 1, 169, 2, 1027), (66, 1, 228, 0, 1028), (94, 1, 168, 1, 1207), (101, 1, 165, 1, 1211), (105, 1, 500, 2, 1212), (111, 1, 234, 1, 1215), (115, 1, 232, 0, 1614), (119, 1, 235, 2, 1618), (47, 2, 290, 2, 2161), (51, 2, 289, 2, 2162), (69, 2, 288, 3, 2227)]
set_option maxRecDepth 100000 in
theorem zlk_9_ok : ∀ k r, zlk_9 k = some r → r.1 ≠ 7 → ∃ w, zlkw (zown 9) k r = some w ∧ (w ∈ zW ∨ (w ∈ zN ∧ znest w = true)) := zlk_gen zes_9 [305, 624, 625, 628, 629, 630, 632, 633, 634, 635, 637, 639, 641, 642, 644, 647, 648, 649, 1024, 1027, 1028, 1207, 1211, 1212, 1215, 1614, 1618, 2161, 2162, 2227] (by decide +kernel) (by decide +kernel) (by decide +kernel) (fun k h => zlk_no (g := zlkT_9) k h)
def zes_10 : List zKE := [(3, 9, 0, 0, 464), (55, 1, 239, 1, 466), (75, 1, 501, 0, 470), (81, 1, 502, 1, 480), (88, 8, 15, 0, 518), (9, 0, 10, 0, 528), (15, 0, 10, 1, 532), (18, 0, 10, 2, 533), (21, 0, 10, 3, 534), (25, 0, 10, 4, 538), (28, 0, 10, 5, 541), (31, 0, 10, 6, 544), (34, 0, 10, 7, 545), (37, 0, 10, 8, 546), (40, 0, 10, 9, 549), (43, 0, 10, 10, 552), (46, 0, 10, 11, 555), (85, 0, 10, 12, 558), (49, 0, 10, 13, 560), (106, 1, 242, 1, 1096), (123, 2, 291, 5, 1249), (117, 10, 0, 0, 1535), (110, 1, 245, 2, 1793), (114, 1, 244, 2, 1794), (91, 2, 290, 2, 2147), (95, 2, 289, 2, 2148), (99, 1, 251, 2, 2215), (103, 1, 252, 2, 2216)]
set_option maxRecDepth 100000 in
theorem zlk_10_ok : ∀ k r, zlk_10 k = some r → r.1 ≠ 7 → ∃ w, zlkw (zown 10) k r = some w ∧ (w ∈ zW ∨ (w ∈ zN ∧ znest w = true)) := zlk_gen zes_10 [464, 466, 470, 480, 518, 528, 532, 533, 534, 538, 541, 544, 545, 546, 549, 552, 555, 558, 560, 1096, 1249, 1535, 1793, 1794, 2147, 2148, 2215, 2216] (by decide +kernel) (by decide +kernel) (by decide +kernel) (fun k h => zlk_no (g := zlkT_10) k h)
def zes_11 : List zKE := [(1, 9, 0, 0, 287), (13, 3, 1, 0, 290), (26, 3, 0, 0, 292), (28, 2, 0, 0, 294), (119, 0, 7, 1, 310), (109, 0, 8, 14, 369), (112, 0, 8, 15, 371), (201, 0, 0, 0, 415), (214, 0, 0, 2, 418), (209, 0, 0, 3, 420), (213, 0, 0, 4, 422), (33, 1, 16, 0, 453), (168, 0, 10, 8, 548), (171, 0, 10, 9, 551), (174, 0, 10, 10, 554), (177, 0, 10, 11, 557), (158, 0, 2, 0, 600), (161, 0, 2, 1, 605), (215, 0, 9, 2, 631), (61, 0, 9, 11, 645), (115, 0, 1, 0, 900), (138, 0, 1, 1, 903), (150, 0, 1, 2, 906), (57, 0, 1, 3, 908), (75, 0, 1, 6, 912), (180, 0, 1, 7, 914), (232, 0, 1, 8, 916), (87, 0, 1, 11, 920), (90, 0, 1, 12, 922), (93, 0, 1, 13, 924), (9, 0, 11, 0, 966), (34, 0, 11, 1, 967), (15, 0, 11, 2, 968), (38, 0, 11, 3, 969), (19, 0, 11, 4, 970), (22, 0, 11, 5, 971), (29, 0, 11, 6, 972), (41, 1, 17, 2, 1000), (45, 1, 255, 0, 1012), (49, 1, 284, 1, 1013), (53, 1, 286, 1, 1017), (67, 1, 229, 2, 1020), (71, 1, 26, 1, 1032), (79, 1, 149, 1, 1874), (84, 1, 20, 1, 1882), (96, 1, 285, 2, 1894), (100, 1, 179, 1, 1898), (105, 1, 180, 2, 1906), (124, 1, 166, 2, 1918), (128, 1, 167, 1, 1919), (131, 1, 168, 1, 1920), (134, 1, 21, 2, 1925), (142, 1, 251, 2, 1930), (147, 1, 252, 2, 1938), (154, 1, 82, 1, 1946), (165, 1, 246, 1, 1951), (184, 1, 102, 1, 1960), (189, 1, 23, 0, 1966), (193, 1, 103, 1, 1970), (196, 1, 2, 2, 2017), (236, 1, 499, 2, 2070), (218, 10, 0, 0, 2071), (200, 1, 1, 1, 2076), (203, 1, 11, 1, 2084), (206, 1, 12, 1, 2093), (207, 1, 15, 1, 2117), (224, 1, 18, 1, 2138), (228, 1, 19, 1, 2193)]
set_option maxRecDepth 100000 in
theorem zlk_11_ok : ∀ k r, zlk_11 k = some r → r.1 ≠ 7 → ∃ w, zlkw (zown 11) k r = some w ∧ (w ∈ zW ∨ (w ∈ zN ∧ znest w = true)) := zlk_gen zes_11 [287, 290, 292, 294, 310, 369, 371, 415, 418, 420, 422, 453, 548, 551, 554, 557, 600, 605, 631, 645, 900, 903, 906, 908, 912, 914, 916, 920, 922, 924, 966, 967, 968, 969, 970, 971, 972, 1000, 1012, 1013, 1017, 1020, 1032, 1874, 1882, 1894, 1898, 1906, 1918, 1919, 1920, 1925, 1930, 1938, 1946, 1951, 1960, 1966, 1970, 2017, 2070, 2071, 2076, 2084, 2093, 2117, 2138, 2193] (by decide +kernel) (by decide +kernel) (by decide +kernel) (fun k h => zlk_no (g := zlkT_11) k h)
def zes_12 : List zKE := [(664, 9, 0, 0, 2242), (669, 5, 238220, 0, 2243), (28, 0, 12, 0, 2244), (670, 0, 12, 1, 2245), (674, 0, 12, 2, 2246), (32, 0, 12, 3, 2247), (50, 0, 12, 4, 2248), (1, 0, 12, 5, 2249), (25, 0, 12, 6, 2250), (634, 0, 12, 7, 2251), (242, 0, 12, 8, 2252), (101, 0, 12, 9, 2253), (87, 0, 12, 10, 2254), (493, 0, 12, 11, 2255), (504, 0, 12, 12, 2256), (500, 0, 12, 13, 2257), (497, 0, 12, 14, 2258), (550, 0, 12, 15, 2259), (547, 0, 12, 16, 2260), (538, 0, 12, 17, 2261), (541, 0, 12, 18, 2262), (532, 0, 12, 19, 2263), (535, 0, 12, 20, 2264), (553, 0, 12, 21, 2265), (566, 0, 12, 22, 2266), (556, 0, 12, 23, 2267), (559, 0, 12, 24, 2268), (595, 0, 12, 25, 2269), (640, 0, 12, 26, 2270), (628, 0, 12, 27, 2271), (645, 0, 12, 28, 2272), (658, 0, 12, 29, 2273), (649, 0, 12, 30, 2274), (661, 0, 12, 31, 2275), (622, 0, 12, 32, 2276), (625, 0, 12, 33, 2277), (619, 0, 12, 34, 2278), (599, 1, 456, 3, 2354), (677, 1, 461, 0, 2365), (525, 5, 39700, 0, 2369), (284, 1, 502, 1, 2371), (128, 1, 330, 2, 2372), (107, 1, 324, 1, 2376), (90, 1, 303, 2, 2380), (39, 1, 301, 0, 2384), (46, 1, 300, 2, 2388), (682, 1, 460, 0, 2396), (685, 1, 457, 1, 2400), (526, 1, 430, 1, 2404), (463, 1, 414, 1, 2408), (72, 5, 33332, 0, 2412), (73, 6, 4, 0, 2413), (688, 1, 431, 2, 2414), (529, 1, 429, 0, 2418), (481, 1, 420, 0, 2422), (151, 1, 305, 2, 2426), (53, 1, 304, 0, 2430), (56, 1, 307, 1, 2434), (43, 1, 296, 1, 2438), (7, 1, 293, 0, 2442), (314, 1, 326, 1, 2446), (432, 1, 396, 2, 2450), (386, 1, 400, 1, 2454), (399, 1, 398, 1, 2458), (402, 1, 368, 1, 2462), (245, 1, 344, 1, 2466), (144, 1, 308, 1, 2470), (60, 1, 306, 0, 2474), (147, 1, 345, 1, 2478), (17, 1, 295, 1, 2482), (11, 1, 294, 0, 2486), (248, 1, 349, 1, 2490), (157, 1, 346, 1, 2494), (160, 1, 348, 1, 2498), (154, 1, 313, 1, 2502), (63, 1, 311, 0, 2506), (66, 1, 312, 1, 2510), (163, 1, 347, 0, 2514), (251, 1, 355, 1, 2518), (176, 1, 352, 1, 2522), (170, 1, 351, 2, 2526), (166, 1, 350, 2, 2530), (179, 6, 2, 0, 2533), (181, 1, 353, 0, 2534), (185, 1, 309, 1, 2538), (188, 1, 354, 1, 2542), (173, 1, 310, 0, 2546), (142, 6, 18446744073709551615, 0, 2550), (254, 1, 356, 1, 2551), (192, 1, 343, 1, 2555), (257, 1, 359, 1, 2559), (197, 1, 298, 2, 2563), (21, 1, 297, 2, 2567), (15, 6, 4096, 0, 2571), (75, 1, 302, 1, 2572), (35, 1, 299, 1, 2576), (201, 1, 357, 1, 2580), (195, 6, 256, 0, 2584), (204, 1, 358, 1, 2585), (208, 1, 360, 2, 2589), (260, 1, 367, 1, 2593), (229, 1, 364, 1, 2597), (217, 1, 342, 0, 2601), (226, 1, 315, 1, 2605), (70, 5, 34356, 0, 2609), (71, 5, 2147483647, 0, 2610), (220, 1, 362, 1, 2611), (211, 6, 10, 0, 2614), (213, 6, 48, 0, 2615), (215, 6, 65, 0, 2616), (232, 1, 366, 1, 2617), (235, 1, 365, 2, 2621), (239, 1, 363, 1, 2625), (223, 1, 361, 1, 2629), (405, 1, 380, 1, 2633), (298, 1, 331, 0, 2637), (114, 1, 322, 0, 2641), (78, 1, 316, 0, 2645), (81, 1, 318, 1, 2649), (84, 1, 320, 0, 2653), (93, 1, 319, 2, 2657), (97, 1, 321, 1, 2661), (305, 1, 378, 0, 2664), (301, 1, 377, 0, 2668), (304, 5, 39112, 0, 2672), (408, 1, 401, 1, 2673), (429, 1, 402, 3, 2677), (435, 1, 317, 0, 2681), (396, 1, 314, 1, 2685), (411, 1, 385, 1, 2689), (330, 1, 337, 2, 2693), (121, 1, 333, 1, 2697), (124, 1, 332, 2, 2701), (117, 1, 325, 1, 2705), (132, 1, 334, 0, 2709), (135, 1, 336, 0, 2713), (120, 5, 37612, 0, 2717), (334, 1, 384, 1, 2718), (321, 1, 338, 0, 2722), (324, 1, 441, 1, 2726), (591, 1, 434, 4, 2730), (562, 1, 437, 5, 2734), (569, 1, 439, 9, 2738), (588, 1, 440, 5, 2742), (584, 1, 436, 4, 2746), (544, 1, 432, 2, 2750), (577, 1, 435, 3, 2754), (573, 1, 433, 5, 2758), (581, 1, 438, 5, 2762), (327, 1, 335, 2, 2766), (269, 1, 370, 1, 2770), (318, 1, 373, 0, 2774), (276, 1, 329, 0, 2778), (110, 1, 328, 2, 2782), (104, 1, 327, 1, 2786), (337, 1, 383, 0, 2790), (340, 1, 381, 1, 2794), (308, 1, 374, 0, 2798), (311, 1, 382, 2, 2802), (343, 1, 371, 1, 2806), (263, 1, 323, 1, 2810), (266, 1, 369, 0, 2814), (272, 6, 128, 0, 2818), (346, 1, 372, 0, 2819), (274, 6, 512, 0, 2823), (349, 1, 376, 0, 2824), (290, 1, 375, 1, 2829), (279, 1, 501, 0, 2833), (414, 1, 406, 1, 2836), (438, 1, 405, 0, 2840), (441, 1, 403, 0, 2844), (444, 1, 404, 1, 2848), (417, 1, 394, 1, 2852), (362, 1, 387, 1, 2856), (352, 1, 339, 3, 2860), (138, 5, 37420, 0, 2864), (365, 1, 388, 0, 2865), (139, 1, 340, 2, 2869), (356, 1, 386, 0, 2873), (368, 1, 390, 1, 2877), (371, 1, 341, 1, 2881), (374, 1, 389, 0, 2885), (377, 1, 392, 1, 2889), (359, 1, 391, 3, 2893), (380, 1, 393, 0, 2897), (383, 1, 395, 0, 2901), (420, 1, 413, 1, 2905), (423, 1, 418, 1, 2909), (466, 1, 416, 1, 2913), (469, 1, 415, 0, 2917), (475, 1, 417, 1, 2921), (472, 1, 422, 0, 2925), (487, 1, 423, 1, 2929), (490, 1, 424, 1, 2933), (478, 1, 419, 0, 2937), (426, 1, 421, 1, 2941), (484, 6, 7, 0, 2945), (486, 5, 37356, 0, 2946), (389, 1, 397, 1, 2947), (392, 1, 379, 2, 2951), (519, 1, 427, 0, 2955), (510, 1, 428, 0, 2959), (513, 1, 399, 1, 2963), (516, 1, 426, 0, 2967), (507, 1, 425, 1, 2971), (522, 1, 409, 1, 2974), (447, 1, 410, 3, 2978), (450, 1, 407, 2, 2982), (453, 1, 408, 3, 2986), (457, 1, 412, 3, 2990), (460, 1, 411, 2, 2994), (691, 1, 473, 2, 3038), (694, 1, 477, 2, 3054), (697, 1, 442, 1, 3066), (700, 1, 448, 2, 3070), (603, 1, 447, 3, 3074), (606, 1, 443, 2, 3078), (609, 1, 445, 1, 3082), (612, 1, 444, 4, 3085), (616, 1, 446, 1, 3089), (637, 1, 449, 1, 3096), (703, 1, 451, 1, 3100), (631, 1, 450, 1, 3104), (706, 1, 452, 1, 3108), (643, 5, 16777216, 0, 3112), (644, 5, 285212672, 0, 3113), (709, 5, 198500, 0, 3114), (710, 1, 483, 0, 3123), (713, 1, 453, 0, 3131), (648, 5, 16777215, 0, 3135), (652, 1, 454, 0, 3136), (655, 5, 238201, 0, 3140), (656, 5, 238204, 0, 3141), (657, 5, 238200, 0, 3142), (716, 5, 229192, 0, 3147), (717, 5, 198600, 0, 3156), (718, 1, 490, 2, 3165), (721, 1, 493, 4, 3177), (725, 1, 495, 2, 3180)]
set_option maxRecDepth 100000 in
theorem zlk_12_ok : ∀ k r, zlk_12 k = some r → r.1 ≠ 7 → ∃ w, zlkw (zown 12) k r = some w ∧ (w ∈ zW ∨ (w ∈ zN ∧ znest w = true)) := zlk_gen zes_12 [2242, 2243, 2244, 2245, 2246, 2247, 2248, 2249, 2250, 2251, 2252, 2253, 2254, 2255, 2256, 2257, 2258, 2259, 2260, 2261, 2262, 2263, 2264, 2265, 2266, 2267, 2268, 2269, 2270, 2271, 2272, 2273, 2274, 2275, 2276, 2277, 2278, 2354, 2365, 2369, 2371, 2372, 2376, 2380, 2384, 2388, 2396, 2400, 2404, 2408, 2412, 2413, 2414, 2418, 2422, 2426, 2430, 2434, 2438, 2442, 2446, 2450, 2454, 2458, 2462, 2466, 2470, 2474, 2478, 2482, 2486, 2490, 2494, 2498, 2502, 2506, 2510, 2514, 2518, 2522, 2526, 2530, 2533, 2534, 2538, 2542, 2546, 2550, 2551, 2555, 2559, 2563, 2567, 2571, 2572, 2576, 2580, 2584, 2585, 2589, 2593, 2597, 2601, 2605, 2609, 2610, 2611, 2614, 2615, 2616, 2617, 2621, 2625, 2629, 2633, 2637, 2641, 2645, 2649, 2653, 2657, 2661, 2664, 2668, 2672, 2673, 2677, 2681, 2685, 2689, 2693, 2697, 2701, 2705, 2709, 2713, 2717, 2718, 2722, 2726, 2730, 2734, 2738, 2742, 2746, 2750, 2754, 2758, 2762, 2766, 2770, 2774, 2778, 2782, 2786, 2790, 2794, 2798, 2802, 2806, 2810, 2814, 2818, 2819, 2823, 2824, 2829, 2833, 2836, 2840, 2844, 2848, 2852, 2856, 2860, 2864, 2865, 2869, 2873, 2877, 2881, 2885, 2889, 2893, 2897, 2901, 2905, 2909, 2913, 2917, 2921, 2925, 2929, 2933, 2937, 2941, 2945, 2946, 2947, 2951, 2955, 2959, 2963, 2967, 2971, 2974, 2978, 2982, 2986, 2990, 2994, 3038, 3054, 3066, 3070, 3074, 3078, 3082, 3085, 3089, 3096, 3100, 3104, 3108, 3112, 3113, 3114, 3123, 3131, 3135, 3136, 3140, 3141, 3142, 3147, 3156, 3165, 3177, 3180] (by decide +kernel) (by decide +kernel) (by decide +kernel) (fun k h => zlk_no (g := zlkT_12) k h)
def zes_13 : List zKE := [(7, 3, 11, 0, 282), (9, 1, 253, 0, 284), (15, 1, 254, 2, 988), (20, 1, 255, 0, 992), (25, 1, 256, 2, 996), (30, 1, 257, 2, 1008), (34, 1, 258, 2, 1866), (38, 1, 259, 2, 1870), (42, 1, 260, 2, 1878), (46, 1, 261, 2, 1886), (50, 1, 262, 3, 1890), (55, 1, 263, 4, 1902), (60, 1, 264, 2, 1910), (64, 1, 265, 3, 1914), (68, 1, 266, 1, 1921), (73, 1, 267, 3, 1926), (77, 1, 268, 3, 1934), (81, 1, 269, 3, 1942), (85, 1, 270, 2, 1947), (89, 1, 271, 3, 1952), (93, 1, 272, 2, 1956), (97, 1, 273, 2, 2013), (101, 1, 274, 1, 2072), (105, 1, 275, 1, 2080), (109, 1, 276, 1, 2089), (113, 1, 277, 1, 2113), (117, 1, 278, 1, 2122), (121, 1, 279, 1, 2126), (125, 1, 280, 3, 2130), (129, 1, 281, 2, 2134), (133, 1, 282, 2, 2185), (137, 1, 283, 2, 2189), (10, 3, 12, 0, 2237), (12, 1, 455, 0, 2239), (19, 1, 458, 2, 2350), (24, 1, 459, 0, 2357), (29, 1, 462, 2, 2361), (33, 1, 463, 2, 2392), (37, 1, 464, 2, 2998), (41, 1, 465, 2, 3002), (45, 1, 466, 2, 3006), (49, 1, 467, 2, 3010), (54, 1, 468, 3, 3014), (59, 1, 469, 4, 3018), (63, 1, 470, 2, 3022), (67, 1, 471, 3, 3026), (72, 1, 472, 1, 3030), (76, 1, 474, 3, 3034), (80, 1, 475, 3, 3042), (84, 1, 476, 3, 3046), (88, 1, 478, 2, 3050), (92, 1, 479, 3, 3058), (96, 1, 480, 2, 3062), (100, 1, 481, 2, 3092), (104, 1, 482, 1, 3115), (108, 1, 484, 1, 3119), (112, 1, 485, 1, 3127), (116, 1, 486, 1, 3143), (120, 1, 487, 1, 3148), (124, 1, 488, 1, 3152), (128, 1, 489, 3, 3157), (132, 1, 491, 2, 3161), (136, 1, 492, 2, 3169), (141, 1, 494, 2, 3173), (13, 6, 4294967295, 0, 3184)]
set_option maxRecDepth 100000 in
theorem zlk_13_ok : ∀ k r, zlk_13 k = some r → r.1 ≠ 7 → ∃ w, zlkw (zown 13) k r = some w ∧ (w ∈ zW ∨ (w ∈ zN ∧ znest w = true)) := zlk_gen zes_13 [282, 284, 988, 992, 996, 1008, 1866, 1870, 1878, 1886, 1890, 1902, 1910, 1914, 1921, 1926, 1934, 1942, 1947, 1952, 1956, 2013, 2072, 2080, 2089, 2113, 2122, 2126, 2130, 2134, 2185, 2189, 2237, 2239, 2350, 2357, 2361, 2392, 2998, 3002, 3006, 3010, 3014, 3018, 3022, 3026, 3030, 3034, 3042, 3046, 3050, 3058, 3062, 3092, 3115, 3119, 3127, 3143, 3148, 3152, 3157, 3161, 3169, 3173, 3184] (by decide +kernel) (by decide +kernel) (by decide +kernel) (fun k h => zlk_no (g := zlkT_13) k h)
def zes_14 : List zKE := []
set_option maxRecDepth 100000 in
theorem zlk_14_ok : ∀ k r, zlk_14 k = some r → r.1 ≠ 7 → ∃ w, zlkw (zown 14) k r = some w ∧ (w ∈ zW ∨ (w ∈ zN ∧ znest w = true)) := zlk_gen zes_14 [] (by decide +kernel) (by decide +kernel) (by decide +kernel) (fun k h => zlk_no (g := zlkT_14) k h)
def zes_15 : List zKE := [(13, 1, 511, 3, 1455)]
set_option maxRecDepth 100000 in
theorem zlk_15_ok : ∀ k r, zlk_15 k = some r → r.1 ≠ 7 → ∃ w, zlkw (zown 15) k r = some w ∧ (w ∈ zW ∨ (w ∈ zN ∧ znest w = true)) := zlk_gen zes_15 [1455] (by decide +kernel) (by decide +kernel) (by decide +kernel) (fun k h => zlk_no (g := zlkT_15) k h)
def zes_16 : List zKE := [(335, 1, 503, 0, 474), (38, 12, 0, 0, 478), (492, 1, 504, 0, 484), (495, 1, 506, 2, 488), (1053, 13, 0, 0, 494), (1059, 1, 515, 3, 496), (498, 1, 509, 2, 499), (9, 11, 0, 0, 3185), (15, 11, 1, 0, 3186)]
set_option maxRecDepth 100000 in
theorem zlk_16_ok : ∀ k r, zlk_16 k = some r → r.1 ≠ 7 → ∃ w, zlkw (zown 16) k r = some w ∧ (w ∈ zW ∨ (w ∈ zN ∧ znest w = true)) := zlk_gen zes_16 [474, 478, 484, 488, 494, 496, 499, 3185, 3186] (by decide +kernel) (by decide +kernel) (by decide +kernel) (fun k h => zlk_no (g := zlkT_16) k h)
def zes_17 : List zKE := [(9, 1, 505, 2, 491)]
set_option maxRecDepth 100000 in
theorem zlk_17_ok : ∀ k r, zlk_17 k = some r → r.1 ≠ 7 → ∃ w, zlkw (zown 17) k r = some w ∧ (w ∈ zW ∨ (w ∈ zN ∧ znest w = true)) := zlk_gen zes_17 [491] (by decide +kernel) (by decide +kernel) (by decide +kernel) (fun k h => zlk_no (g := zlkT_17) k h)
def zes_18 : List zKE := [(67, 1, 510, 2, 502), (48, 1, 508, 1, 505), (414, 1, 505, 2, 508), (71, 1, 507, 2, 509)]
set_option maxRecDepth 100000 in
theorem zlk_18_ok : ∀ k r, zlk_18 k = some r → r.1 ≠ 7 → ∃ w, zlkw (zown 18) k r = some w ∧ (w ∈ zW ∨ (w ∈ zN ∧ znest w = true)) := zlk_gen zes_18 [502, 505, 508, 509] (by decide +kernel) (by decide +kernel) (by decide +kernel) (fun k h => zlk_no (g := zlkT_18) k h)
def zes_19 : List zKE := []
set_option maxRecDepth 100000 in
theorem zlk_19_ok : ∀ k r, zlk_19 k = some r → r.1 ≠ 7 → ∃ w, zlkw (zown 19) k r = some w ∧ (w ∈ zW ∨ (w ∈ zN ∧ znest w = true)) := zlk_gen zes_19 [] (by decide +kernel) (by decide +kernel) (by decide +kernel) (fun k h => zlk_no (g := zlkT_19) k h)
def zes_20 : List zKE := []
set_option maxRecDepth 100000 in
theorem zlk_20_ok : ∀ k r, zlk_20 k = some r → r.1 ≠ 7 → ∃ w, zlkw (zown 20) k r = some w ∧ (w ∈ zW ∨ (w ∈ zN ∧ znest w = true)) := zlk_gen zes_20 [] (by decide +kernel) (by decide +kernel) (by decide +kernel) (fun k h => zlk_no (g := zlkT_20) k h)
theorem zlk_ok : ∀ (o : Nat), o < 21 → ∀ k r, zlk o k = some r → r.1 ≠ 7 → ∃ w, zlkw (zown o) k r = some w ∧ (w ∈ zW ∨ (w ∈ zN ∧ znest w = true))
  | 0, _ => zlk_0_ok
  | 1, _ => zlk_1_ok
  | 2, _ => zlk_2_ok
  | 3, _ => zlk_3_ok
  | 4, _ => zlk_4_ok
  | 5, _ => zlk_5_ok
  | 6, _ => zlk_6_ok
  | 7, _ => zlk_7_ok
  | 8, _ => zlk_8_ok
  | 9, _ => zlk_9_ok
  | 10, _ => zlk_10_ok
  | 11, _ => zlk_11_ok
  | 12, _ => zlk_12_ok
  | 13, _ => zlk_13_ok
  | 14, _ => zlk_14_ok
  | 15, _ => zlk_15_ok
  | 16, _ => zlk_16_ok
  | 17, _ => zlk_17_ok
  | 18, _ => zlk_18_ok
  | 19, _ => zlk_19_ok
  | 20, _ => zlk_20_ok
  | k + 21, h => by omega
theorem zw_arr0 : Cond.arrayClass .int ∈ zW := zW_of 332 (by decide +kernel) (by decide +kernel)
theorem zw_arr1 : Cond.arrayClass .byte ∈ zW := zW_of 330 (by decide +kernel) (by decide +kernel)
theorem zw_arr2 : Cond.arrayClass .boolean ∈ zW := zW_of 331 (by decide +kernel) (by decide +kernel)
theorem zw_obj1 : Cond.instanceMethod objectInit ∈ zW := zW_of 288 (by decide +kernel) (by decide +kernel)
theorem zw_obj2 : Cond.code objectInit ⟨#[0xb1]⟩ 1 none ∈ zW := zW_of 289 (by decide +kernel) (by decide +kernel)
theorem zw_cpy1 : Cond.native arraycopyName ∈ zW := zW_of 1026 (by decide +kernel) (by decide +kernel)
theorem zw_cpy2 : Cond.static arraycopyName ∈ zW := zW_of 1025 (by decide +kernel) (by decide +kernel)
theorem zw_cpy3 : Cond.initialized "java/lang/System" ∈ zW := zW_of 280 (by decide +kernel) (by decide +kernel)
theorem zw_cls0 : Cond.instantiable RX0 11 ∈ zW ∧ Cond.initialized RX0 ∈ zW := ⟨zW_of 293 (by decide +kernel) (by decide +kernel), zW_of 263 (by decide +kernel) (by decide +kernel)⟩
theorem zw_cls1 : Cond.instantiable RX1 18 ∈ zW ∧ Cond.initialized RX1 ∈ zW := ⟨zW_of 452 (by decide +kernel) (by decide +kernel), zW_of 266 (by decide +kernel) (by decide +kernel)⟩
theorem zw_cls2 : Cond.instantiable RX2 3 ∈ zW ∧ Cond.initialized RX2 ∈ zW := ⟨zW_of 592 (by decide +kernel) (by decide +kernel), zW_of 272 (by decide +kernel) (by decide +kernel)⟩
theorem zw_cls3 : Cond.instantiable RX3 20 ∈ zW ∧ Cond.initialized RX3 ∈ zW := ⟨zW_of 827 (by decide +kernel) (by decide +kernel), zW_of 278 (by decide +kernel) (by decide +kernel)⟩
theorem zw_cls4 : Cond.instantiable RX4 12 ∈ zW ∧ Cond.initialized RX4 ∈ zW := ⟨zW_of 741 (by decide +kernel) (by decide +kernel), zW_of 276 (by decide +kernel) (by decide +kernel)⟩
theorem zw_cls5 : Cond.instantiable RX5 15 ∈ zW ∧ Cond.initialized RX5 ∈ zW := ⟨zW_of 682 (by decide +kernel) (by decide +kernel), zW_of 275 (by decide +kernel) (by decide +kernel)⟩
theorem zw_cls6 : Cond.instantiable RX6 8 ∈ zW ∧ Cond.initialized RX6 ∈ zW := ⟨zW_of 792 (by decide +kernel) (by decide +kernel), zW_of 277 (by decide +kernel) (by decide +kernel)⟩
theorem zw_cls7 : Cond.instantiable RX7 5 ∈ zW ∧ Cond.initialized RX7 ∈ zW := ⟨zW_of 299 (by decide +kernel) (by decide +kernel), zW_of 264 (by decide +kernel) (by decide +kernel)⟩
theorem zw_cls8 : Cond.instantiable RX8 18 ∈ zW ∧ Cond.initialized RX8 ∈ zW := ⟨zW_of 334 (by decide +kernel) (by decide +kernel), zW_of 265 (by decide +kernel) (by decide +kernel)⟩
theorem zw_cls9 : Cond.instantiable RX9 15 ∈ zW ∧ Cond.initialized RX9 ∈ zW := ⟨zW_of 620 (by decide +kernel) (by decide +kernel), zW_of 273 (by decide +kernel) (by decide +kernel)⟩
theorem zw_cls10 : Cond.instantiable RX10 14 ∈ zW ∧ Cond.initialized RX10 ∈ zW := ⟨zW_of 460 (by decide +kernel) (by decide +kernel), zW_of 267 (by decide +kernel) (by decide +kernel)⟩
theorem zw_cls11 : Cond.instantiable RX11 7 ∈ zW ∧ Cond.initialized RX11 ∈ zW := ⟨zW_of 283 (by decide +kernel) (by decide +kernel), zW_of 262 (by decide +kernel) (by decide +kernel)⟩
theorem zw_cls12 : Cond.instantiable RX12 35 ∈ zW ∧ Cond.initialized RX12 ∈ zW := ⟨zW_of 2238 (by decide +kernel) (by decide +kernel), zW_of 279 (by decide +kernel) (by decide +kernel)⟩
theorem zw_cls : ∀ (ci : Nat) (q : vw_C), zcls[ci]? = some q → Cond.instantiable q.1 q.2.2 ∈ zW ∧ Cond.initialized q.1 ∈ zW
  | 0, q, h => by cases h; exact zw_cls0
  | 1, q, h => by cases h; exact zw_cls1
  | 2, q, h => by cases h; exact zw_cls2
  | 3, q, h => by cases h; exact zw_cls3
  | 4, q, h => by cases h; exact zw_cls4
  | 5, q, h => by cases h; exact zw_cls5
  | 6, q, h => by cases h; exact zw_cls6
  | 7, q, h => by cases h; exact zw_cls7
  | 8, q, h => by cases h; exact zw_cls8
  | 9, q, h => by cases h; exact zw_cls9
  | 10, q, h => by cases h; exact zw_cls10
  | 11, q, h => by cases h; exact zw_cls11
  | 12, q, h => by cases h; exact zw_cls12
  | k + 13, q, h => by simp [zcls] at h
end
section
/-! THE EVALUATOR: a plain function over an abstract memory. References are object numbers: below 1000000 the run's own, from there on those that were there before. -/
abbrev zE : Type := (Nat × vp_A) ⊕ (Nat × List Value)
abbrev zM : Type := Nat × Nat × (Nat → zE)
abbrev zL : Type := List (Nat × Value)
def zlen (e : zE) : Nat := match e with
  | .inl a => a.2.1
  | .inr o => o.2.length
def zset (M : zM) (k : Nat) (e : zE) : zM := (M.1, M.2.1, va_up M.2.2 k e)
def zpush (M : zM) (e : zE) : zM := (M.1 + 1, M.2.1 + zlen e, va_up M.2.2 M.1 e)
def zget (ls : zL) (i : Nat) : Option Value := match ls.find? (fun q => q.1 == i) with
  | some q => some q.2
  | none => none
def zput1 (ls : zL) (i : Nat) (v : Value) : zL := (i, v) :: ls.filter (fun q => !(q.1 == i) && !(q.1 + 1 == i && q.2.category == 2))
def zput2 (ls : zL) (i : Nat) (v : Value) : zL := (i, v) :: ls.filter (fun q => !(q.1 == i) && (!(q.1 == i + 1) && !(q.1 + 1 == i && q.2.category == 2)))
abbrev zR : Type := Option (Nat × zL × List Value × zM)
def zjmp (pc : Nat) (off : Int) : Option Nat := if (pc : Int) + off < 0 then none else some ((pc : Int) + off).toNat
/-- binary operations on ints -/
def zbI (i : Instr) : Option (Int32 → Int32 → Option Int32) := match i with
  | .iadd => some fun x y => some (x + y)
  | .isub => some fun x y => some (x - y)
  | .imul => some fun x y => some (x * y)
  | .iand => some fun x y => some (x &&& y)
  | .ior => some fun x y => some (x ||| y)
  | .ixor => some fun x y => some (x ^^^ y)
  | .idiv => some fun x y => if y = 0 then none else some (x / y)
  | .irem => some fun x y => if y = 0 then none else some (x - x / y * y)
  | .ishl => some fun x y => some (x <<< (y &&& 31))
  | .ishr => some fun x y => some (x >>> (y &&& 31))
  | .iushr => some fun x y => some (x.toUInt32 >>> (y.toUInt32 &&& Int32.toUInt32 31)).toInt32
  | _ => none
def zuI (i : Instr) : Option (Int32 → Int32) := match i with
  | .ineg => some fun x => -x
  | .i2b => some fun x => x.toInt8.toInt32
  | .i2c => some fun x => (x.toUInt32 % 65536).toInt32
  | _ => none
def zbL (i : Instr) : Option (Int64 → Int64 → Option Int64) := match i with
  | .ladd => some fun x y => some (x + y)
  | .lsub => some fun x y => some (x - y)
  | .lmul => some fun x y => some (x * y)
  | .land => some fun x y => some (x &&& y)
  | .lor => some fun x y => some (x ||| y)
  | .lxor => some fun x y => some (x ^^^ y)
  | .ldiv => some fun x y => if y = 0 then none else some (x / y)
  | .lrem => some fun x y => if y = 0 then none else some (x - x / y * y)
  | _ => none
def zsL (i : Instr) : Option (Int64 → Int32 → Int64) := match i with
  | .lshl => some fun x y => x <<< (y.toInt64 &&& 63)
  | .lshr => some fun x y => x >>> (y.toInt64 &&& 63)
  | .lushr => some fun x y => (x.toUInt64 >>> (y.toInt64.toUInt64 &&& Int64.toUInt64 63)).toInt64
  | _ => none
def zcI (c : ClassFile.Cond) (x y : Int32) : Bool := match c with
  | .eq => decide (x = y)
  | .ne => decide (¬ x = y)
  | .lt => decide (x < y)
  | .ge => decide (y ≤ x)
  | .gt => decide (y < x)
  | .le => decide (x ≤ y)
def zisByte (v : Int32) : Bool := fits .byte (.int v)
/-- what does not call, and does not reach out of the frame -/
def zs0 (pc : Nat) (ls : zL) (st : List Value) (nL : Nat) (i : Instr) (len : Nat) : Option (Nat × zL × List Value) := match i with
  | .iconst n => some (pc + 1, ls, .int (Int32.ofInt n) :: st)
  | .bipush n => some (pc + 2, ls, .int (Int8.ofInt n).toInt32 :: st)
  | .sipush n => some (pc + 3, ls, .int (Int16.ofInt n).toInt32 :: st)
  | .lconst n => some (pc + 1, ls, .long (Int64.ofNat (n : Nat)) :: st)
  | .aconst_null => some (pc + 1, ls, .null :: st)
  | .iload_n k => match zget ls k with
    | some (.int x) => some (pc + 1, ls, .int x :: st)
    | _ => none
  | .iload k => match zget ls k with
    | some (.int x) => some (pc + 2, ls, .int x :: st)
    | _ => none
  | .lload_n k => match zget ls k with
    | some (.long x) => some (pc + 1, ls, .long x :: st)
    | _ => none
  | .lload k => match zget ls k with
    | some (.long x) => some (pc + 2, ls, .long x :: st)
    | _ => none
  | .aload_n k => match zget ls k with
    | some (.ref x) => some (pc + 1, ls, .ref x :: st)
    | some .null => some (pc + 1, ls, .null :: st)
    | _ => none
  | .aload k => match zget ls k with
    | some (.ref x) => some (pc + 2, ls, .ref x :: st)
    | some .null => some (pc + 2, ls, .null :: st)
    | _ => none
  | .istore_n k => match st with
    | .int x :: r => if (k : Nat) < nL then some (pc + 1, zput1 ls k (.int x), r) else none
    | _ => none
  | .istore k => match st with
    | .int x :: r => if k < nL then some (pc + 2, zput1 ls k (.int x), r) else none
    | _ => none
  | .lstore_n k => match st with
    | .long x :: r => if (k : Nat) + 1 < nL then some (pc + 1, zput2 ls k (.long x), r) else none
    | _ => none
  | .lstore k => match st with
    | .long x :: r => if k + 1 < nL then some (pc + 2, zput2 ls k (.long x), r) else none
    | _ => none
  | .astore_n k => match st with
    | .ref x :: r => if (k : Nat) < nL then some (pc + 1, zput1 ls k (.ref x), r) else none
    | .null :: r => if (k : Nat) < nL then some (pc + 1, zput1 ls k .null, r) else none
    | _ => none
  | .astore k => match st with
    | .ref x :: r => if k < nL then some (pc + 2, zput1 ls k (.ref x), r) else none
    | .null :: r => if k < nL then some (pc + 2, zput1 ls k .null, r) else none
    | _ => none
  | .iinc k n => match zget ls k with
    | some (.int x) => if k < nL then some (pc + 3, zput1 ls k (.int (x + Int32.ofInt n)), st) else none
    | _ => none
  | .dup => match st with
    | v :: r => if v.category = 1 then some (pc + 1, ls, v :: v :: r) else none
    | _ => none
  | .pop => match st with
    | v :: r => if v.category = 1 then some (pc + 1, ls, r) else none
    | _ => none
  | .pop2 => match st with
    | v :: r => if v.category = 2 then some (pc + 1, ls, r) else none
    | _ => none
  | .dup_x1 => match st with
    | v :: w :: r => if v.category = 1 ∧ w.category = 1 then some (pc + 1, ls, v :: w :: v :: r) else none
    | _ => none
  | .dup2 => match st with
    | v :: w :: r => if v.category = 1 ∧ w.category = 1 then some (pc + 1, ls, v :: w :: v :: w :: r) else if v.category = 2 then some (pc + 1, ls, v :: v :: w :: r) else none
    | _ => none
  | .i2l => match st with
    | .int x :: r => some (pc + 1, ls, .long x.toInt64 :: r)
    | _ => none
  | .l2i => match st with
    | .long x :: r => some (pc + 1, ls, .int x.toInt32 :: r)
    | _ => none
  | .lneg => match st with
    | .long x :: r => some (pc + 1, ls, .long (-x) :: r)
    | _ => none
  | .lcmp => match st with
    | .long y :: .long x :: r => some (pc + 1, ls, .int (lg_cmp x y) :: r)
    | _ => none
  | .goto off => match zjmp pc off with
    | some t => some (t, ls, st)
    | none => none
  | .ifCond c off => match st with
    | .int x :: r => match zjmp pc off with
      | some t => some (if zcI c x 0 then t else pc + 3, ls, r)
      | none => none
    | _ => none
  | .if_icmp c off => match st with
    | .int y :: .int x :: r => match zjmp pc off with
      | some t => some (if zcI c x y then t else pc + 3, ls, r)
      | none => none
    | _ => none
  | .ifnull off => match st with
    | .ref _ :: r => some (pc + 3, ls, r)
    | .null :: r => match zjmp pc off with
      | some t => some (t, ls, r)
      | none => none
    | _ => none
  | .ifnonnull off => match st with
    | .null :: r => some (pc + 3, ls, r)
    | .ref _ :: r => match zjmp pc off with
      | some t => some (t, ls, r)
      | none => none
    | _ => none
  | .tableswitch dflt lo hi offs => match st with
    | .int x :: r => if x.toInt < lo ∨ hi < x.toInt then (match zjmp pc dflt with
        | some t => some (t, ls, r)
        | none => none) else match offs[(x.toInt - lo).toNat]? with
      | some off => (match zjmp pc off with
        | some t => some (t, ls, r)
        | none => none)
      | none => none
    | _ => none
  | .lookupswitch dflt ps => match st with
    | .int x :: r => if (ps.toList.zip (ps.toList.drop 1)).all (fun (a, next) => a.1 < next.1) = true then (match zjmp pc (Op.lookupswitch.offset ps.toList dflt x.toInt) with
        | some t => some (t, ls, r)
        | none => none) else none
    | _ => none
  | i => match zbI i with
    | some f => (match st with
      | .int y :: .int x :: r => (match f x y with
        | some v => some (pc + 1, ls, .int v :: r)
        | none => none)
      | _ => none)
    | none => match zuI i with
      | some f => (match st with
        | .int x :: r => some (pc + 1, ls, .int (f x) :: r)
        | _ => none)
      | none => match zbL i with
        | some f => (match st with
          | .long y :: .long x :: r => (match f x y with
            | some v => some (pc + 1, ls, .long v :: r)
            | none => none)
          | _ => none)
        | none => match zsL i with
          | some f => (match st with
            | .int y :: .long x :: r => some (pc + 1, ls, .long (f x y) :: r)
            | _ => none)
          | none => none
/-- the length that an instruction has -/
def zlok (i : Instr) (len : Nat) : Bool := match i with
  | .bipush _ | .iload _ | .lload _ | .aload _ | .istore _ | .lstore _ | .astore _ | .ldc _ | .newarray _ => len == 2
  | .sipush _ | .iinc _ _ | .goto _ | .ifCond _ _ | .if_icmp _ _ | .ifnull _ | .ifnonnull _ | .getfield _ | .putfield _ | .getstatic _ | .invokevirtual _ | .invokespecial _ | .invokestatic _ | .new _ | .anewarray _ | .ldc_w _ | .ldc2_w _ => len == 3
  | .tableswitch _ _ _ _ | .lookupswitch _ _ => true
  | _ => len == 1
end
section
/-! THE ROWS OF THE EVALUATOR, 0: what stays within the frame -/
def zcv (ad : Nat → Nat) (v : Value) : Value := match v with
  | .ref a => .ref (ad a)
  | w => w
def zcl (ad : Nat → Nat) (ls : zL) : zL := ls.map fun q => (q.1, zcv ad q.2)
def zcs (ad : Nat → Nat) (st : List Value) : List Value := st.map (zcv ad)
theorem zcv_cat (ad : Nat → Nat) (v : Value) : (zcv ad v).category = v.category := by cases v <;> rfl
theorem zcs_cons (ad : Nat → Nat) (v : Value) (st : List Value) : zcs ad (v :: st) = zcv ad v :: zcs ad st := rfl
theorem z_at {ad : Nat → Nat} {L : Array Slot} {nL : Nat} {ls : zL} (hl : lv_has L nL (zcl ad ls)) {i : Nat} {v : Value} (h : zget ls i = some v) : L[i]? = some (.val (zcv ad v)) := by
  unfold zget at h
  cases hf : ls.find? (fun q => q.1 == i) with
  | none => rw [hf] at h; cases h
  | some q =>
    rw [hf] at h
    have hv : q.2 = v := Option.some.inj h
    have hm := List.mem_of_find?_eq_some hf
    have hi : q.1 = i := by simpa using List.find?_some hf
    have := hl.2.2 (q.1, zcv ad q.2) (List.mem_map.mpr ⟨q, hm, rfl⟩)
    rw [hv, hi] at this
    exact this
theorem z_mem {ad : Nat → Nat} {ls : zL} {i : Nat} {v : Value} (h : zget ls i = some v) : ∃ k : Nat, (zcl ad ls)[k]? = some (i, zcv ad v) := by
  unfold zget at h
  cases hf : ls.find? (fun q => q.1 == i) with
  | none => rw [hf] at h; cases h
  | some q =>
    rw [hf] at h
    have hv : q.2 = v := Option.some.inj h
    have hm := List.mem_of_find?_eq_some hf
    have hi : q.1 = i := by simpa using List.find?_some hf
    subst hv
    subst hi
    have h2 : (q.1, zcv ad q.2) ∈ zcl ad ls := List.mem_map.mpr ⟨q, hm, rfl⟩
    exact List.getElem?_of_mem h2
theorem z_put1 (ad : Nat → Nat) (ls : zL) (i : Nat) (v : Value) : zcl ad (zput1 ls i v) = (i, zcv ad v) :: (zcl ad ls).filter (fun q => !(q.1 == i) && !(q.1 + 1 == i && q.2.category == 2)) := by
  unfold zput1 zcl
  rw [List.map_cons, List.filter_map]
  refine congrArg _ (congrArg _ (congrArg (fun f => List.filter f ls) ?_))
  funext q
  simp [Function.comp, zcv_cat]
theorem z_put2 (ad : Nat → Nat) (ls : zL) (i : Nat) (v : Value) : zcl ad (zput2 ls i v) = (i, zcv ad v) :: (zcl ad ls).filter (fun q => !(q.1 == i) && (!(q.1 == i + 1) && !(q.1 + 1 == i && q.2.category == 2))) := by
  unfold zput2 zcl
  rw [List.map_cons, List.filter_map]
  refine congrArg _ (congrArg _ (congrArg (fun f => List.filter f ls) ?_))
  funext q
  simp [Function.comp, zcv_cat]
theorem z_jmp {pc t : Nat} {off : Int} (h : zjmp pc off = some t) : (pc : Int) + off = (t : Int) := by
  unfold zjmp at h
  split at h
  · cases h
  · have := Option.some.inj h
    omega
theorem z_cI {c : ClassFile.Cond} {x y : Int32} : zcI c x y = true ↔ (match c with | .eq => x = y | .ne => ¬ x = y | .lt => x < y | .ge => y ≤ x | .gt => y < x | .le => x ≤ y) := by
  cases c <;> simp [zcI]
section ZS0
variable {p : Program} {l : Launch} {e : Env} {R : Room} {s : State} {m : MethodId} {args : Array Value} {below : List Frame} {meth : Method} {c : Code} {H : Heap} {locs : List Loc} {cells slots : Nat} {Q : State → Prop} {cc : ByteArray} {ad : Nat → Nat} {pc nL len pc' : Nat} {i : Instr} {ls ls' : zL} {st st' : List Value} {L : Array Slot}
theorem z_icmp (hx : p.tables.exec = Jvm.exec) (hb : c.code = cc) {k : ClassFile.Cond} {x y : Int32} {off : Int} {t : Nat} {rest : List Value} (hd : decode cc pc = .ok (.if_icmp k off, 3)) (ht : (pc : Int) + off = (t : Int)) (kk : W p l e R s m args below meth c H locs cells slots Q (F0 m (if zcI k x y then t else pc + 3) L rest)) : W p l e R s m args below meth c H locs cells slots Q (F0 m pc L (.int y :: .int x :: rest)) := by
  cases k
  · exact lv_icmp_eq hx hb hd ht (fun h => by rw [if_pos (z_cI.mpr h)] at kk; exact kk) (fun h => by rw [if_neg (fun q => h (z_cI.mp q))] at kk; exact kk)
  · exact lv_icmp_ne hx hb hd ht (fun h => by rw [if_pos (z_cI.mpr h)] at kk; exact kk) (fun h => by rw [if_neg (show ¬ zcI .ne x y = true by simp [zcI, h])] at kk; exact kk)
  · exact lv_icmp_lt hx hb hd ht (fun h => by rw [if_pos (z_cI.mpr h)] at kk; exact kk) (fun h => by rw [if_neg (fun q => h (z_cI.mp q))] at kk; exact kk)
  · exact lv_icmp_ge hx hb hd ht (fun h => by rw [if_pos (z_cI.mpr h)] at kk; exact kk) (fun h => by rw [if_neg (fun q => h (z_cI.mp q))] at kk; exact kk)
  · exact lv_icmp_gt hx hb hd ht (fun h => by rw [if_pos (z_cI.mpr h)] at kk; exact kk) (fun h => by rw [if_neg (fun q => h (z_cI.mp q))] at kk; exact kk)
  · exact lv_icmp_le hx hb hd ht (fun h => by rw [if_pos (z_cI.mpr h)] at kk; exact kk) (fun h => by rw [if_neg (fun q => h (z_cI.mp q))] at kk; exact kk)
theorem z_if (hx : p.tables.exec = Jvm.exec) (hb : c.code = cc) {k : ClassFile.Cond} {x : Int32} {off : Int} {t : Nat} {rest : List Value} (hd : decode cc pc = .ok (.ifCond k off, 3)) (ht : (pc : Int) + off = (t : Int)) (kk : W p l e R s m args below meth c H locs cells slots Q (F0 m (if zcI k x 0 then t else pc + 3) L rest)) : W p l e R s m args below meth c H locs cells slots Q (F0 m pc L (.int x :: rest)) := by
  cases k
  · exact lv_if_eq hx hb hd ht (fun h => by rw [if_pos (z_cI.mpr h)] at kk; exact kk) (fun h => by rw [if_neg (fun q => h (z_cI.mp q))] at kk; exact kk)
  · exact lv_if_ne hx hb hd ht (fun h => by rw [if_pos (z_cI.mpr h)] at kk; exact kk) (fun h => by rw [if_neg (show ¬ zcI .ne x 0 = true by simp [zcI, h])] at kk; exact kk)
  · exact lv_if_lt hx hb hd ht (fun h => by rw [if_pos (z_cI.mpr h)] at kk; exact kk) (fun h => by rw [if_neg (fun q => h (z_cI.mp q))] at kk; exact kk)
  · exact lv_if_ge hx hb hd ht (fun h => by rw [if_pos (z_cI.mpr h)] at kk; exact kk) (fun h => by rw [if_neg (fun q => h (z_cI.mp q))] at kk; exact kk)
  · exact lv_if_gt hx hb hd ht (fun h => by rw [if_pos (z_cI.mpr h)] at kk; exact kk) (fun h => by rw [if_neg (fun q => h (z_cI.mp q))] at kk; exact kk)
  · exact lv_if_le hx hb hd ht (fun h => by rw [if_pos (z_cI.mpr h)] at kk; exact kk) (fun h => by rw [if_neg (fun q => h (z_cI.mp q))] at kk; exact kk)
theorem z_bI (hx : p.tables.exec = Jvm.exec) (hb : c.code = cc) {f : Int32 → Int32 → Option Int32} (hi : zbI i = some f) {x y v : Int32} (hf : f x y = some v) {rest : List Value} (hd : decode cc pc = .ok (i, 1)) (kk : W p l e R s m args below meth c H locs cells slots Q (F0 m (pc + 1) L (.int v :: rest))) : W p l e R s m args below meth c H locs cells slots Q (F0 m pc L (.int y :: .int x :: rest)) := by
  cases i <;> simp only [zbI, Option.some.injEq, reduceCtorEq] at hi <;> subst hi
  case iadd => cases hf; exact lv_iadd hx hb hd kk
  case isub => cases hf; exact lv_isub hx hb hd kk
  case imul => cases hf; exact lv_imul hx hb hd kk
  case iand => cases hf; exact lv_iand hx hb hd kk
  case ior => cases hf; exact lv_ior hx hb hd kk
  case ixor => cases hf; exact lv_ixor hx hb hd kk
  case idiv =>
    by_cases hy : y = 0
    · simp [hy] at hf
    · simp only [hy, if_false, Option.some.injEq] at hf
      subst hf
      exact lv_idiv hx hb hd hy kk
  case irem =>
    by_cases hy : y = 0
    · simp [hy] at hf
    · simp only [hy, if_false, Option.some.injEq] at hf
      subst hf
      exact lv_irem hx hb hd hy kk
  case ishl => cases hf; exact lv_ishl hx hb hd kk
  case ishr => cases hf; exact lv_ishr hx hb hd kk
  case iushr => cases hf; exact lv_iushr hx hb hd rfl kk
theorem z_uI (hx : p.tables.exec = Jvm.exec) (hb : c.code = cc) {f : Int32 → Int32} (hi : zuI i = some f) {x : Int32} {rest : List Value} (hd : decode cc pc = .ok (i, 1)) (kk : W p l e R s m args below meth c H locs cells slots Q (F0 m (pc + 1) L (.int (f x) :: rest))) : W p l e R s m args below meth c H locs cells slots Q (F0 m pc L (.int x :: rest)) := by
  cases i <;> simp only [zuI, Option.some.injEq, reduceCtorEq] at hi <;> subst hi
  case ineg => exact lv_ineg hx hb hd kk
  case i2b => exact lv_i2b hx hb hd rfl kk
  case i2c => exact lv_i2c hx hb hd rfl kk
theorem z_bL (hx : p.tables.exec = Jvm.exec) (hb : c.code = cc) {f : Int64 → Int64 → Option Int64} (hi : zbL i = some f) {x y v : Int64} (hf : f x y = some v) {rest : List Value} (hd : decode cc pc = .ok (i, 1)) (kk : W p l e R s m args below meth c H locs cells slots Q (F0 m (pc + 1) L (.long v :: rest))) : W p l e R s m args below meth c H locs cells slots Q (F0 m pc L (.long y :: .long x :: rest)) := by
  cases i <;> simp only [zbL, Option.some.injEq, reduceCtorEq] at hi <;> subst hi
  case ladd => cases hf; exact lv_ladd hx hb hd kk
  case lsub => cases hf; exact lv_lsub hx hb hd kk
  case lmul => cases hf; exact lv_lmul hx hb hd kk
  case land => cases hf; exact lv_land hx hb hd kk
  case lor => cases hf; exact lv_lor hx hb hd kk
  case lxor => cases hf; exact lv_lxor hx hb hd kk
  case ldiv =>
    by_cases hy : y = 0
    · simp [hy] at hf
    · simp only [hy, if_false, Option.some.injEq] at hf
      subst hf
      exact lv_ldiv hx hb hd hy kk
  case lrem =>
    by_cases hy : y = 0
    · simp [hy] at hf
    · simp only [hy, if_false, Option.some.injEq] at hf
      subst hf
      exact lv_lrem hx hb hd hy kk
theorem z_sL (hx : p.tables.exec = Jvm.exec) (hb : c.code = cc) {f : Int64 → Int32 → Int64} (hi : zsL i = some f) {x : Int64} {y : Int32} {rest : List Value} (hd : decode cc pc = .ok (i, 1)) (kk : W p l e R s m args below meth c H locs cells slots Q (F0 m (pc + 1) L (.long (f x y) :: rest))) : W p l e R s m args below meth c H locs cells slots Q (F0 m pc L (.int y :: .long x :: rest)) := by
  cases i <;> simp only [zsL, Option.some.injEq, reduceCtorEq] at hi <;> subst hi
  case lshl => exact lv_lshl hx hb hd rfl kk
  case lshr => exact lv_lshr hx hb hd rfl kk
  case lushr => exact lv_lushr hx hb hd rfl kk
/-- the fallback of zs0: the operations of one byte that compute -/
theorem z_op (hx : p.tables.exec = Jvm.exec) (hb : c.code = cc) (hd : decode cc pc = .ok (i, 1)) (hl : lv_has L nL (zcl ad ls))
    (h : (match zbI i with
    | some f => (match st with
      | .int y :: .int x :: r => (match f x y with
        | some v => some (pc + 1, ls, .int v :: r)
        | none => none)
      | _ => none)
    | none => match zuI i with
      | some f => (match st with
        | .int x :: r => some (pc + 1, ls, .int (f x) :: r)
        | _ => none)
      | none => match zbL i with
        | some f => (match st with
          | .long y :: .long x :: r => (match f x y with
            | some v => some (pc + 1, ls, .long v :: r)
            | none => none)
          | _ => none)
        | none => match zsL i with
          | some f => (match st with
            | .int y :: .long x :: r => some (pc + 1, ls, .long (f x y) :: r)
            | _ => none)
          | none => none : Option (Nat × zL × List Value)) = some (pc', ls', st'))
    (kk : ∀ L', lv_has L' nL (zcl ad ls') → W p l e R s m args below meth c H locs cells slots Q (F0 m pc' L' (zcs ad st'))) : W p l e R s m args below meth c H locs cells slots Q (F0 m pc L (zcs ad st)) := by
  split at h
  · rename_i f hf
    split at h
    · rename_i y x r
      split at h
      · rename_i v hv
        cases h
        exact z_bI hx hb hf hv hd (kk L hl)
      · cases h
    · cases h
  · split at h
    · rename_i f hf
      split at h
      · cases h
        exact z_uI hx hb hf hd (kk L hl)
      · cases h
    · split at h
      · rename_i f hf
        split at h
        · rename_i y x r
          split at h
          · rename_i v hv
            cases h
            exact z_bL hx hb hf hv hd (kk L hl)
          · cases h
        · cases h
      · split at h
        · rename_i f hf
          split at h
          · cases h
            exact z_sL hx hb hf hd (kk L hl)
          · cases h
        · cases h
set_option maxHeartbeats 4000000 in
theorem z_s0 (hx : p.tables.exec = Jvm.exec) (hb : c.code = cc) (hd : decode cc pc = .ok (i, len)) (hk : zlok i len = true) (h : zs0 pc ls st nL i len = some (pc', ls', st')) (hl : lv_has L nL (zcl ad ls)) (kk : ∀ L', lv_has L' nL (zcl ad ls') → W p l e R s m args below meth c H locs cells slots Q (F0 m pc' L' (zcs ad st'))) : W p l e R s m args below meth c H locs cells slots Q (F0 m pc L (zcs ad st)) := by
  cases i
  case iconst n =>
    have hk : len = 1 := by simpa [zlok] using hk
    subst hk
    simp only [zs0, Option.some.injEq, Prod.mk.injEq] at h
    obtain ⟨rfl, rfl, rfl⟩ := h
    exact lv_iconst hx hb hd rfl (kk L hl)
  case bipush n =>
    have hk : len = 2 := by simpa [zlok] using hk
    subst hk
    simp only [zs0, Option.some.injEq, Prod.mk.injEq] at h
    obtain ⟨rfl, rfl, rfl⟩ := h
    exact lv_bipush hx hb hd rfl (kk L hl)
  case sipush n =>
    have hk : len = 3 := by simpa [zlok] using hk
    subst hk
    simp only [zs0, Option.some.injEq, Prod.mk.injEq] at h
    obtain ⟨rfl, rfl, rfl⟩ := h
    exact lv_sipush hx hb hd rfl (kk L hl)
  case lconst n =>
    have hk : len = 1 := by simpa [zlok] using hk
    subst hk
    simp only [zs0, Option.some.injEq, Prod.mk.injEq] at h
    obtain ⟨rfl, rfl, rfl⟩ := h
    exact lv_lconst hx hb hd rfl (kk L hl)
  case aconst_null =>
    have hk : len = 1 := by simpa [zlok] using hk
    subst hk
    simp only [zs0, Option.some.injEq, Prod.mk.injEq] at h
    obtain ⟨rfl, rfl, rfl⟩ := h
    exact lv_null hx hb hd (kk L hl)
  case iload_n k =>
    have hk : len = 1 := by simpa [zlok] using hk
    subst hk
    simp only [zs0] at h
    split at h
    · rename_i x hg
      cases h
      exact lv_iload_n hx hb hd rfl (z_at hl hg) (kk L hl)
    · cases h
  case iload k =>
    have hk : len = 2 := by simpa [zlok] using hk
    subst hk
    simp only [zs0] at h
    split at h
    · rename_i x hg
      cases h
      exact lv_iload hx hb hd (z_at hl hg) (kk L hl)
    · cases h
  case lload_n k =>
    have hk : len = 1 := by simpa [zlok] using hk
    subst hk
    simp only [zs0] at h
    split at h
    · rename_i x hg
      cases h
      exact lv_lload_n hx hb hd rfl (z_at hl hg) (kk L hl)
    · cases h
  case lload k =>
    have hk : len = 2 := by simpa [zlok] using hk
    subst hk
    simp only [zs0] at h
    split at h
    · rename_i x hg
      cases h
      exact lv_lload hx hb hd (z_at hl hg) (kk L hl)
    · cases h
  case aload_n k =>
    have hk : len = 1 := by simpa [zlok] using hk
    subst hk
    simp only [zs0] at h
    split at h
    · rename_i x hg
      cases h
      exact lv_aload_n hx hb hd rfl (z_at hl hg) (kk L hl)
    · rename_i hg
      cases h
      exact lv_aload_nN hx hb hd rfl (z_at hl hg) (kk L hl)
    · cases h
  case aload k =>
    have hk : len = 2 := by simpa [zlok] using hk
    subst hk
    simp only [zs0] at h
    split at h
    · rename_i x hg
      cases h
      exact lv_aload hx hb hd (z_at hl hg) (kk L hl)
    · rename_i hg
      cases h
      exact lv_aloadN hx hb hd (z_at hl hg) (kk L hl)
    · cases h
  case istore_n k =>
    have hk : len = 1 := by simpa [zlok] using hk
    subst hk
    simp only [zs0] at h
    split at h
    · rename_i x r
      split at h
      · rename_i hn
        cases h
        exact lv_istore_n hx hb hd rfl hl hn (z_put1 ad ls (k : Nat) (.int x)).symm (fun L' h' => kk L' h')
      · cases h
    · cases h
  case istore k =>
    have hk : len = 2 := by simpa [zlok] using hk
    subst hk
    simp only [zs0] at h
    split at h
    · rename_i x r
      split at h
      · rename_i hn
        cases h
        exact lv_istore hx hb hd hl hn (z_put1 ad ls k (.int x)).symm (fun L' h' => kk L' h')
      · cases h
    · cases h
  case lstore_n k =>
    have hk : len = 1 := by simpa [zlok] using hk
    subst hk
    simp only [zs0] at h
    split at h
    · rename_i x r
      split at h
      · rename_i hn
        cases h
        exact lv_lstore_n hx hb hd rfl hl hn (z_put2 ad ls (k : Nat) (.long x)).symm (fun L' h' => kk L' h')
      · cases h
    · cases h
  case lstore k =>
    have hk : len = 2 := by simpa [zlok] using hk
    subst hk
    simp only [zs0] at h
    split at h
    · rename_i x r
      split at h
      · rename_i hn
        cases h
        exact lv_lstore hx hb hd hl hn (z_put2 ad ls k (.long x)).symm (fun L' h' => kk L' h')
      · cases h
    · cases h
  case astore_n k =>
    have hk : len = 1 := by simpa [zlok] using hk
    subst hk
    simp only [zs0] at h
    split at h
    · rename_i x r
      split at h
      · rename_i hn
        cases h
        exact lv_astore_n hx hb hd rfl hl hn (z_put1 ad ls (k : Nat) (.ref x)).symm (fun L' h' => kk L' h')
      · cases h
    · rename_i r
      split at h
      · rename_i hn
        cases h
        exact lv_astore_nN hx hb hd rfl hl hn (z_put1 ad ls (k : Nat) .null).symm (fun L' h' => kk L' h')
      · cases h
    · cases h
  case astore k =>
    have hk : len = 2 := by simpa [zlok] using hk
    subst hk
    simp only [zs0] at h
    split at h
    · rename_i x r
      split at h
      · rename_i hn
        cases h
        exact lv_astore hx hb hd hl hn (z_put1 ad ls k (.ref x)).symm (fun L' h' => kk L' h')
      · cases h
    · rename_i r
      split at h
      · rename_i hn
        cases h
        exact lv_astoreN hx hb hd hl hn (z_put1 ad ls k .null).symm (fun L' h' => kk L' h')
      · cases h
    · cases h
  case iinc k n =>
    have hk : len = 3 := by simpa [zlok] using hk
    subst hk
    simp only [zs0] at h
    split at h
    · rename_i x hg
      split at h
      · rename_i hn
        cases h
        obtain ⟨j, hj⟩ := z_mem (ad := ad) hg
        exact lv_iinc hx hb hd hl hj rfl hn (z_put1 ad ls k (.int (x + Int32.ofInt n))).symm (fun L' h' => kk L' h')
      · cases h
    · cases h
  case dup =>
    have hk : len = 1 := by simpa [zlok] using hk
    subst hk
    simp only [zs0] at h
    split at h
    · split at h
      · rename_i hv
        cases h
        exact lv_dup hx hb hd ((zcv_cat _ _).trans hv) (kk L hl)
      · cases h
    · cases h
  case pop =>
    have hk : len = 1 := by simpa [zlok] using hk
    subst hk
    simp only [zs0] at h
    split at h
    · split at h
      · rename_i hv
        cases h
        exact lv_pop hx hb hd ((zcv_cat _ _).trans hv) (kk L hl)
      · cases h
    · cases h
  case pop2 =>
    have hk : len = 1 := by simpa [zlok] using hk
    subst hk
    simp only [zs0] at h
    split at h
    · split at h
      · rename_i hv
        cases h
        exact lv_pop2_2 hx hb hd ((zcv_cat _ _).trans hv) (kk L hl)
      · cases h
    · cases h
  case dup_x1 =>
    have hk : len = 1 := by simpa [zlok] using hk
    subst hk
    simp only [zs0] at h
    split at h
    · split at h
      · rename_i hv
        cases h
        exact lv_dup_x1 hx hb hd ((zcv_cat _ _).trans hv.1) ((zcv_cat _ _).trans hv.2) (kk L hl)
      · cases h
    · cases h
  case dup2 =>
    have hk : len = 1 := by simpa [zlok] using hk
    subst hk
    simp only [zs0] at h
    split at h
    · split at h
      · rename_i hv
        cases h
        exact lv_dup2_11 hx hb hd ((zcv_cat _ _).trans hv.1) ((zcv_cat _ _).trans hv.2) (kk L hl)
      · split at h
        · rename_i hv
          cases h
          exact lv_dup2_2 hx hb hd ((zcv_cat _ _).trans hv) (kk L hl)
        · cases h
    · cases h
  case i2l =>
    have hk : len = 1 := by simpa [zlok] using hk
    subst hk
    simp only [zs0] at h
    split at h
    · cases h
      exact lv_i2l hx hb hd rfl (kk L hl)
    · cases h
  case l2i =>
    have hk : len = 1 := by simpa [zlok] using hk
    subst hk
    simp only [zs0] at h
    split at h
    · cases h
      exact lv_l2i hx hb hd rfl (kk L hl)
    · cases h
  case lneg =>
    have hk : len = 1 := by simpa [zlok] using hk
    subst hk
    simp only [zs0] at h
    split at h
    · cases h
      exact lv_lneg hx hb hd (kk L hl)
    · cases h
  case lcmp =>
    have hk : len = 1 := by simpa [zlok] using hk
    subst hk
    simp only [zs0] at h
    split at h
    · cases h
      exact W.lcmp hx hb hd (kk L hl)
    · cases h
  case goto off =>
    have hk : len = 3 := by simpa [zlok] using hk
    subst hk
    simp only [zs0] at h
    split at h
    · rename_i t ht
      cases h
      exact lv_goto hx hb hd (z_jmp ht) (kk L hl)
    · cases h
  case ifCond k off =>
    have hk : len = 3 := by simpa [zlok] using hk
    subst hk
    simp only [zs0] at h
    split at h
    · split at h
      · rename_i t ht
        cases h
        exact z_if hx hb hd (z_jmp ht) (kk L hl)
      · cases h
    · cases h
  case if_icmp k off =>
    have hk : len = 3 := by simpa [zlok] using hk
    subst hk
    simp only [zs0] at h
    split at h
    · split at h
      · rename_i t ht
        cases h
        exact z_icmp hx hb hd (z_jmp ht) (kk L hl)
      · cases h
    · cases h
  case ifnull off =>
    have hk : len = 3 := by simpa [zlok] using hk
    subst hk
    simp only [zs0] at h
    split at h
    · cases h
      exact lv_ifnull hx hb hd (kk L hl)
    · split at h
      · rename_i t ht
        cases h
        exact lv_ifnullN hx hb hd (z_jmp ht) (kk L hl)
      · cases h
    · cases h
  case ifnonnull off =>
    have hk : len = 3 := by simpa [zlok] using hk
    subst hk
    simp only [zs0] at h
    split at h
    · cases h
      exact lv_ifnonnullN hx hb hd (kk L hl)
    · split at h
      · rename_i t ht
        cases h
        exact lv_ifnonnull hx hb hd (z_jmp ht) (kk L hl)
      · cases h
    · cases h
  case tableswitch dflt lo hi offs =>
    simp only [zs0] at h
    split at h
    · rename_i x r
      split at h
      · rename_i hc
        split at h
        · rename_i t ht
          cases h
          exact lv_tableOut hx hb hd hc (z_jmp ht) (kk L hl)
        · cases h
      · rename_i hc
        split at h
        · rename_i off ho
          split at h
          · rename_i t ht
            cases h
            exact lv_tableIn hx hb hd (fun q => hc (Or.inl q)) (fun q => hc (Or.inr q)) ho (z_jmp ht) (kk L hl)
          · cases h
        · cases h
    · cases h
  case lookupswitch dflt ps =>
    simp only [zs0] at h
    split at h
    · rename_i x r
      split at h
      · rename_i hc
        split at h
        · rename_i t ht
          cases h
          exact lv_lookup hx hb hd hc rfl (z_jmp ht) (kk L hl)
        · cases h
      · cases h
    · cases h
  case iadd =>
    have hk : len = 1 := by simpa [zlok] using hk
    subst hk
    exact z_op hx hb hd hl h kk
  case isub =>
    have hk : len = 1 := by simpa [zlok] using hk
    subst hk
    exact z_op hx hb hd hl h kk
  case imul =>
    have hk : len = 1 := by simpa [zlok] using hk
    subst hk
    exact z_op hx hb hd hl h kk
  case iand =>
    have hk : len = 1 := by simpa [zlok] using hk
    subst hk
    exact z_op hx hb hd hl h kk
  case ior =>
    have hk : len = 1 := by simpa [zlok] using hk
    subst hk
    exact z_op hx hb hd hl h kk
  case ixor =>
    have hk : len = 1 := by simpa [zlok] using hk
    subst hk
    exact z_op hx hb hd hl h kk
  case idiv =>
    have hk : len = 1 := by simpa [zlok] using hk
    subst hk
    exact z_op hx hb hd hl h kk
  case irem =>
    have hk : len = 1 := by simpa [zlok] using hk
    subst hk
    exact z_op hx hb hd hl h kk
  case ishl =>
    have hk : len = 1 := by simpa [zlok] using hk
    subst hk
    exact z_op hx hb hd hl h kk
  case ishr =>
    have hk : len = 1 := by simpa [zlok] using hk
    subst hk
    exact z_op hx hb hd hl h kk
  case iushr =>
    have hk : len = 1 := by simpa [zlok] using hk
    subst hk
    exact z_op hx hb hd hl h kk
  case ineg =>
    have hk : len = 1 := by simpa [zlok] using hk
    subst hk
    exact z_op hx hb hd hl h kk
  case i2b =>
    have hk : len = 1 := by simpa [zlok] using hk
    subst hk
    exact z_op hx hb hd hl h kk
  case i2c =>
    have hk : len = 1 := by simpa [zlok] using hk
    subst hk
    exact z_op hx hb hd hl h kk
  case ladd =>
    have hk : len = 1 := by simpa [zlok] using hk
    subst hk
    exact z_op hx hb hd hl h kk
  case lsub =>
    have hk : len = 1 := by simpa [zlok] using hk
    subst hk
    exact z_op hx hb hd hl h kk
  case lmul =>
    have hk : len = 1 := by simpa [zlok] using hk
    subst hk
    exact z_op hx hb hd hl h kk
  case land =>
    have hk : len = 1 := by simpa [zlok] using hk
    subst hk
    exact z_op hx hb hd hl h kk
  case lor =>
    have hk : len = 1 := by simpa [zlok] using hk
    subst hk
    exact z_op hx hb hd hl h kk
  case lxor =>
    have hk : len = 1 := by simpa [zlok] using hk
    subst hk
    exact z_op hx hb hd hl h kk
  case ldiv =>
    have hk : len = 1 := by simpa [zlok] using hk
    subst hk
    exact z_op hx hb hd hl h kk
  case lrem =>
    have hk : len = 1 := by simpa [zlok] using hk
    subst hk
    exact z_op hx hb hd hl h kk
  case lshl =>
    have hk : len = 1 := by simpa [zlok] using hk
    subst hk
    exact z_op hx hb hd hl h kk
  case lshr =>
    have hk : len = 1 := by simpa [zlok] using hk
    subst hk
    exact z_op hx hb hd hl h kk
  case lushr =>
    have hk : len = 1 := by simpa [zlok] using hk
    subst hk
    exact z_op hx hb hd hl h kk
  all_goals (exfalso; revert h; simp [zs0, zbI, zuI, zbL, zsL])
end ZS0
end
section
/-! THE EVALUATOR, 1: what reaches into memory -/
/-- the script's length, the script, and whether the formatter of String's index errors is there -/
abbrev zX : Type := Nat × (Nat → Int32) × Nat
def zty (t : Nat) : FieldType := match t with
  | 0 => .int
  | 1 => .byte
  | 2 => .boolean
  | 3 => .object "ForthHouse$Forth"
  | _ => .object "ForthHouse$Task"
def zob (M : zM) (a : Nat) : Option zE := if a < M.1 then some (M.2.2 a) else none
def zrf (r : Option Nat) : Value := match r with
  | none => .null
  | some a => .ref a
def zfit (ty : FieldType) (v : Value) : Bool := decide (narrow ty v = v) && fits ty v
def zdef (ci n : Nat) : List Value := (List.range n).map fun k => defaultValue (zfty ci k)
def zTAKES : List Int32 := [1, 1, 2, 2, 3, 3, 2, 2, 1, 2, 2, 4, 4, 1, 1, 0, 1, 0, 0, 2, 0, 2, 2, 2, 2, 2, 2, 3, 3, 1, 1, 1, 1, 1, 1, 2, 2, 2, 3, 2, 3, 3, 1, 4, 2, 2, 2, 2, 2, 2, 1, 1, 1, 1, 2, 2, 2, 1, 2, 2, 3, 0, 0, 2, 1, 2, 1, 2, 3, 1, 0, 1, 1, 1, 0, 1, 1, 1, 1, 1, 3, 3, 1, 1, 1, 1, 0, 0, 1, 2, 0, 2, 2, 2, 1, 1, 0, 0, 0, 0, 0, 0, 0, 0, 0, 0, 0, 0, 0, 0, 0, 0, 0, 0, 0, 0, 0, 0, 0, 0, 0, 0, 1, 1, 2, 0, 0, 0, 0, 0, 0, 0, 0, 0, 0, 0, 0, 0, 0, 0, 0, 0, 0, 0, 0, 0, 0, 0, 0, 0, 0, 0, 0, 0, 0, 1, 1, 0, 0, 1, 0, 0, 0, 1, 0, 0, 2, 0, 1, 0, 0, 0]
def zLEAVES : List Int32 := [2, 0, 2, 3, 3, 3, 1, 3, 1, 4, 0, 4, 6, 1, 0, 1, 0, 1, 1, 0, 2, 1, 1, 1, 1, 1, 2, 1, 2, 1, 1, 1, 1, 1, 1, 1, 1, 2, 2, 2, 2, 2, 2, 2, 2, 1, 1, 1, 1, 1, 1, 1, 1, 1, 1, 1, 1, 1, 1, 1, 1, 1, 1, 0, 1, 0, 1, 0, 0, 2, 1, 0, 0, 0, 0, 1, 1, 1, 1, 1, 0, 0, 2, 0, 0, 0, 0, 0, 0, 0, 0, 2, 2, 2, 0, 0, 1, 0, 0, 1, 0, 0, 0, 0, 0, 0, 0, 0, 0, 0, 0, 0, 0, 0, 0, 0, 0, 0, 0, 0, 0, 0, 0, 1, 0, 0, 0, 0, 0, 0, 0, 0, 0, 0, 0, 0, 0, 0, 0, 0, 0, 0, 0, 0, 0, 0, 0, 1, 1, 0, 0, 0, 0, 0, 0, 0, 0, 0, 1, 0, 0, 0, 0, 1, 0, 0, 1, 1, 0, 0, 0, 0]
def zTRAITS : List Int32 := [8, 8, 8, 8, 8, 8, 8, 8, 0, 8, 8, 8, 8, 0, 0, 8, 10, 10, 10, 10, 10, 8, 8, 8, 8, 8, 8, 8, 8, 8, 8, 8, 8, 8, 8, 8, 8, 8, 8, 8, 8, 8, 8, 8, 8, 8, 8, 8, 8, 8, 8, 8, 8, 8, 8, 8, 8, 8, 8, 8, 8, 8, 8, 8, 8, 8, 8, 8, 8, 8, 8, 8, 8, 8, 8, 8, 8, 8, 8, 8, 8, 8, 8, 8, 8, 8, 8, 8, 8, 8, 8, 8, 8, 8, 8, 8, 8, 8, 8, 8, 0, 7, 0, 0, 0, 0, 0, 0, 0, 0, 0, 7, 0, 7, 1, 0, 7, 7, 7, 1, 1, 7, 0, 8, 0, 1, 1, 7, 1, 1, 7, 7, 7, 7, 7, 7, 7, 7, 7, 7, 7, 7, 7, 7, 7, 7, 7, 10, 10, 10, 10, 7, 7, 7, 7, 0, 8, 8, 8, 8, 8, 8, 8, 8, 8, 8, 8, 8, 0, 0, 0, 0]
def zstr : List (List Int32) := [[68, 85, 80, 32, 68, 82, 79, 80, 32, 83, 87, 65, 80, 32, 79, 86, 69, 82, 32, 82, 79, 84, 32, 45, 82, 79, 84, 32, 78, 73, 80, 32, 84, 85, 67, 75, 32, 63, 68, 85, 80, 32, 50, 68, 85, 80, 32, 50, 68, 82, 79, 80, 32, 50, 83, 87, 65, 80, 32, 50, 79, 86, 69, 82, 32, 80, 73, 67, 75, 32, 82, 79, 76, 76, 32, 68, 69, 80, 84, 72, 32], [62, 82, 32, 82, 62, 32, 82, 64, 32, 50, 62, 82, 32, 50, 82, 62, 32], [43, 32, 45, 32, 42, 32, 47, 32, 77, 79, 68, 32, 47, 77, 79, 68, 32, 42, 47, 32, 42, 47, 77, 79, 68, 32, 49, 43, 32, 49, 45, 32, 50, 42, 32, 50, 47, 32, 78, 69, 71, 65, 84, 69, 32, 65, 66, 83, 32, 77, 73, 78, 32, 77, 65, 88, 32, 85, 77, 42, 32, 85, 77, 47, 77, 79, 68, 32, 77, 42, 32, 83, 77, 47, 82, 69, 77, 32, 70, 77, 47, 77, 79, 68, 32, 83, 62, 68, 32, 68, 43, 32, 68, 78, 69, 71, 65, 84, 69, 32], [61, 32, 60, 62, 32, 60, 32, 62, 32, 85, 60, 32, 48, 61, 32, 48, 60, 62, 32, 48, 60, 32, 48, 62, 32, 65, 78, 68, 32, 79, 82, 32, 88, 79, 82, 32, 73, 78, 86, 69, 82, 84, 32, 76, 83, 72, 73, 70, 84, 32, 82, 83, 72, 73, 70, 84, 32, 87, 73, 84, 72, 73, 78, 32, 84, 82, 85, 69, 32, 70, 65, 76, 83, 69, 32], [33, 32, 64, 32, 67, 33, 32, 67, 64, 32, 43, 33, 32, 50, 33, 32, 50, 64, 32, 72, 69, 82, 69, 32, 65, 76, 76, 79, 84, 32, 44, 32, 67, 44, 32, 65, 76, 73, 71, 78, 32, 65, 76, 73, 71, 78, 69, 68, 32, 67, 69, 76, 76, 43, 32, 67, 69, 76, 76, 83, 32, 67, 72, 65, 82, 43, 32, 67, 72, 65, 82, 83, 32, 70, 73, 76, 76, 32, 77, 79, 86, 69, 32, 67, 79, 85, 78, 84, 32], [46, 32, 85, 46, 32, 69, 77, 73, 84, 32, 67, 82, 32, 83, 80, 65, 67, 69, 32, 83, 80, 65, 67, 69, 83, 32, 84, 89, 80, 69, 32, 60, 35, 32, 35, 32, 35, 83, 32, 35, 62, 32, 72, 79, 76, 68, 32, 83, 73, 71, 78, 32, 66, 65, 83, 69, 32, 68, 69, 67, 73, 77, 65, 76, 32, 72, 69, 88, 32, 62, 73, 78, 32], [58, 32, 59, 32, 58, 78, 79, 78, 65, 77, 69, 32, 67, 79, 78, 83, 84, 65, 78, 84, 32, 86, 65, 82, 73, 65, 66, 76, 69, 32, 86, 65, 76, 85, 69, 32, 67, 82, 69, 65, 84, 69, 32, 68, 69, 70, 69, 82, 32, 77, 65, 82, 75, 69, 82, 32, 73, 77, 77, 69, 68, 73, 65, 84, 69, 32, 39, 32, 91, 39, 93, 32, 67, 72, 65, 82, 32, 91, 67, 72, 65, 82, 93, 32, 91, 32, 93, 32, 76, 73, 84, 69, 82, 65, 76, 32, 80, 79, 83, 84, 80, 79, 78, 69, 32, 82, 69, 67, 85, 82, 83, 69, 32, 84, 79, 32, 73, 83, 32, 68, 79, 69, 83, 62, 32, 69, 88, 69, 67, 85, 84, 69, 32, 62, 66, 79, 68, 89, 32, 69, 86, 65, 76, 85, 65, 84, 69, 32, 83, 34, 32, 46, 34, 32, 65, 66, 79, 82, 84, 34, 32, 40, 32, 92, 32, 123, 58, 32, 91, 58, 32, 59, 93, 32], [73, 70, 32, 69, 76, 83, 69, 32, 84, 72, 69, 78, 32, 66, 69, 71, 73, 78, 32, 85, 78, 84, 73, 76, 32, 87, 72, 73, 76, 69, 32, 82, 69, 80, 69, 65, 84, 32, 65, 71, 65, 73, 78, 32, 65, 72, 69, 65, 68, 32, 68, 79, 32, 63, 68, 79, 32, 76, 79, 79, 80, 32, 43, 76, 79, 79, 80, 32, 76, 69, 65, 86, 69, 32, 73, 32, 74, 32, 85, 78, 76, 79, 79, 80, 32, 69, 88, 73, 84, 32, 67, 65, 83, 69, 32, 79, 70, 32, 69, 78, 68, 79, 70, 32, 69, 78, 68, 67, 65, 83, 69, 32], [67, 65, 84, 67, 72, 32, 84, 72, 82, 79, 87, 32, 65, 66, 79, 82, 84, 32, 87, 79, 82, 68, 76, 73, 83, 84, 32, 62, 79, 82, 68, 69, 82, 32, 80, 82, 69, 86, 73, 79, 85, 83, 32, 68, 69, 70, 73, 78, 73, 84, 73, 79, 78, 83, 32, 79, 78, 76, 89, 32, 84, 65, 83, 75, 32, 80, 65, 85, 83, 69, 32, 83, 84, 79, 80, 32, 83, 69, 78, 68, 32, 82, 69, 67, 69, 73, 86, 69, 32, 76, 79, 65, 68, 32, 84, 123, 32, 45, 62, 32, 125, 84, 32], [68, 85, 80, 32, 68, 82, 79, 80, 32, 83, 87, 65, 80, 32, 79, 86, 69, 82, 32, 82, 79, 84, 32, 45, 82, 79, 84, 32, 78, 73, 80, 32, 84, 85, 67, 75, 32, 63, 68, 85, 80, 32, 50, 68, 85, 80, 32, 50, 68, 82, 79, 80, 32, 50, 83, 87, 65, 80, 32, 50, 79, 86, 69, 82, 32, 80, 73, 67, 75, 32, 82, 79, 76, 76, 32, 68, 69, 80, 84, 72, 32, 62, 82, 32, 82, 62, 32, 82, 64, 32, 50, 62, 82, 32, 50, 82, 62, 32, 43, 32, 45, 32, 42, 32, 47, 32, 77, 79, 68, 32, 47, 77, 79, 68, 32, 42, 47, 32, 42, 47, 77, 79, 68, 32, 49, 43, 32, 49, 45, 32, 50, 42, 32, 50, 47, 32, 78, 69, 71, 65, 84, 69, 32, 65, 66, 83, 32, 77, 73, 78, 32, 77, 65, 88, 32, 85, 77, 42, 32, 85, 77, 47, 77, 79, 68, 32, 77, 42, 32, 83, 77, 47, 82, 69, 77, 32, 70, 77, 47, 77, 79, 68, 32, 83, 62, 68, 32, 68, 43, 32, 68, 78, 69, 71, 65, 84, 69, 32, 61, 32, 60, 62, 32, 60, 32, 62, 32, 85, 60, 32, 48, 61, 32, 48, 60, 62, 32, 48, 60, 32, 48, 62, 32, 65, 78, 68, 32, 79, 82, 32, 88, 79, 82, 32, 73, 78, 86, 69, 82, 84, 32, 76, 83, 72, 73, 70, 84, 32, 82, 83, 72, 73, 70, 84, 32, 87, 73, 84, 72, 73, 78, 32, 84, 82, 85, 69, 32, 70, 65, 76, 83, 69, 32, 33, 32, 64, 32, 67, 33, 32, 67, 64, 32, 43, 33, 32, 50, 33, 32, 50, 64, 32, 72, 69, 82, 69, 32, 65, 76, 76, 79, 84, 32, 44, 32, 67, 44, 32, 65, 76, 73, 71, 78, 32, 65, 76, 73, 71, 78, 69, 68, 32, 67, 69, 76, 76, 43, 32, 67, 69, 76, 76, 83, 32, 67, 72, 65, 82, 43, 32, 67, 72, 65, 82, 83, 32, 70, 73, 76, 76, 32, 77, 79, 86, 69, 32, 67, 79, 85, 78, 84, 32, 46, 32, 85, 46, 32, 69, 77, 73, 84, 32, 67, 82, 32, 83, 80, 65, 67, 69, 32, 83, 80, 65, 67, 69, 83, 32, 84, 89, 80, 69, 32, 60, 35, 32, 35, 32, 35, 83, 32, 35, 62, 32, 72, 79, 76, 68, 32, 83, 73, 71, 78, 32, 66, 65, 83, 69, 32, 68, 69, 67, 73, 77, 65, 76, 32, 72, 69, 88, 32, 62, 73, 78, 32, 58, 32, 59, 32, 58, 78, 79, 78, 65, 77, 69, 32, 67, 79, 78, 83, 84, 65, 78, 84, 32, 86, 65, 82, 73, 65, 66, 76, 69, 32, 86, 65, 76, 85, 69, 32, 67, 82, 69, 65, 84, 69, 32, 68, 69, 70, 69, 82, 32, 77, 65, 82, 75, 69, 82, 32, 73, 77, 77, 69, 68, 73, 65, 84, 69, 32, 39, 32, 91, 39, 93, 32, 67, 72, 65, 82, 32, 91, 67, 72, 65, 82, 93, 32, 91, 32, 93, 32, 76, 73, 84, 69, 82, 65, 76, 32, 80, 79, 83, 84, 80, 79, 78, 69, 32, 82, 69, 67, 85, 82, 83, 69, 32, 84, 79, 32, 73, 83, 32, 68, 79, 69, 83, 62, 32, 69, 88, 69, 67, 85, 84, 69, 32, 62, 66, 79, 68, 89, 32, 69, 86, 65, 76, 85, 65, 84, 69, 32, 83, 34, 32, 46, 34, 32, 65, 66, 79, 82, 84, 34, 32, 40, 32, 92, 32, 123, 58, 32, 91, 58, 32, 59, 93, 32, 73, 70, 32, 69, 76, 83, 69, 32, 84, 72, 69, 78, 32, 66, 69, 71, 73, 78, 32, 85, 78, 84, 73, 76, 32, 87, 72, 73, 76, 69, 32, 82, 69, 80, 69, 65, 84, 32, 65, 71, 65, 73, 78, 32, 65, 72, 69, 65, 68, 32, 68, 79, 32, 63, 68, 79, 32, 76, 79, 79, 80, 32, 43, 76, 79, 79, 80, 32, 76, 69, 65, 86, 69, 32, 73, 32, 74, 32, 85, 78, 76, 79, 79, 80, 32, 69, 88, 73, 84, 32, 67, 65, 83, 69, 32, 79, 70, 32, 69, 78, 68, 79, 70, 32, 69, 78, 68, 67, 65, 83, 69, 32, 67, 65, 84, 67, 72, 32, 84, 72, 82, 79, 87, 32, 65, 66, 79, 82, 84, 32, 87, 79, 82, 68, 76, 73, 83, 84, 32, 62, 79, 82, 68, 69, 82, 32, 80, 82, 69, 86, 73, 79, 85, 83, 32, 68, 69, 70, 73, 78, 73, 84, 73, 79, 78, 83, 32, 79, 78, 76, 89, 32, 84, 65, 83, 75, 32, 80, 65, 85, 83, 69, 32, 83, 84, 79, 80, 32, 83, 69, 78, 68, 32, 82, 69, 67, 69, 73, 86, 69, 32, 76, 79, 65, 68, 32, 84, 123, 32, 45, 62, 32, 125, 84, 32], [58, 125], [45, 45], [124]]
/-- static rows of bytes: 13 TAKES, 14 LEAVES, 15 TRAITS -/
def zstat (a : Nat) : Option (List Int32) := if a = 1000013 then some zTAKES else if a = 1000014 then some zLEAVES else if a = 1000015 then some zTRAITS else none
def zatype (t : ArrayType) : Option Nat := match t with
  | .int => some 0
  | .byte => some 1
  | .boolean => some 2
  | _ => none
/-- X: the script -/
def zs1 (X : zX) (own : Nat) (ini : Bool) (pc : Nat) (ls : zL) (st : List Value) (M : zM) (i : Instr) : zR := match i with
  | .getfield x => match zlk own x with
    | some (0, ci, k, _) => (match st with
      | .ref a :: r => (match zob M a with
        | some (.inr (cj, fs)) => if cj = ci then (match fs[k]? with
          | some v => some (pc + 3, ls, v :: r, M)
          | none => none) else none
        | _ => none)
      | _ => none)
    | _ => none
  | .putfield x => match zlk own x with
    | some (0, ci, k, _) => (match st with
      | v :: .ref a :: r => (match zob M a with
        | some (.inr (cj, fs)) => (match zcls[ci]? with
          | some q => if cj = ci ∧ k < fs.length ∧ k < q.2.2 ∧ zfit (zfty ci k) v = true ∧ ((q.2.1 k).2.2.2 = false ∨ (ini = true ∧ (q.2.1 k).1 = zown own)) then some (pc + 3, ls, r, zset M a (.inr (cj, fs.set k v))) else none
          | none => none)
        | _ => none)
      | _ => none)
    | _ => none
  | .iaload => match st with
    | .int j :: .ref a :: r => if a = 1000016 then (if j < 0 ∨ X.1 ≤ j.toNatClampNeg ∨ ¬ X.1 < 2147483648 then none else some (pc + 1, ls, .int (X.2.1 j.toNatClampNeg) :: r, M)) else match zob M a with
      | some (.inl (0, n, .inl f)) => if j < 0 ∨ n ≤ j.toNatClampNeg then none else some (pc + 1, ls, .int (f j.toNatClampNeg) :: r, M)
      | _ => none
    | _ => none
  | .baload => match st with
    | .int j :: .ref a :: r => match zstat a with
      | some l => if j < 0 ∨ l.length ≤ j.toNatClampNeg then none else some (pc + 1, ls, .int (l.getD j.toNatClampNeg 0) :: r, M)
      | none => match zob M a with
        | some (.inl (1, n, .inl f)) => if j < 0 ∨ n ≤ j.toNatClampNeg then none else some (pc + 1, ls, .int (f j.toNatClampNeg) :: r, M)
        | some (.inl (2, n, .inl f)) => if j < 0 ∨ n ≤ j.toNatClampNeg then none else some (pc + 1, ls, .int (f j.toNatClampNeg) :: r, M)
        | _ => none
    | _ => none
  | .aaload => match st with
    | .int j :: .ref a :: r => match zob M a with
      | some (.inl (t, n, .inr (.inr (.inr (.inr f))))) => if t < 3 ∨ j < 0 ∨ n ≤ j.toNatClampNeg then none else some (pc + 1, ls, zrf (f j.toNatClampNeg) :: r, M)
      | _ => none
    | _ => none
  | .iastore => match st with
    | .int x :: .int j :: .ref a :: r => match zob M a with
      | some (.inl (0, n, .inl f)) => if j < 0 ∨ n ≤ j.toNatClampNeg then none else some (pc + 1, ls, r, zset M a (.inl (0, n, .inl (upd f j.toNatClampNeg x))))
      | _ => none
    | _ => none
  | .bastore => match st with
    | .int x :: .int j :: .ref a :: r => match zob M a with
      | some (.inl (1, n, .inl f)) => if j < 0 ∨ n ≤ j.toNatClampNeg then none else some (pc + 1, ls, r, zset M a (.inl (1, n, .inl (upd f j.toNatClampNeg (vp_nar .byte x)))))
      | some (.inl (2, n, .inl f)) => if j < 0 ∨ n ≤ j.toNatClampNeg then none else some (pc + 1, ls, r, zset M a (.inl (2, n, .inl (upd f j.toNatClampNeg (vp_nar .boolean x)))))
      | _ => none
    | _ => none
  | .aastore => match st with
    | .ref v :: .int j :: .ref a :: r => match zob M a with
      | some (.inl (t, n, .inr (.inr (.inr (.inr f))))) => (match zob M v with
        | some (.inr (ci, _)) => (match zcls[ci]? with
          | some q => if t < 3 ∨ j < 0 ∨ n ≤ j.toNatClampNeg ∨ ¬ zty t = .object q.1 then none else some (pc + 1, ls, r, zset M a (.inl (t, n, .inr (.inr (.inr (.inr (va_up f j.toNatClampNeg (some v))))))))
          | none => none)
        | _ => none)
      | _ => none
    | _ => none
  | .arraylength => match st with
    | .ref a :: r => if a = 1000016 then (if X.1 < 2147483648 then some (pc + 1, ls, .int (Int32.ofNat X.1) :: r, M) else none) else match zob M a with
      | some (.inl (_, x)) => some (pc + 1, ls, .int (Int32.ofNat x.1) :: r, M)
      | _ => none
    | _ => none
  | .newarray t => match st with
    | .int n :: r => match zatype t with
      | some k => if n < 0 ∨ ¬ M.1 < 1000000 ∨ ¬ n.toNatClampNeg * componentBytes (zty k) ≤ 536870912 then none else some (pc + 2, ls, .ref M.1 :: r, zpush M (.inl (k, n.toNatClampNeg, .inl (fun _ => 0))))
      | none => none
    | _ => none
  | .anewarray x => match zlk own x with
    | some (3, ci, _, _) => (match st with
      | .int n :: r => if n < 0 ∨ ¬ M.1 < 1000000 ∨ ¬ n.toNatClampNeg * 4 ≤ 536870912 then none else if ci = 1 then some (pc + 3, ls, .ref M.1 :: r, zpush M (.inl (3, n.toNatClampNeg, .inr (.inr (.inr (.inr (fun _ => none))))))) else if ci = 8 then some (pc + 3, ls, .ref M.1 :: r, zpush M (.inl (4, n.toNatClampNeg, .inr (.inr (.inr (.inr (fun _ => none))))))) else none
      | _ => none)
    | _ => none
  | .new x => match zlk own x with
    | some (3, ci, _, _) => (match zcls[ci]? with
      | some q => if M.1 < 1000000 then some (pc + 3, ls, .ref M.1 :: st, zpush M (.inr (ci, zdef ci q.2.2))) else none
      | none => none)
    | _ => none
  | .ldc x => match zlk own x with
    | some (5, a, _, _) => some (pc + 2, ls, .int (Int32.ofNat a) :: st, M)
    | some (7, a, _, _) => some (pc + 2, ls, .ref (1000000 + a) :: st, M)
    | _ => none
  | .ldc_w x => match zlk own x with
    | some (5, a, _, _) => some (pc + 3, ls, .int (Int32.ofNat a) :: st, M)
    | _ => none
  | .ldc2_w x => match zlk own x with
    | some (6, a, _, _) => some (pc + 3, ls, .long (Int64.ofNat a) :: st, M)
    | _ => none
  | .getstatic x => match zlk own x with
    | some (8, a, _, _) => if a = 13 ∨ a = 14 ∨ a = 15 then some (pc + 3, ls, .ref (1000000 + a) :: st, M) else none
    | _ => none
  | .invokespecial x => match zlk own x with
    | some (9, _, _, _) => (match st with
      | .ref _ :: r => if (r.map fun v => v.category).sum ≤ 8 then some (pc + 3, ls, r, M) else none
      | _ => none)
    | _ => none
  | .invokestatic x => match zlk own x with
    | some (10, _, _, _) => (match st with
      | .int n :: .int dp :: .ref a :: .int sp :: .ref a0 :: r => (match zob M a0 with
        | some (.inl (t0, n0, .inl f)) => (match zob M a with
          | some (.inl (t1, n1, .inl g)) => if sp < 0 ∨ dp < 0 ∨ n < 0 ∨ ¬ sp.toNatClampNeg + n.toNatClampNeg ≤ n0 ∨ ¬ dp.toNatClampNeg + n.toNatClampNeg ≤ n1 ∨ ¬ t0 = t1 ∨ ¬ t0 < 2 ∨ ¬ (r.map fun v => v.category).sum ≤ 8 then none else some (pc + 3, ls, r, zset M a (.inl (t1, n1, .inl (va_cpy f g sp.toNatClampNeg dp.toNatClampNeg n.toNatClampNeg))))
          | _ => none)
        | _ => none)
      | _ => none)
    | _ => none
  | _ => none
def zsb (q : Nat) : List Int32 := zstr.getD q []
/-- String constants (1000000 and on, their rows of bytes from 1000020 on), and what String's own methods read -/
def zs3 (X : zX) (own : Nat) (pc : Nat) (ls : zL) (st : List Value) (M : zM) (i : Instr) : zR := match i with
  | .getfield x => match zlk own x with
    | some (11, a, _, _) => (match st with
      | .ref q :: r => if 1000000 ≤ q ∧ q < 1000013 then (if a = 0 then some (pc + 3, ls, .ref (q + 20) :: r, M) else if a = 1 then some (pc + 3, ls, .int 0 :: r, M) else none) else none
      | _ => none)
    | _ => none
  | .arraylength => match st with
    | .ref q :: r => if 1000020 ≤ q ∧ q < 1000033 then some (pc + 1, ls, .int (Int32.ofNat (zsb (q - 1000020)).length) :: r, M) else none
    | _ => none
  | .baload => match st with
    | .int j :: .ref q :: r => if 1000020 ≤ q ∧ q < 1000033 then (if j < 0 ∨ (zsb (q - 1000020)).length ≤ j.toNatClampNeg then none else some (pc + 1, ls, .int ((zsb (q - 1000020)).getD j.toNatClampNeg 0) :: r, M)) else none
    | _ => none
  | .getstatic x => match zlk own x with
    | some (12, _, _, _) => some (pc + 3, ls, .int 1 :: st, M)
    | some (13, _, _, _) => some (pc + 3, ls, (if X.2.2 = 0 then .null else .ref 1000040) :: st, M)
    | _ => none
  | _ => none
end
section
/-! THE ROWS OF THE EVALUATOR, 1: memory and the world -/
theorem z_lk {o k : Nat} {r : Nat × Nat × Nat × Nat} {w : Cond} (ho : o < 21) (h : zlk o k = some r) (h7 : r.1 ≠ 7) (hw : zlkw (zown o) k r = some w) (hn : znest w = false) : w ∈ zW := by
  obtain ⟨w', h1, h2⟩ := zlk_ok o ho k r h h7
  rw [hw] at h1
  cases h1
  rcases h2 with h2 | ⟨-, h2⟩
  · exact h2
  · rw [hn] at h2; cases h2
theorem z_lkN {o k : Nat} {r : Nat × Nat × Nat × Nat} {w : Cond} (ho : o < 21) (h : zlk o k = some r) (h7 : r.1 ≠ 7) (hw : zlkw (zown o) k r = some w) (hn : goodWord w = false) : w ∈ zN := by
  obtain ⟨w', h1, h2⟩ := zlk_ok o ho k r h h7
  rw [hw] at h1
  cases h1
  rcases h2 with h2 | ⟨h2, -⟩
  · have := (List.mem_filter.mp h2).2
    rw [hn] at this; cases this
  · exact h2
theorem z_lk0 {o x ci k p : Nat} (ho : o < 21) (h : zlk o x = some (0, ci, k, p)) : ∃ (C : String) (T : u_T) (N : Nat), zcls[ci]? = some (C, T, N) ∧ k < N ∧ Cond.fieldLink (zown o) x (T k).1 (T k).2.1 (T k).2.2.1 ∈ zW := by
  obtain ⟨w, h1, -⟩ := zlk_ok o ho x _ h (show (0 : Nat) ≠ 7 by decide)
  cases hq : zcls[ci]? with
  | none => simp [zlkw, hq] at h1
  | some q =>
    by_cases hk : k < q.2.2
    · refine ⟨q.1, q.2.1, q.2.2, rfl, hk, z_lk ho h (show (0 : Nat) ≠ 7 by decide) ?_ rfl⟩
      simp [zlkw, hq, hk]
    · simp [zlkw, hq, hk] at h1
def zad (base : Nat) (ex : Nat → Nat) (k : Nat) : Nat := if k < 1000000 then base + k else ex (k - 1000000)
def zA (base : Nat) : Nat → Prop := fun q => base ≤ q
def zcA (ad : Nat → Nat) (a : vp_A) : vp_A := match a with
  | (n, .inl f) => (n, .inl f)
  | (n, .inr (.inl f)) => (n, .inr (.inl f))
  | (n, .inr (.inr (.inl f))) => (n, .inr (.inr (.inl f)))
  | (n, .inr (.inr (.inr (.inl f)))) => (n, .inr (.inr (.inr (.inl f))))
  | (n, .inr (.inr (.inr (.inr f)))) => (n, .inr (.inr (.inr (.inr (fun j => (f j).map ad)))))
theorem zcA_1 (ad : Nat → Nat) (a : vp_A) : (zcA ad a).1 = a.1 := by
  obtain ⟨n, f | f | f | f | f⟩ := a <;> rfl
def zrl (ad : Nat → Nat) (tys : List (ClassId × FieldType)) (e : zE) (w : va_E) : Prop := match e with
  | .inl (t, a) => ∃ (cA : ClassId) (t0 : Nat), tys[t0]? = some (cA, zty t) ∧ w = .inl (cA, zcA ad a)
  | .inr (ci, fs) => w = .inr (ci, zcs ad fs)
theorem zrl.more {ad : Nat → Nat} {tys t2 : List (ClassId × FieldType)} {e : zE} {w : va_E} (h : zrl ad tys e w) : zrl ad (tys ++ t2) e w := by
  match e, h with
  | .inl (t, a), ⟨cA, t0, h1, h2⟩ => exact ⟨cA, t0, by rw [List.getElem?_append_left (List.getElem?_eq_some_iff.mp h1).1]; exact h1, h2⟩
  | .inr (ci, fs), h => exact h
def zWs (ad : Nat → Nat) (M : zM) (ws : va_W) (tys : List (ClassId × FieldType)) : Prop := ws.length = M.1 ∧ ∀ k, k < M.1 → ∃ w, ws[k]? = some (ad k, w) ∧ zrl ad tys (M.2.2 k) w
def zFit (M : zM) : Prop := ∀ (k n : Nat) (f : Nat → Int32), M.2.2 k = .inl (1, n, .inl f) → ∀ j, fits .byte (.int (f j)) = true
theorem zWs.ent {ad : Nat → Nat} {M : zM} {ws : va_W} {tys : List (ClassId × FieldType)} (h : zWs ad M ws tys) {a : Nat} {e : zE} (he : zob M a = some e) : ∃ w, ws[a]? = some (ad a, w) ∧ zrl ad tys e w ∧ a < M.1 := by
  unfold zob at he
  by_cases ha : a < M.1
  · rw [if_pos ha] at he
    cases he
    obtain ⟨w, h1, h2⟩ := h.2 a ha
    exact ⟨w, h1, h2, ha⟩
  · rw [if_neg ha] at he; cases he
theorem zWs.setD {ad : Nat → Nat} {M : zM} {ws : va_W} {tys : List (ClassId × FieldType)} (h : zWs ad M ws tys) {a : Nat} {e : zE} {w : va_E} (ha : a < M.1) (hw : zrl ad tys e w) : zWs ad (zset M a e) (ws.set a (ad a, w)) tys := by
  refine ⟨by rw [List.length_set]; exact h.1, fun k hk => ?_⟩
  have hk' : k < M.1 := hk
  by_cases q : k = a
  · subst q
    refine ⟨w, by rw [List.getElem?_set_self (by rw [h.1]; exact hk')], ?_⟩
    show zrl ad tys (va_up M.2.2 k e k) w
    unfold va_up
    rw [if_pos rfl]
    exact hw
  · obtain ⟨v, h1, h2⟩ := h.2 k hk'
    refine ⟨v, by rw [List.getElem?_set_ne (fun z => q z.symm)]; exact h1, ?_⟩
    show zrl ad tys (va_up M.2.2 a e k) v
    unfold va_up
    rw [if_neg q]
    exact h2
theorem zWs.push {ad : Nat → Nat} {M : zM} {ws : va_W} {tys t2 : List (ClassId × FieldType)} (h : zWs ad M ws tys) {e : zE} {w : va_E} (hw : zrl ad (tys ++ t2) e w) : zWs ad (zpush M e) (ws ++ [(ad M.1, w)]) (tys ++ t2) := by
  refine ⟨by rw [List.length_append, h.1]; rfl, fun k hk => ?_⟩
  have hk' : k < M.1 + 1 := hk
  by_cases q : k = M.1
  · subst q
    refine ⟨w, by rw [List.getElem?_append_right (by rw [h.1]; exact Nat.le_refl _), h.1, Nat.sub_self]; rfl, ?_⟩
    show zrl ad _ (va_up M.2.2 M.1 e M.1) w
    unfold va_up
    rw [if_pos rfl]
    exact hw
  · obtain ⟨v, h1, h2⟩ := h.2 k (by omega)
    refine ⟨v, by rw [List.getElem?_append_left (by rw [h.1]; omega)]; exact h1, ?_⟩
    show zrl ad _ (va_up M.2.2 M.1 e k) v
    unfold va_up
    rw [if_neg q]
    exact h2.more
theorem zWs.D {base : Nat} {ex : Nat → Nat} {M : zM} {ws : va_W} {tys : List (ClassId × FieldType)} (h : zWs (zad base ex) M ws tys) (hM : M.1 ≤ 1000000) : va_D (zA base) ws := by
  have key : ∀ (i : Nat) (p : Nat × va_E), ws[i]? = some p → p.1 = base + i := by
    intro i p hp
    have hi : i < M.1 := by rw [← h.1]; exact (List.getElem?_eq_some_iff.mp hp).1
    obtain ⟨w, h1, -⟩ := h.2 i hi
    rw [hp] at h1
    cases h1
    show zad base ex i = base + i
    unfold zad
    rw [if_pos (by omega)]
  refine ⟨fun i j p q hp hq he => ?_, fun k q hq => ?_⟩
  · have h1 := key i p hp
    have h2 := key j q hq
    omega
  · have h1 := key k q hq
    show base ≤ q.1
    omega
theorem zfit_cv {ad : Nat → Nat} {ty : FieldType} {v : Value} (h : zfit ty v = true) : narrow ty (zcv ad v) = zcv ad v ∧ fits ty (zcv ad v) = true := by
  unfold zfit at h
  simp only [Bool.and_eq_true, decide_eq_true_eq] at h
  cases v with
  | ref a =>
    refine ⟨?_, ?_⟩
    · cases ty <;> rfl
    · have := h.2
      cases ty <;> first | rfl | (simp [fits] at this)
  | _ => exact h
theorem zcs_get {ad : Nat → Nat} {fs : List Value} {k : Nat} {v : Value} (h : fs[k]? = some v) : (zcs ad fs)[k]? = some (zcv ad v) := by
  unfold zcs
  rw [List.getElem?_map, h]
  rfl
theorem zcs_set {ad : Nat → Nat} {fs : List Value} {k : Nat} {v : Value} : (zcs ad fs).set k (zcv ad v) = zcs ad (fs.set k v) := by
  unfold zcs
  rw [List.map_set]
theorem zcs_len {ad : Nat → Nat} {fs : List Value} : (zcs ad fs).length = fs.length := by simp [zcs]
theorem zcv_rf {ad : Nat → Nat} (r : Option Nat) : zcv ad (zrf r) = va_rf (r.map ad) := by cases r <;> rfl
theorem zcs_def {ad : Nat → Nat} (ci n : Nat) : zcs ad (zdef ci n) = zdef ci n := by
  unfold zcs zdef
  rw [List.map_map]
  refine congrArg (fun f => List.map f (List.range n)) (funext fun k => ?_)
  show zcv ad (defaultValue (zfty ci k)) = defaultValue (zfty ci k)
  cases zfty ci k <;> rfl
theorem zdef_get {ci n j : Nat} (h : j < n) : defaultValue (zfty ci j) = vp_V (zdef ci n) j := by
  unfold vp_V zdef
  rw [List.getD_eq_getElem?_getD, List.getElem?_map, List.getElem?_range h]
  rfl
theorem zdef_len (ci n : Nat) : (zdef ci n).length = n := by simp [zdef]
theorem zFit.set {M : zM} (h : zFit M) {a : Nat} {e : zE} (he : ∀ (n : Nat) (f : Nat → Int32), e = .inl (1, n, .inl f) → ∀ j, fits .byte (.int (f j)) = true) : zFit (zset M a e) := by
  intro k n f hk
  by_cases q : k = a
  · subst q
    have hk : va_up M.2.2 k e k = .inl (1, n, .inl f) := hk
    unfold va_up at hk
    rw [if_pos rfl] at hk
    exact he n f hk
  · have hk : va_up M.2.2 a e k = .inl (1, n, .inl f) := hk
    unfold va_up at hk
    rw [if_neg q] at hk
    exact h k n f hk
theorem zFit.push {M : zM} (h : zFit M) {e : zE} (he : ∀ (n : Nat) (f : Nat → Int32), e = .inl (1, n, .inl f) → ∀ j, fits .byte (.int (f j)) = true) : zFit (zpush M e) := by
  intro k n f hk
  by_cases q : k = M.1
  · subst q
    have hk : va_up M.2.2 M.1 e M.1 = .inl (1, n, .inl f) := hk
    unfold va_up at hk
    rw [if_pos rfl] at hk
    exact he n f hk
  · have hk : va_up M.2.2 M.1 e k = .inl (1, n, .inl f) := hk
    unfold va_up at hk
    rw [if_neg q] at hk
    exact h k n f hk
theorem znar_byte (x : Int32) : fits .byte (.int (vp_nar .byte x)) = true := by
  rw [vp_nar_byte]
  simp only [fits, Bool.and_eq_true, decide_eq_true_eq]
  have h1 : x.toInt8.toInt32.toInt = x.toInt8.toInt := Int8.toInt_toInt32 _
  have h2 := Int8.le_toInt x.toInt8
  have h3 := Int8.toInt_lt x.toInt8
  constructor
  · rw [Int32.le_iff_toInt_le, h1]
    have : (-128 : Int32).toInt = -128 := by decide
    omega
  · rw [Int32.le_iff_toInt_le, h1]
    have : (127 : Int32).toInt = 127 := by decide
    omega
/-- what lay there before: the script, the static rows of bytes, the strings, and the tables' words of the nest -/
def zExt (base : Nat) (ex : Nat → Nat) (X : zX) (U : State) (H : Heap) : Prop :=
  va_X (ex 16) X.1 X.2.1 U H ∧ ex 16 < base ∧
  (va_T .byte (ex 13) 172 (fun j => .int (zTAKES.getD j 0)) (zA base) U H ∧ va_Z "ForthHouse" "TAKES" "[B" (.ref (ex 13)) (zA base) U H) ∧
  (va_T .byte (ex 14) 172 (fun j => .int (zLEAVES.getD j 0)) (zA base) U H ∧ va_Z "ForthHouse" "LEAVES" "[B" (.ref (ex 14)) (zA base) U H) ∧
  (va_T .byte (ex 15) 172 (fun j => .int (zTRAITS.getD j 0)) (zA base) U H ∧ va_Z "ForthHouse" "TRAITS" "[B" (.ref (ex 15)) (zA base) U H) ∧
  (∀ w ∈ zN, va_Nw w U) ∧ va_AO "ForthHouse$Forth" U ∧ va_AO "ForthHouse$Task" U ∧
  (∀ o k r, o < 21 → zlk o k = some r → r.1 = 7 → ∃ tx, vk_R (zown o) k tx (ex r.2.1) U) ∧
  vk_S 13 (zstr.map List.length) zstr ex (fun i => ex (20 + i)) (zA base) U H ∧ va_Z "java/lang/String" "COMPACT_STRINGS" "Z" (.int 1) (zA base) U H ∧
  va_Z "jdk/internal/util/Preconditions" "SIOOBE_FORMATTER" "Ljava/util/function/BiFunction;" (if X.2.2 = 0 then .null else .ref (ex 40)) (zA base) U H
/-- the world at a place within a method that began at s -/
def zMid (base : Nat) (ex : Nat → Nat) (dC : Nat → ClassId) (dI : Nat → Nat → Nat) (s : State) (M : zM) (H : Heap) (locs : List Loc) : Prop :=
  M.1 ≤ 1000000 ∧ base ≤ s.heap.size ∧ va_S (zA base) s.heap H locs ∧ zFit M ∧ ∃ ws tys, zWs (zad base ex) M ws tys ∧ va_P (dC, dI) zcls ws H ∧ va_K (dC, dI) zcls tys s
section ZS1
variable {p : Program} {l : Launch} {e : Env} {R : Room} {s : State} {m : MethodId} {args : Array Value} {below : List Frame} {meth : Method} {c : Code} {H : Heap} {locs : List Loc} {cells slots : Nat} {Q : State → Prop} {cc : ByteArray} {base : Nat} {ex : Nat → Nat} {dC : Nat → ClassId} {dI : Nat → Nat → Nat} {X : zX} {own : Nat} {ini : Bool} {pc nL len pc' c0 s0 : Nat} {i : Instr} {ls ls' : zL} {st st' : List Value} {M M' : zM} {L : Array Slot}
theorem W.size (k : H.size ≤ s.heap.size + cells → W p l e R s m args below meth c H locs cells slots Q (F0 m pc L st)) : W p l e R s m args below meth c H locs cells slots Q (F0 m pc L st) := fun T hT Y => k (by rw [← hT]; exact Y.heapSize) T hT Y
/-- what stands throughout a method -/
def zCtx (p : Program) (s : State) (m : MethodId) (args : Array Value) (meth : Method) (c : Code) (R : Room) (cc : ByteArray) (base : Nat) (ex : Nat → Nat) (X : zX) (own : Nat) (ini : Bool) (nL c0 : Nat) : Prop :=
  p.tables.exec = Jvm.exec ∧ c.code = cc ∧ s.vm.findClass (zown own) = some m.cls ∧ own < 21 ∧ (∀ w ∈ zW, w.before args s = true) ∧ zExt base ex X s s.heap ∧ (ini = true → meth.name = "<init>") ∧ c.maxLocals = nL ∧ 1 ≤ R.frames ∧ 200 ≤ R.locals ∧ s.heap.size = base + c0
/-- goes on, the world being M' -/
def zGo (p : Program) (l : Launch) (e : Env) (R : Room) (s : State) (m : MethodId) (args : Array Value) (below : List Frame) (meth : Method) (c : Code) (Q : State → Prop) (base : Nat) (ex : Nat → Nat) (dC : Nat → ClassId) (dI : Nat → Nat → Nat) (nL c0 s0 : Nat) (pc : Nat) (ls : zL) (st : List Value) (M : zM) : Prop :=
  ∀ (L : Array Slot) (H : Heap) (locs : List Loc) (cells slots : Nat), cells + c0 = M.1 → slots + s0 = M.2.1 → lv_has L nL (zcl (zad base ex) ls) → zMid base ex dC dI s M H locs → W p l e R s m args below meth c H locs cells slots Q (F0 m pc L (zcs (zad base ex) st))
theorem zMid.write {a : Nat} {e : zE} {w : va_E} {ws : va_W} {tys : List (ClassId × FieldType)} {H1 : Heap} {locs1 : List Loc} (h1 : M.1 ≤ 1000000) (h2 : base ≤ s.heap.size) (hF : zFit M) (hR : zWs (zad base ex) M ws tys) (hK : va_K (dC, dI) zcls tys s) (ha : a < M.1) (hw : zrl (zad base ex) tys e w) (he : ∀ (n : Nat) (f : Nat → Int32), e = .inl (1, n, .inl f) → ∀ j, fits .byte (.int (f j)) = true)
    (hP : va_P (dC, dI) zcls (ws.set a (zad base ex a, w)) H1) (hS : va_S (zA base) s.heap H1 locs1) : zMid base ex dC dI s (zset M a e) H1 locs1 :=
  ⟨h1, h2, hS, hF.set he, _, _, hR.setD ha hw, hP, hK⟩
theorem z_getfield {x : Nat} (C : zCtx p s m args meth c R cc base ex X own ini nL c0) (hd : decode cc pc = .ok (.getfield x, 3)) (h : zs1 X own ini pc ls st M (.getfield x) = some (pc', ls', st', M')) (hl : lv_has L nL (zcl (zad base ex) ls)) (hM : zMid base ex dC dI s M H locs) (hcc : cells + c0 = M.1) (hss : slots + s0 = M.2.1)
    (kk : zGo p l e R s m args below meth c Q base ex dC dI nL c0 s0 pc' ls' st' M') : W p l e R s m args below meth c H locs cells slots Q (F0 m pc L (zcs (zad base ex) st)) := by
  obtain ⟨hx, hb, hown, ho, hts, hE, hini, hml, hRf, hRl, hs0⟩ := id C
  simp only [zs1] at h
  split at h
  · rename_i ci k q hlk
    split at h
    · rename_i a r
      split at h
      · rename_i cj fs he
        split at h
        · rename_i hc
          subst hc
          split at h
          · rename_i v hv
            cases h
            obtain ⟨h1, h2, hS, hF, ws, tys, hR, hP, hK⟩ := id hM
            obtain ⟨w, hw, hrl, hlt⟩ := hR.ent he
            have hw' : w = .inr (cj, zcs (zad base ex) fs) := hrl
            subst hw'
            obtain ⟨Cn, T, N, hcl, hkN, hlw⟩ := z_lk0 ho hlk
            exact va_get hx hb hts (zcls_ok _ _ hcl).1 hown hK hP a hw hcl k hkN (hts _ hlw) (fun _ h => h) (zcs_get hv) hd (kk L H locs cells slots hcc hss hl hM)
          · cases h
        · cases h
      · cases h
    · cases h
  · cases h
theorem z_putfield {x : Nat} (C : zCtx p s m args meth c R cc base ex X own ini nL c0) (hd : decode cc pc = .ok (.putfield x, 3)) (h : zs1 X own ini pc ls st M (.putfield x) = some (pc', ls', st', M')) (hl : lv_has L nL (zcl (zad base ex) ls)) (hM : zMid base ex dC dI s M H locs) (hcc : cells + c0 = M.1) (hss : slots + s0 = M.2.1)
    (kk : zGo p l e R s m args below meth c Q base ex dC dI nL c0 s0 pc' ls' st' M') : W p l e R s m args below meth c H locs cells slots Q (F0 m pc L (zcs (zad base ex) st)) := by
  obtain ⟨hx, hb, hown, ho, hts, hE, hini, hml, hRf, hRl, hs0⟩ := id C
  simp only [zs1] at h
  split at h
  · rename_i ci k q hlk
    split at h
    · rename_i v a r
      split at h
      · rename_i cj fs he
        split at h
        · rename_i qq hq
          split at h
          · rename_i hc
            obtain ⟨hc, hk, hkN, hfit, hfin⟩ := hc
            subst hc
            cases h
            obtain ⟨h1, h2, hS, hF, ws, tys, hR, hP, hK⟩ := id hM
            obtain ⟨w, hw, hrl, hlt⟩ := hR.ent he
            have hw' : w = .inr (cj, zcs (zad base ex) fs) := hrl
            subst hw'
            obtain ⟨Cn, T, N, hcl, -, hlw⟩ := z_lk0 ho hlk
            rw [hcl] at hq
            cases hq
            obtain ⟨hf1, hf2⟩ := zfit_cv (ad := zad base ex) hfit
            obtain ⟨z1, z2, z3⟩ := zcls_ok _ _ hcl
            have fin : ∀ (H1 : Heap) (locs1 : List Loc), va_P (dC, dI) zcls (ws.set a (zad base ex a, .inr (cj, (zcs (zad base ex) fs).set k (zcv (zad base ex) v)))) H1 → va_D (zA base) (ws.set a (zad base ex a, .inr (cj, (zcs (zad base ex) fs).set k (zcv (zad base ex) v)))) → va_S (zA base) s.heap H1 locs1 → W p l e R s m args below meth c H1 locs1 cells slots Q (F0 m (pc + 3) L (zcs (zad base ex) st')) := by
              intro H1 locs1 hP1 hD1 hS1
              rw [zcs_set] at hP1
              exact kk L H1 locs1 cells slots hcc hss hl (zMid.write h1 h2 hF hR hK hlt rfl (fun n f hz => by cases hz) hP1 hS1)
            by_cases hb2 : (T k).2.2.2 = false
            · exact va_put hx hb hts z1 _ z2 z3 hown hK hP (hR.D h1) hS a hw hcl k hkN (hts _ hlw) (fun _ h => h) hb2 (z2 k hkN) hf1 hf2 (by rw [zcs_len]; exact hk) hd fin
            · rcases hfin with hfin | ⟨hfin, hdecl⟩
              · exact absurd hfin hb2
              · exact va_putF hx hb hts z1 _ z2 z3 hown hK hP (hR.D h1) hS a hw hcl k hkN (hts _ hlw) (fun _ h => h) (by simpa using hb2) (hini hfin) hdecl (z2 k hkN) hf1 hf2 (by rw [zcs_len]; exact hk) hd fin
          · cases h
        · cases h
      · cases h
    · cases h
  · cases h
theorem zad_out (base : Nat) (ex : Nat → Nat) (k : Nat) : zad base ex (1000000 + k) = ex k := by
  unfold zad
  rw [if_neg (by omega), Nat.add_sub_cancel_left]
theorem z_iaload (C : zCtx p s m args meth c R cc base ex X own ini nL c0) (hd : decode cc pc = .ok (.iaload, 1)) (h : zs1 X own ini pc ls st M .iaload = some (pc', ls', st', M')) (hl : lv_has L nL (zcl (zad base ex) ls)) (hM : zMid base ex dC dI s M H locs) (hcc : cells + c0 = M.1) (hss : slots + s0 = M.2.1)
    (kk : zGo p l e R s m args below meth c Q base ex dC dI nL c0 s0 pc' ls' st' M') : W p l e R s m args below meth c H locs cells slots Q (F0 m pc L (zcs (zad base ex) st)) := by
  obtain ⟨hx, hb, hown, ho, hts, hE, hini, hml, hRf, hRl, hs0⟩ := id C
  obtain ⟨h1, h2, hS, hF, ws, tys, hR, hP, hK⟩ := id hM
  simp only [zs1] at h
  split at h
  · rename_i j a r
    split at h
    · rename_i ha
      split at h
      · cases h
      · rename_i hin
        have hin : vp_in j X.1 := fun q => hin (by rcases q with q | q
                                                   · exact Or.inl q
                                                   · exact Or.inr (Or.inl q))
        cases h
        subst ha
        have hXs := hE.1
        have hbl : ex 16 < s.heap.size := Nat.lt_of_lt_of_le hE.2.1 h2
        have := va_sld (Q := Q) (ls := L) (rest := zcs (zad base ex) r) hx hb hXs hbl (Nat.not_le.mpr hE.2.1) hS (i := j) hin hd (kk L H locs cells slots hcc hss hl hM)
        rw [← zad_out base ex 16] at this
        exact this
    · split at h
      · rename_i n f he
        split at h
        · cases h
        · rename_i hin
          cases h
          obtain ⟨w, hw, ⟨cA, t0, ht, hrl⟩, hlt⟩ := hR.ent he
          subst hrl
          exact va_iald hx hb hK hP a t0 hw ht hin hd (kk L H locs cells slots hcc hss hl hM)
      · cases h
  · cases h
theorem zstat_ok {base : Nat} {ex : Nat → Nat} {X : zX} {U : State} {Hp : Heap} (hE : zExt base ex X U Hp) {a : Nat} {q : List Int32} (h : zstat a = some q) : q.length = 172 ∧ va_T .byte (zad base ex a) 172 (fun j => .int (q.getD j 0)) (zA base) U Hp := by
  obtain ⟨-, -, ⟨e1, -⟩, ⟨e2, -⟩, ⟨e3, -⟩, -⟩ := hE
  unfold zstat at h
  split at h
  · rename_i q1
    cases h
    subst q1
    exact ⟨by decide +kernel, (zad_out base ex 13).symm ▸ e1⟩
  · split at h
    · rename_i q1
      cases h
      subst q1
      exact ⟨by decide +kernel, (zad_out base ex 14).symm ▸ e2⟩
    · split at h
      · rename_i q1
        cases h
        subst q1
        exact ⟨by decide +kernel, (zad_out base ex 15).symm ▸ e3⟩
      · cases h
theorem z_baload (C : zCtx p s m args meth c R cc base ex X own ini nL c0) (hd : decode cc pc = .ok (.baload, 1)) (h : zs1 X own ini pc ls st M .baload = some (pc', ls', st', M')) (hl : lv_has L nL (zcl (zad base ex) ls)) (hM : zMid base ex dC dI s M H locs) (hcc : cells + c0 = M.1) (hss : slots + s0 = M.2.1)
    (kk : zGo p l e R s m args below meth c Q base ex dC dI nL c0 s0 pc' ls' st' M') : W p l e R s m args below meth c H locs cells slots Q (F0 m pc L (zcs (zad base ex) st)) := by
  obtain ⟨hx, hb, hown, ho, hts, hE, hini, hml, hRf, hRl, hs0⟩ := id C
  obtain ⟨h1, h2, hS, hF, ws, tys, hR, hP, hK⟩ := id hM
  simp only [zs1] at h
  split at h
  · rename_i j a r
    split at h
    · rename_i q hq
      split at h
      · cases h
      · rename_i hin
        cases h
        obtain ⟨z1, z2⟩ := zstat_ok hE hq
        rw [z1] at hin
        exact va_tb hx hb z2 hS hin rfl hd (kk L H locs cells slots hcc hss hl hM)
    · split at h
      · rename_i n f he
        split at h
        · cases h
        · rename_i hin
          cases h
          obtain ⟨w, hw, ⟨cA, t0, ht, hrl⟩, hlt⟩ := hR.ent he
          subst hrl
          exact va_bald hx hb hK hP a t0 hw ht hin hd (kk L H locs cells slots hcc hss hl hM)
      · rename_i n f he
        split at h
        · cases h
        · rename_i hin
          cases h
          obtain ⟨w, hw, ⟨cA, t0, ht, hrl⟩, hlt⟩ := hR.ent he
          subst hrl
          exact va_zald hx hb hK hP a t0 hw ht hin hd (kk L H locs cells slots hcc hss hl hM)
      · cases h
  · cases h
theorem zty_obj {t : Nat} (h : ¬ t < 3) : ∃ C : String, zty t = .object C := by
  match t, h with
  | 0, h => exact absurd (by decide) h
  | 1, h => exact absurd (by decide) h
  | 2, h => exact absurd (by decide) h
  | 3, _ => exact ⟨_, rfl⟩
  | k + 4, _ => exact ⟨_, rfl⟩
theorem z_aaload (C : zCtx p s m args meth c R cc base ex X own ini nL c0) (hd : decode cc pc = .ok (.aaload, 1)) (h : zs1 X own ini pc ls st M .aaload = some (pc', ls', st', M')) (hl : lv_has L nL (zcl (zad base ex) ls)) (hM : zMid base ex dC dI s M H locs) (hcc : cells + c0 = M.1) (hss : slots + s0 = M.2.1)
    (kk : zGo p l e R s m args below meth c Q base ex dC dI nL c0 s0 pc' ls' st' M') : W p l e R s m args below meth c H locs cells slots Q (F0 m pc L (zcs (zad base ex) st)) := by
  obtain ⟨hx, hb, hown, ho, hts, hE, hini, hml, hRf, hRl, hs0⟩ := id C
  obtain ⟨h1, h2, hS, hF, ws, tys, hR, hP, hK⟩ := id hM
  simp only [zs1] at h
  split at h
  · rename_i j a r
    split at h
    · rename_i t n f he
      split at h
      · cases h
      · rename_i hc
        cases h
        obtain ⟨w, hw, ⟨cA, t0, ht, hrl⟩, hlt⟩ := hR.ent he
        subst hrl
        obtain ⟨Cn, hty⟩ := zty_obj (fun q => hc (Or.inl q))
        rw [hty] at ht
        have hin : vp_in j n := fun q => hc (Or.inr q)
        have hgo := kk L H locs cells slots hcc hss hl hM
        rw [zcs_cons, zcv_rf] at hgo
        exact va_aldq hx hb hK hP a t0 hw ht hin hd hgo
    · cases h
  · cases h
theorem z_iastore (C : zCtx p s m args meth c R cc base ex X own ini nL c0) (hd : decode cc pc = .ok (.iastore, 1)) (h : zs1 X own ini pc ls st M .iastore = some (pc', ls', st', M')) (hl : lv_has L nL (zcl (zad base ex) ls)) (hM : zMid base ex dC dI s M H locs) (hcc : cells + c0 = M.1) (hss : slots + s0 = M.2.1)
    (kk : zGo p l e R s m args below meth c Q base ex dC dI nL c0 s0 pc' ls' st' M') : W p l e R s m args below meth c H locs cells slots Q (F0 m pc L (zcs (zad base ex) st)) := by
  obtain ⟨hx, hb, hown, ho, hts, hE, hini, hml, hRf, hRl, hs0⟩ := id C
  obtain ⟨h1, h2, hS, hF, ws, tys, hR, hP, hK⟩ := id hM
  simp only [zs1] at h
  split at h
  · rename_i x j a r
    split at h
    · rename_i n f he
      split at h
      · cases h
      · rename_i hin
        cases h
        obtain ⟨w, hw, ⟨cA, t0, ht, hrl⟩, hlt⟩ := hR.ent he
        subst hrl
        exact va_iast hx hb hK hP (hR.D h1) hS a t0 hw ht hin hd (fun H1 locs1 hP1 hD1 hS1 => kk L H1 locs1 cells slots hcc hss hl (zMid.write h1 h2 hF hR hK hlt ⟨cA, t0, ht, rfl⟩ (fun n f hz => by cases hz) hP1 hS1))
    · cases h
  · cases h
theorem z_bastore (C : zCtx p s m args meth c R cc base ex X own ini nL c0) (hd : decode cc pc = .ok (.bastore, 1)) (h : zs1 X own ini pc ls st M .bastore = some (pc', ls', st', M')) (hl : lv_has L nL (zcl (zad base ex) ls)) (hM : zMid base ex dC dI s M H locs) (hcc : cells + c0 = M.1) (hss : slots + s0 = M.2.1)
    (kk : zGo p l e R s m args below meth c Q base ex dC dI nL c0 s0 pc' ls' st' M') : W p l e R s m args below meth c H locs cells slots Q (F0 m pc L (zcs (zad base ex) st)) := by
  obtain ⟨hx, hb, hown, ho, hts, hE, hini, hml, hRf, hRl, hs0⟩ := id C
  obtain ⟨h1, h2, hS, hF, ws, tys, hR, hP, hK⟩ := id hM
  simp only [zs1] at h
  split at h
  · rename_i x j a r
    split at h
    · rename_i n f he
      split at h
      · cases h
      · rename_i hin
        cases h
        obtain ⟨w, hw, ⟨cA, t0, ht, hrl⟩, hlt⟩ := hR.ent he
        subst hrl
        have hfit : ∀ k, fits .byte (.int (f k)) = true := by
          unfold zob at he
          rw [if_pos hlt] at he
          exact hF a n f (Option.some.inj he)
        refine va_bast hx hb hK hP (hR.D h1) hS a t0 hw ht hin hd (fun H1 locs1 hP1 hD1 hS1 => kk L H1 locs1 cells slots hcc hss hl (zMid.write h1 h2 hF hR hK hlt ⟨cA, t0, ht, rfl⟩ (fun n2 f2 hz k => ?_) hP1 hS1))
        cases hz
        unfold upd
        split
        · exact znar_byte x
        · exact hfit k
    · rename_i n f he
      split at h
      · cases h
      · rename_i hin
        cases h
        obtain ⟨w, hw, ⟨cA, t0, ht, hrl⟩, hlt⟩ := hR.ent he
        subst hrl
        exact va_zast hx hb hK hP (hR.D h1) hS a t0 hw ht hin hd (fun H1 locs1 hP1 hD1 hS1 => kk L H1 locs1 cells slots hcc hss hl (zMid.write h1 h2 hF hR hK hlt ⟨cA, t0, ht, rfl⟩ (fun n f hz => by cases hz) hP1 hS1))
    · cases h
  · cases h
theorem zup_map {ad : Nat → Nat} (f : Nat → Option Nat) (j v : Nat) : (fun k => (va_up f j (some v) k).map ad) = va_up (fun k => (f k).map ad) j (some (ad v)) := by
  funext k
  unfold va_up
  split <;> rfl
theorem z_aastore (C : zCtx p s m args meth c R cc base ex X own ini nL c0) (hd : decode cc pc = .ok (.aastore, 1)) (h : zs1 X own ini pc ls st M .aastore = some (pc', ls', st', M')) (hl : lv_has L nL (zcl (zad base ex) ls)) (hM : zMid base ex dC dI s M H locs) (hcc : cells + c0 = M.1) (hss : slots + s0 = M.2.1)
    (kk : zGo p l e R s m args below meth c Q base ex dC dI nL c0 s0 pc' ls' st' M') : W p l e R s m args below meth c H locs cells slots Q (F0 m pc L (zcs (zad base ex) st)) := by
  obtain ⟨hx, hb, hown, ho, hts, hE, hini, hml, hRf, hRl, hs0⟩ := id C
  obtain ⟨h1, h2, hS, hF, ws, tys, hR, hP, hK⟩ := id hM
  simp only [zs1] at h
  split at h
  · rename_i v j a r
    split at h
    · rename_i t n f he
      split at h
      · rename_i ci fs hv
        split at h
        · rename_i q hq
          split at h
          · cases h
          · rename_i hc
            cases h
            obtain ⟨w, hw, ⟨cA, t0, ht, hrl⟩, hlt⟩ := hR.ent he
            subst hrl
            obtain ⟨w2, hw2, hrl2, hlt2⟩ := hR.ent hv
            have hrl2 : w2 = .inr (ci, zcs (zad base ex) fs) := hrl2
            subst hrl2
            have hty : zty t = .object q.1 := by
              by_cases z : zty t = .object q.1
              · exact z
              · exact absurd (Or.inr (Or.inr (Or.inr z))) hc
            have hin : vp_in j n := fun z => hc (by rcases z with z | z
                                                    · exact Or.inr (Or.inl z)
                                                    · exact Or.inr (Or.inr (Or.inl z)))
            have ht2 := ht
            rw [hty] at ht
            refine va_astq hx hb hK hP (hR.D h1) hS a t0 v ci hw ht hw2 hq hin hd (fun H1 locs1 hP1 hD1 hS1 => ?_)
            rw [← zup_map] at hP1
            exact kk L H1 locs1 cells slots hcc hss hl (zMid.write h1 h2 hF hR hK hlt ⟨cA, t0, ht2, rfl⟩ (fun n f hz => by cases hz) hP1 hS1)
        · cases h
      · cases h
    · cases h
  · cases h
theorem z_arraylength (C : zCtx p s m args meth c R cc base ex X own ini nL c0) (hd : decode cc pc = .ok (.arraylength, 1)) (h : zs1 X own ini pc ls st M .arraylength = some (pc', ls', st', M')) (hl : lv_has L nL (zcl (zad base ex) ls)) (hM : zMid base ex dC dI s M H locs) (hcc : cells + c0 = M.1) (hss : slots + s0 = M.2.1)
    (kk : zGo p l e R s m args below meth c Q base ex dC dI nL c0 s0 pc' ls' st' M') : W p l e R s m args below meth c H locs cells slots Q (F0 m pc L (zcs (zad base ex) st)) := by
  obtain ⟨hx, hb, hown, ho, hts, hE, hini, hml, hRf, hRl, hs0⟩ := id C
  obtain ⟨h1, h2, hS, hF, ws, tys, hR, hP, hK⟩ := id hM
  simp only [zs1] at h
  split at h
  · rename_i a r
    split at h
    · rename_i ha
      split at h
      · cases h
        subst ha
        have hXs := hE.1
        have hbl : ex 16 < s.heap.size := Nat.lt_of_lt_of_le hE.2.1 h2
        have := va_slen (Q := Q) (ls := L) (rest := zcs (zad base ex) r) hx hb hXs hbl (Nat.not_le.mpr hE.2.1) hS hd (kk L H locs cells slots hcc hss hl hM)
        rw [← zad_out base ex 16] at this
        exact this
      · cases h
    · split at h
      · rename_i t x he
        cases h
        obtain ⟨w, hw, ⟨cA, t0, ht, hrl⟩, hlt⟩ := hR.ent he
        subst hrl
        exact va_alen hx hb hK hP a t0 hw ht (by rw [zcA_1]) hd (kk L H locs cells slots hcc hss hl hM)
      · cases h
  · cases h
theorem z_fresh {q : Nat} {w : va_E} {ws : va_W} {tys : List (ClassId × FieldType)} {H1 : Heap} (hP1 : va_P (dC, dI) zcls (ws ++ [(q, w)]) H1) (hD1 : va_D (zA base) (ws ++ [(q, w)])) (hR : zWs (zad base ex) M ws tys) (hM1 : M.1 < 1000000) (hsz : H1.size ≤ base + (M.1 + 1)) : q = zad base ex M.1 := by
  have hat : (ws ++ [(q, w)])[M.1]? = some (q, w) := by
    rw [List.getElem?_append_right (by rw [hR.1]; exact Nat.le_refl _), hR.1, Nat.sub_self]
    rfl
  have h1 : q < H1.size := (hP1 M.1 (q, w) hat).lt
  have h2 : base ≤ q := hD1.2 M.1 (q, w) hat
  unfold zad
  rw [if_pos hM1]
  by_cases h3 : q = base + M.1
  · exact h3
  · exfalso
    have hk : q - base < M.1 := by omega
    obtain ⟨v, hv, -⟩ := hR.2 (q - base) hk
    have hz : zad base ex (q - base) = q := by
      unfold zad
      rw [if_pos (by omega)]
      omega
    rw [hz] at hv
    have hv2 : (ws ++ [(q, w)])[q - base]? = some (q, v) := by
      rw [List.getElem?_append_left (by rw [hR.1]; exact hk)]
      exact hv
    have := hD1.1 (q - base) M.1 (q, v) (q, w) hv2 hat rfl
    omega
theorem zMid.new {e : zE} {w : va_E} {ws : va_W} {tys t2 : List (ClassId × FieldType)} {H1 : Heap} {locs1 : List Loc} (h2 : base ≤ s.heap.size) (hF : zFit M) (hR : zWs (zad base ex) M ws tys) (hK : va_K (dC, dI) zcls (tys ++ t2) s) (hM1 : M.1 < 1000000) (hw : zrl (zad base ex) (tys ++ t2) e w) (he : ∀ (n : Nat) (f : Nat → Int32), e = .inl (1, n, .inl f) → ∀ j, fits .byte (.int (f j)) = true)
    (hP : va_P (dC, dI) zcls (ws ++ [(zad base ex M.1, w)]) H1) (hS : va_S (zA base) s.heap H1 locs1) : zMid base ex dC dI s (zpush M e) H1 locs1 :=
  ⟨hM1, h2, hS, hF.push he, _, _, hR.push hw, hP, hK⟩
theorem zatype_ok {t : ArrayType} {k : Nat} (h : zatype t = some k) : newarray.typeOf t = zty k ∧ (Cond.arrayClass (newarray.typeOf t)) ∈ zW ∧ ∀ (cA : ClassId) (n : Nat), vp_cell cA (n, .inl (fun _ => 0)) = arrV cA n (fun _ => defaultValue (zty k)) := by
  cases t <;> simp only [zatype, Option.some.injEq, reduceCtorEq] at h <;> subst h
  · exact ⟨rfl, zw_arr2, fun _ _ => rfl⟩
  · exact ⟨rfl, zw_arr1, fun _ _ => rfl⟩
  · exact ⟨rfl, zw_arr0, fun _ _ => rfl⟩
theorem z_newarray {t : ArrayType} (C : zCtx p s m args meth c R cc base ex X own ini nL c0) (hd : decode cc pc = .ok (.newarray t, 2)) (h : zs1 X own ini pc ls st M (.newarray t) = some (pc', ls', st', M')) (hl : lv_has L nL (zcl (zad base ex) ls)) (hM : zMid base ex dC dI s M H locs) (hcc : cells + c0 = M.1) (hss : slots + s0 = M.2.1) (hRc : M'.1 ≤ R.cells + c0) (hRs : M'.2.1 ≤ R.slots + s0)
    (kk : zGo p l e R s m args below meth c Q base ex dC dI nL c0 s0 pc' ls' st' M') : W p l e R s m args below meth c H locs cells slots Q (F0 m pc L (zcs (zad base ex) st)) := by
  obtain ⟨hx, hb, hown, ho, hts, hE, hini, hml, hRf, hRl, hs0⟩ := id C
  obtain ⟨h1, h2, hS, hF, ws, tys, hR, hP, hK⟩ := id hM
  simp only [zs1] at h
  split at h
  · rename_i n r
    split at h
    · rename_i k hk
      split at h
      · cases h
      · rename_i hc
        cases h
        obtain ⟨z1, z2, z3⟩ := zatype_ok hk
        have hM1 : M.1 < 1000000 := by
          by_cases q : M.1 < 1000000
          · exact q
          · exact absurd (Or.inr (Or.inl q)) hc
        have hby : n.toNatClampNeg * componentBytes (zty k) ≤ 536870912 := by
          by_cases q : n.toNatClampNeg * componentBytes (zty k) ≤ 536870912
          · exact q
          · exact absurd (Or.inr (Or.inr q)) hc
        have e1 : (zpush M (.inl (k, n.toNatClampNeg, .inl (fun _ => 0)))).1 = M.1 + 1 := rfl
        have e2 : (zpush M (.inl (k, n.toNatClampNeg, .inl (fun _ => 0)))).2.1 = M.2.1 + n.toNatClampNeg := rfl
        rw [e1] at hRc
        rw [e2] at hRs
        refine va_newa hx hb (hts _ z2) z1 hK hP (hR.D h1) hS (fun q hq => Nat.le_trans h2 hq) (fun cA => z3 cA _) (fun q => hc (Or.inl q)) rfl hby (by omega) (by omega) hd (fun q cA H1 hK1 hP1 hD1 hS1 => ?_)
        refine W.size (fun hsz => ?_)
        have hq := z_fresh hP1 hD1 hR hM1 (by omega)
        subst hq
        refine kk L H1 locs (cells + 1) (slots + n.toNatClampNeg) (by rw [e1]; omega) (by rw [e2]; omega) hl (zMid.new h2 hF hR hK1 hM1 ⟨cA, tys.length, by simp, rfl⟩ (fun n2 f2 hz j => ?_) hP1 hS1)
        cases hz
        rfl
    · cases h
  · cases h
theorem z_lk3 {o x ci b p : Nat} (ho : o < 21) (h : zlk o x = some (3, ci, b, p)) : ∃ q, zcls[ci]? = some q ∧ Cond.classLink (zown o) x q.1 ∈ zW := by
  obtain ⟨w, h1, -⟩ := zlk_ok o ho x _ h (show (3 : Nat) ≠ 7 by decide)
  cases hq : zcls[ci]? with
  | none => simp [zlkw, hq] at h1
  | some q => exact ⟨q, rfl, z_lk ho h (show (3 : Nat) ≠ 7 by decide) (by simp [zlkw, hq]) rfl⟩
theorem z_anewarray {x : Nat} (C : zCtx p s m args meth c R cc base ex X own ini nL c0) (hd : decode cc pc = .ok (.anewarray x, 3)) (h : zs1 X own ini pc ls st M (.anewarray x) = some (pc', ls', st', M')) (hl : lv_has L nL (zcl (zad base ex) ls)) (hM : zMid base ex dC dI s M H locs) (hcc : cells + c0 = M.1) (hss : slots + s0 = M.2.1) (hRc : M'.1 ≤ R.cells + c0) (hRs : M'.2.1 ≤ R.slots + s0)
    (kk : zGo p l e R s m args below meth c Q base ex dC dI nL c0 s0 pc' ls' st' M') : W p l e R s m args below meth c H locs cells slots Q (F0 m pc L (zcs (zad base ex) st)) := by
  obtain ⟨hx, hb, hown, ho, hts, hE, hini, hml, hRf, hRl, hs0⟩ := id C
  obtain ⟨h1, h2, hS, hF, ws, tys, hR, hP, hK⟩ := id hM
  simp only [zs1] at h
  split at h
  · rename_i ci b2 p2 hlk
    split at h
    · rename_i n r
      split at h
      · cases h
      · rename_i hc
        have hM1 : M.1 < 1000000 := by
          by_cases q : M.1 < 1000000
          · exact q
          · exact absurd (Or.inr (Or.inl q)) hc
        have hby : n.toNatClampNeg * 4 ≤ 536870912 := by
          by_cases q : n.toNatClampNeg * 4 ≤ 536870912
          · exact q
          · exact absurd (Or.inr (Or.inr q)) hc
        split at h
        · rename_i hci
          cases h
          subst hci
          have e1 : (zpush M (.inl (3, n.toNatClampNeg, .inr (.inr (.inr (.inr (fun _ => none))))))).1 = M.1 + 1 := rfl
          have e2 : (zpush M (.inl (3, n.toNatClampNeg, .inr (.inr (.inr (.inr (fun _ => none))))))).2.1 = M.2.1 + n.toNatClampNeg := rfl
          rw [e1] at hRc
          rw [e2] at hRs
          obtain ⟨q, hq, hw⟩ := z_lk3 ho hlk
          cases hq
          refine va_newq hx hb hown (C := "ForthHouse$Forth") (hts _ hw) hE.2.2.2.2.2.2.1 hK hP (hR.D h1) hS (fun q hq => Nat.le_trans h2 hq) (fun q => hc (Or.inl q)) rfl hby (by omega) (by omega) hd (fun q cA H1 hK1 hP1 hD1 hS1 => ?_)
          refine W.size (fun hsz => ?_)
          have hq := z_fresh hP1 hD1 hR hM1 (by omega)
          subst hq
          exact kk L H1 locs (cells + 1) (slots + n.toNatClampNeg) (by rw [e1]; omega) (by rw [e2]; omega) hl (zMid.new h2 hF hR hK1 hM1 ⟨cA, tys.length, by simp [zty], rfl⟩ (fun n2 f2 hz j => by cases hz) hP1 hS1)
        · split at h
          · rename_i hci
            cases h
            subst hci
            have e1 : (zpush M (.inl (4, n.toNatClampNeg, .inr (.inr (.inr (.inr (fun _ => none))))))).1 = M.1 + 1 := rfl
            have e2 : (zpush M (.inl (4, n.toNatClampNeg, .inr (.inr (.inr (.inr (fun _ => none))))))).2.1 = M.2.1 + n.toNatClampNeg := rfl
            rw [e1] at hRc
            rw [e2] at hRs
            obtain ⟨q, hq, hw⟩ := z_lk3 ho hlk
            cases hq
            refine va_newq hx hb hown (C := "ForthHouse$Task") (hts _ hw) hE.2.2.2.2.2.2.2.1 hK hP (hR.D h1) hS (fun q hq => Nat.le_trans h2 hq) (fun q => hc (Or.inl q)) rfl hby (by omega) (by omega) hd (fun q cA H1 hK1 hP1 hD1 hS1 => ?_)
            refine W.size (fun hsz => ?_)
            have hq := z_fresh hP1 hD1 hR hM1 (by omega)
            subst hq
            exact kk L H1 locs (cells + 1) (slots + n.toNatClampNeg) (by rw [e1]; omega) (by rw [e2]; omega) hl (zMid.new h2 hF hR hK1 hM1 ⟨cA, tys.length, by simp [zty], rfl⟩ (fun n2 f2 hz j => by cases hz) hP1 hS1)
          · cases h
    · cases h
  · cases h
theorem z_new {x : Nat} (C : zCtx p s m args meth c R cc base ex X own ini nL c0) (hd : decode cc pc = .ok (.new x, 3)) (h : zs1 X own ini pc ls st M (.new x) = some (pc', ls', st', M')) (hl : lv_has L nL (zcl (zad base ex) ls)) (hM : zMid base ex dC dI s M H locs) (hcc : cells + c0 = M.1) (hss : slots + s0 = M.2.1) (hRc : M'.1 ≤ R.cells + c0) (hRs : M'.2.1 ≤ R.slots + s0)
    (kk : zGo p l e R s m args below meth c Q base ex dC dI nL c0 s0 pc' ls' st' M') : W p l e R s m args below meth c H locs cells slots Q (F0 m pc L (zcs (zad base ex) st)) := by
  obtain ⟨hx, hb, hown, ho, hts, hE, hini, hml, hRf, hRl, hs0⟩ := id C
  obtain ⟨h1, h2, hS, hF, ws, tys, hR, hP, hK⟩ := id hM
  simp only [zs1] at h
  split at h
  · rename_i ci b2 p2 hlk
    split at h
    · rename_i q hq
      split at h
      · rename_i hM1
        cases h
        obtain ⟨q2, hq2, hw⟩ := z_lk3 ho hlk
        rw [hq] at hq2
        cases hq2
        obtain ⟨z1, z2, z3⟩ := zcls_ok _ _ hq
        obtain ⟨z4, z5⟩ := zw_cls _ _ hq
        have e1 : (zpush M (.inr (ci, zdef ci q.2.2))).1 = M.1 + 1 := rfl
        have e2 : (zpush M (.inr (ci, zdef ci q.2.2))).2.1 = M.2.1 + q.2.2 := by
          show M.2.1 + (zdef ci q.2.2).length = _
          rw [zdef_len]
        rw [e1] at hRc
        rw [e2] at hRs
        refine va_new (ci := ci) (fs := zdef ci q.2.2) (N := q.2.2) hx hb hts z1 _ z2 hown (hts _ hw) (hts _ z4) (hts _ z5) hK hP (hR.D h1) hS (fun q hq => Nat.le_trans h2 hq) hq (fun j hj => zdef_get hj) (by omega) (by omega) hd (fun q0 H1 hP1 hD1 hS1 => ?_)
        refine W.size (fun hsz => ?_)
        have hq0 := z_fresh hP1 hD1 hR hM1 (by omega)
        subst hq0
        have hK1 : va_K (dC, dI) zcls (tys ++ []) s := by rw [List.append_nil]; exact hK
        exact kk L H1 locs (cells + 1) (slots + q.2.2) (by rw [e1]; omega) (by rw [e2]; omega) hl (zMid.new h2 hF hR hK1 hM1 (show _ = _ by rw [zcs_def]) (fun n2 f2 hz j => by cases hz) hP1 hS1)
      · cases h
    · cases h
  · cases h
theorem z_ldc {x : Nat} (C : zCtx p s m args meth c R cc base ex X own ini nL c0) (hd : decode cc pc = .ok (.ldc x, 2)) (h : zs1 X own ini pc ls st M (.ldc x) = some (pc', ls', st', M')) (hl : lv_has L nL (zcl (zad base ex) ls)) (hM : zMid base ex dC dI s M H locs) (hcc : cells + c0 = M.1) (hss : slots + s0 = M.2.1)
    (kk : zGo p l e R s m args below meth c Q base ex dC dI nL c0 s0 pc' ls' st' M') : W p l e R s m args below meth c H locs cells slots Q (F0 m pc L (zcs (zad base ex) st)) := by
  obtain ⟨hx, hb, hown, ho, hts, hE, hini, hml, hRf, hRl, hs0⟩ := id C
  obtain ⟨h1, h2, hS, hF, ws, tys, hR, hP, hK⟩ := id hM
  simp only [zs1] at h
  split at h
  · rename_i a b2 p2 hlk
    cases h
    exact lv_ldc hx hb hown (hts _ (z_lk ho hlk (show (5 : Nat) ≠ 7 by decide) rfl rfl)) hd (kk L H locs cells slots hcc hss hl hM)
  · rename_i a b2 p2 hlk
    cases h
    obtain ⟨tx, htx⟩ := hE.2.2.2.2.2.2.2.2.1 own x _ ho hlk rfl
    have hgo := kk L H locs cells slots hcc hss hl hM
    rw [zcs_cons] at hgo
    have hz : zcv (zad base ex) (.ref (1000000 + a)) = .ref (ex a) := congrArg Value.ref (zad_out base ex a)
    rw [hz] at hgo
    exact va_ldcS hx hb hown htx hd hgo
  · cases h
theorem z_ldc_w {x : Nat} (C : zCtx p s m args meth c R cc base ex X own ini nL c0) (hd : decode cc pc = .ok (.ldc_w x, 3)) (h : zs1 X own ini pc ls st M (.ldc_w x) = some (pc', ls', st', M')) (hl : lv_has L nL (zcl (zad base ex) ls)) (hM : zMid base ex dC dI s M H locs) (hcc : cells + c0 = M.1) (hss : slots + s0 = M.2.1)
    (kk : zGo p l e R s m args below meth c Q base ex dC dI nL c0 s0 pc' ls' st' M') : W p l e R s m args below meth c H locs cells slots Q (F0 m pc L (zcs (zad base ex) st)) := by
  obtain ⟨hx, hb, hown, ho, hts, hE, hini, hml, hRf, hRl, hs0⟩ := id C
  obtain ⟨h1, h2, hS, hF, ws, tys, hR, hP, hK⟩ := id hM
  simp only [zs1] at h
  split at h
  · rename_i a b2 p2 hlk
    cases h
    exact lv_ldcw hx hb hown (hts _ (z_lk ho hlk (show (5 : Nat) ≠ 7 by decide) rfl rfl)) hd (kk L H locs cells slots hcc hss hl hM)
  · cases h
theorem z_ldc2_w {x : Nat} (C : zCtx p s m args meth c R cc base ex X own ini nL c0) (hd : decode cc pc = .ok (.ldc2_w x, 3)) (h : zs1 X own ini pc ls st M (.ldc2_w x) = some (pc', ls', st', M')) (hl : lv_has L nL (zcl (zad base ex) ls)) (hM : zMid base ex dC dI s M H locs) (hcc : cells + c0 = M.1) (hss : slots + s0 = M.2.1)
    (kk : zGo p l e R s m args below meth c Q base ex dC dI nL c0 s0 pc' ls' st' M') : W p l e R s m args below meth c H locs cells slots Q (F0 m pc L (zcs (zad base ex) st)) := by
  obtain ⟨hx, hb, hown, ho, hts, hE, hini, hml, hRf, hRl, hs0⟩ := id C
  obtain ⟨h1, h2, hS, hF, ws, tys, hR, hP, hK⟩ := id hM
  simp only [zs1] at h
  split at h
  · rename_i a b2 p2 hlk
    cases h
    exact lv_ldc2 hx hb hown (hts _ (z_lk ho hlk (show (6 : Nat) ≠ 7 by decide) rfl rfl)) hd (kk L H locs cells slots hcc hss hl hM)
  · cases h
theorem z_getstatic {x : Nat} (C : zCtx p s m args meth c R cc base ex X own ini nL c0) (hd : decode cc pc = .ok (.getstatic x, 3)) (h : zs1 X own ini pc ls st M (.getstatic x) = some (pc', ls', st', M')) (hl : lv_has L nL (zcl (zad base ex) ls)) (hM : zMid base ex dC dI s M H locs) (hcc : cells + c0 = M.1) (hss : slots + s0 = M.2.1)
    (kk : zGo p l e R s m args below meth c Q base ex dC dI nL c0 s0 pc' ls' st' M') : W p l e R s m args below meth c H locs cells slots Q (F0 m pc L (zcs (zad base ex) st)) := by
  obtain ⟨hx, hb, hown, ho, hts, hE, hini, hml, hRf, hRl, hs0⟩ := id C
  obtain ⟨h1, h2, hS, hF, ws, tys, hR, hP, hK⟩ := id hM
  simp only [zs1] at h
  split at h
  · rename_i a b2 p2 hlk
    split at h
    · rename_i ha
      cases h
      have hgo := kk L H locs cells slots hcc hss hl hM
      rw [zcs_cons] at hgo
      have hz : zcv (zad base ex) (.ref (1000000 + a)) = .ref (ex a) := congrArg Value.ref (zad_out base ex a)
      rw [hz] at hgo
      have hw := z_lkN ho hlk (show (8 : Nat) ≠ 7 by decide) rfl rfl
      have hw2 := va_Nw.use (A := args) rfl (hE.2.2.2.2.2.1 _ hw)
      rcases ha with rfl | rfl | rfl
      · exact va_getsN hx hb hE.2.2.1.2 hS hown hw2 (fun _ h => h) hd hgo
      · exact va_getsN hx hb hE.2.2.2.1.2 hS hown hw2 (fun _ h => h) hd hgo
      · exact va_getsN hx hb hE.2.2.2.2.1.2 hS hown hw2 (fun _ h => h) hd hgo
    · cases h
  · cases h
theorem zcs_cat {ad : Nat → Nat} (st : List Value) : ((zcs ad st).map fun v => v.category).sum = (st.map fun v => v.category).sum := by
  unfold zcs
  rw [List.map_map]
  refine congrArg List.sum (congrArg (fun f => List.map f st) (funext fun v => ?_))
  exact zcv_cat ad v
theorem z_objinit {x : Nat} (C : zCtx p s m args meth c R cc base ex X own ini nL c0) (hd : decode cc pc = .ok (.invokespecial x, 3)) (h : zs1 X own ini pc ls st M (.invokespecial x) = some (pc', ls', st', M')) (hl : lv_has L nL (zcl (zad base ex) ls)) (hM : zMid base ex dC dI s M H locs) (hcc : cells + c0 = M.1) (hss : slots + s0 = M.2.1)
    (kk : zGo p l e R s m args below meth c Q base ex dC dI nL c0 s0 pc' ls' st' M') : W p l e R s m args below meth c H locs cells slots Q (F0 m pc L (zcs (zad base ex) st)) := by
  obtain ⟨hx, hb, hown, ho, hts, hE, hini, hml, hRf, hRl, hs0⟩ := id C
  obtain ⟨h1, h2, hS, hF, ws, tys, hR, hP, hK⟩ := id hM
  simp only [zs1] at h
  split at h
  · rename_i a b2 p2 hlk
    split at h
    · rename_i q r
      split at h
      · rename_i hr8
        cases h
        refine W.objInit hx hb hown (hts _ (z_lk ho hlk (show (9 : Nat) ≠ 7 by decide) rfl rfl)) (hts _ zw_obj1) (hts _ zw_obj2) rfl (hl.1.trans hml.symm) rfl hd hRf ?_ (kk L H locs cells slots hcc hss hl hM)
        show 2 * 0 + _ + 12 ≤ _
        have := zcs_cat (ad := zad base ex) st'
        unfold zcs at this
        omega
      · cases h
    · cases h
  · cases h
theorem z_arraycopy {x : Nat} (C : zCtx p s m args meth c R cc base ex X own ini nL c0) (hd : decode cc pc = .ok (.invokestatic x, 3)) (h : zs1 X own ini pc ls st M (.invokestatic x) = some (pc', ls', st', M')) (hl : lv_has L nL (zcl (zad base ex) ls)) (hM : zMid base ex dC dI s M H locs) (hcc : cells + c0 = M.1) (hss : slots + s0 = M.2.1)
    (kk : zGo p l e R s m args below meth c Q base ex dC dI nL c0 s0 pc' ls' st' M') : W p l e R s m args below meth c H locs cells slots Q (F0 m pc L (zcs (zad base ex) st)) := by
  obtain ⟨hx, hb, hown, ho, hts, hE, hini, hml, hRf, hRl, hs0⟩ := id C
  obtain ⟨h1, h2, hS, hF, ws, tys, hR, hP, hK⟩ := id hM
  simp only [zs1] at h
  split at h
  · rename_i a2 b2 p2 hlk
    split at h
    · rename_i n dp a sp a0 r
      split at h
      · rename_i t0 n0 f he0
        split at h
        · rename_i t1 n1 g he1
          split at h
          · cases h
          · rename_i hc
            cases h
            simp only [not_or, Classical.not_not] at hc
            obtain ⟨c1, c2, c3, c4, c5, c6, c7, c8⟩ := hc
            subst c6
            obtain ⟨w0, hw0, ⟨cA0, i0, ht0, hrl0⟩, hlt0⟩ := hR.ent he0
            subst hrl0
            obtain ⟨w1, hw1, ⟨cA1, i1, ht1, hrl1⟩, hlt1⟩ := hR.ent he1
            subst hrl1
            have fitf : t0 = 1 → ∀ k, fits .byte (.int (f k)) = true := by
              intro z
              subst z
              unfold zob at he0
              rw [if_pos hlt0] at he0
              exact hF a0 n0 f (Option.some.inj he0)
            have fitg : t0 = 1 → ∀ k, fits .byte (.int (g k)) = true := by
              intro z
              subst z
              unfold zob at he1
              rw [if_pos hlt1] at he1
              exact hF a n1 g (Option.some.inj he1)
            have hty : (t0 = 0 ∧ zty t0 = .int) ∨ (t0 = 1 ∧ zty t0 = .byte) := by
              rcases (show t0 = 0 ∨ t0 = 1 by omega) with z | z
              · subst z; exact Or.inl ⟨rfl, rfl⟩
              · subst z; exact Or.inr ⟨rfl, rfl⟩
            have hprim : refKind (zty t0) = false := by
              rcases hty with ⟨-, z⟩ | ⟨-, z⟩ <;> rw [z] <;> rfl
            refine va_copyi hx hb (hml.trans hl.1.symm) hown (hts _ (z_lk ho hlk (show (10 : Nat) ≠ 7 by decide) rfl rfl)) (hts _ zw_cpy1) (hts _ zw_cpy2) (hts _ zw_cpy3) hK hP (hR.D h1) hS a0 a i0 i1 hw0 hw1 ht0 ht1 hprim c1 c2 c3 c4 c5 (fun k hk => ?_) hRf ?_ hd (fun H1 locs1 hP1 hD1 hS1 => kk L H1 locs1 cells slots hcc hss hl (zMid.write h1 h2 hF hR hK hlt1 ⟨cA1, i1, ht1, rfl⟩ (fun n2 f2 hz k => ?_) hP1 hS1))
            · rcases hty with ⟨-, z⟩ | ⟨z1, z⟩
              · rw [z]; rfl
              · rw [z]; exact fitf z1 _
            · have := zcs_cat (ad := zad base ex) st'
              have e7 : nativeFrameWords "java/lang/System" "arraycopy" 5 = 7 := by decide +kernel
              rw [e7]
              unfold zcs at this
              omega
            · cases hz
              unfold va_cpy
              split
              · exact fitf rfl _
              · exact fitg rfl _
        · cases h
      · cases h
    · cases h
  · cases h
theorem zstr_at {base : Nat} {ex : Nat → Nat} {U : State} {Hp : Heap} (hST : vk_S 13 (zstr.map List.length) zstr ex (fun i => ex (20 + i)) (zA base) U Hp) {q : Nat} (hq : 1000020 ≤ q ∧ q < 1000033) : va_T .byte (zad base ex q) (zsb (q - 1000020)).length (fun j => .int ((zsb (q - 1000020)).getD j 0)) (zA base) U Hp := by
  have h := (hST.1 (q - 1000020) (by omega)).2.2.2
  have e1 : zad base ex q = ex (20 + (q - 1000020)) := by
    unfold zad
    rw [if_neg (by omega)]
    exact congrArg ex (by omega)
  have e2 : (zstr.map List.length).getD (q - 1000020) 0 = (zsb (q - 1000020)).length := by
    unfold zsb
    simp only [List.getD_eq_getElem?_getD, List.getElem?_map]
    cases zstr[q - 1000020]? <;> rfl
  rw [e2] at h
  rw [e1]
  exact h
theorem z_sgetfield {x : Nat} (C : zCtx p s m args meth c R cc base ex X own ini nL c0) (hd : decode cc pc = .ok (.getfield x, 3)) (h : zs3 X own pc ls st M (.getfield x) = some (pc', ls', st', M')) (hl : lv_has L nL (zcl (zad base ex) ls)) (hM : zMid base ex dC dI s M H locs) (hcc : cells + c0 = M.1) (hss : slots + s0 = M.2.1)
    (kk : zGo p l e R s m args below meth c Q base ex dC dI nL c0 s0 pc' ls' st' M') : W p l e R s m args below meth c H locs cells slots Q (F0 m pc L (zcs (zad base ex) st)) := by
  obtain ⟨hx, hb, hown, ho, hts, hE, hini, hml, hRf, hRl, hs0⟩ := id C
  obtain ⟨h1, h2, hS, hF, ws, tys, hR, hP, hK⟩ := id hM
  obtain ⟨-, -, -, -, -, -, -, -, -, hST, hCS, hSF⟩ := hE
  simp only [zs3] at h
  split at h
  · rename_i a b2 p2 hlk
    split at h
    · rename_i q r
      by_cases hq : 1000000 ≤ q ∧ q < 1000013
      · rw [if_pos hq] at h
        have hq : @LE.le Nat _ 1000000 q ∧ @LT.lt Nat _ q 1000013 := hq
        have e1 : zad base ex q = ex (q - 1000000) := by
          unfold zad
          rw [if_neg (by omega)]
        have hs := hST.1 (q - 1000000) (by omega)
        have hz : zcs (zad base ex) (.ref q :: r) = .ref (ex (q - 1000000)) :: zcs (zad base ex) r := by rw [zcs_cons]; exact congrArg (fun z => Value.ref z :: zcs (zad base ex) r) e1
        split at h
        · rename_i ha
          subst ha
          cases h
          have hgo := kk L H locs cells slots hcc hss hl hM
          have e2 : zad base ex (q + 20) = ex (20 + (q - 1000000)) := by
            unfold zad
            rw [if_neg (by omega)]
            exact congrArg ex (by omega)
          have hz2 : zcs (zad base ex) (.ref (q + 20) :: r) = .ref (ex (20 + (q - 1000000))) :: zcs (zad base ex) r := by rw [zcs_cons]; exact congrArg (fun z => Value.ref z :: zcs (zad base ex) r) e2
          rw [hz2] at hgo
          rw [hz]
          exact vk_getf hx hb hs.2.2.1 hS hown (hts _ (z_lk ho hlk (show (11 : Nat) ≠ 7 by decide) rfl rfl)) (fun _ h => h) hd hgo
        · split at h
          · rename_i ha
            subst ha
            cases h
            rw [hz]
            exact vk_getf hx hb hs.2.1 hS hown (hts _ (z_lk ho hlk (show (11 : Nat) ≠ 7 by decide) rfl rfl)) (fun _ h => h) hd (kk L H locs cells slots hcc hss hl hM)
          · cases h
      · rw [if_neg hq] at h
        cases h
    · cases h
  · cases h
theorem z_sarraylength (C : zCtx p s m args meth c R cc base ex X own ini nL c0) (hd : decode cc pc = .ok (.arraylength, 1)) (h : zs3 X own pc ls st M (.arraylength) = some (pc', ls', st', M')) (hl : lv_has L nL (zcl (zad base ex) ls)) (hM : zMid base ex dC dI s M H locs) (hcc : cells + c0 = M.1) (hss : slots + s0 = M.2.1)
    (kk : zGo p l e R s m args below meth c Q base ex dC dI nL c0 s0 pc' ls' st' M') : W p l e R s m args below meth c H locs cells slots Q (F0 m pc L (zcs (zad base ex) st)) := by
  obtain ⟨hx, hb, hown, ho, hts, hE, hini, hml, hRf, hRl, hs0⟩ := id C
  obtain ⟨h1, h2, hS, hF, ws, tys, hR, hP, hK⟩ := id hM
  obtain ⟨-, -, -, -, -, -, -, -, -, hST, hCS, hSF⟩ := hE
  simp only [zs3] at h
  split at h
  · rename_i q r
    split at h
    · rename_i hq
      cases h
      exact va_tlen hx hb (zstr_at hST hq) hS rfl hd (kk L H locs cells slots hcc hss hl hM)
    · cases h
  · cases h
theorem z_sbaload (C : zCtx p s m args meth c R cc base ex X own ini nL c0) (hd : decode cc pc = .ok (.baload, 1)) (h : zs3 X own pc ls st M (.baload) = some (pc', ls', st', M')) (hl : lv_has L nL (zcl (zad base ex) ls)) (hM : zMid base ex dC dI s M H locs) (hcc : cells + c0 = M.1) (hss : slots + s0 = M.2.1)
    (kk : zGo p l e R s m args below meth c Q base ex dC dI nL c0 s0 pc' ls' st' M') : W p l e R s m args below meth c H locs cells slots Q (F0 m pc L (zcs (zad base ex) st)) := by
  obtain ⟨hx, hb, hown, ho, hts, hE, hini, hml, hRf, hRl, hs0⟩ := id C
  obtain ⟨h1, h2, hS, hF, ws, tys, hR, hP, hK⟩ := id hM
  obtain ⟨-, -, -, -, -, -, -, -, -, hST, hCS, hSF⟩ := hE
  simp only [zs3] at h
  split at h
  · rename_i j q r
    split at h
    · rename_i hq
      split at h
      · cases h
      · rename_i hin
        cases h
        exact va_tb hx hb (zstr_at hST hq) hS hin rfl hd (kk L H locs cells slots hcc hss hl hM)
    · cases h
  · cases h
theorem z_sgetstatic {x : Nat} (C : zCtx p s m args meth c R cc base ex X own ini nL c0) (hd : decode cc pc = .ok (.getstatic x, 3)) (h : zs3 X own pc ls st M (.getstatic x) = some (pc', ls', st', M')) (hl : lv_has L nL (zcl (zad base ex) ls)) (hM : zMid base ex dC dI s M H locs) (hcc : cells + c0 = M.1) (hss : slots + s0 = M.2.1)
    (kk : zGo p l e R s m args below meth c Q base ex dC dI nL c0 s0 pc' ls' st' M') : W p l e R s m args below meth c H locs cells slots Q (F0 m pc L (zcs (zad base ex) st)) := by
  obtain ⟨hx, hb, hown, ho, hts, hE, hini, hml, hRf, hRl, hs0⟩ := id C
  obtain ⟨h1, h2, hS, hF, ws, tys, hR, hP, hK⟩ := id hM
  obtain ⟨-, -, -, -, -, -, -, -, -, hST, hCS, hSF⟩ := hE
  simp only [zs3] at h
  split at h
  · rename_i a b2 p2 hlk
    cases h
    exact va_gets hx hb hCS hS hown (hts _ (z_lk ho hlk (show (12 : Nat) ≠ 7 by decide) rfl rfl)) (fun _ h => h) hd (kk L H locs cells slots hcc hss hl hM)
  · rename_i a b2 p2 hlk
    cases h
    have hgo := kk L H locs cells slots hcc hss hl hM
    rw [zcs_cons] at hgo
    have hz : zcv (zad base ex) (if X.2.2 = 0 then .null else .ref 1000040) = (if X.2.2 = 0 then .null else .ref (ex 40)) := by
      split
      · rfl
      · exact congrArg Value.ref (zad_out base ex 40)
    rw [hz] at hgo
    exact va_gets hx hb hSF hS hown (hts _ (z_lk ho hlk (show (13 : Nat) ≠ 7 by decide) rfl rfl)) (fun _ h => h) hd hgo
  · cases h
end ZS1
end
section
/-! THE EVALUATOR, 2: calls, returns, whole methods -/
/-- name, bytes, locals, answer, parameters, class, kind (0 static, 1 of an object, 2 constructor), instructions -/
abbrev zMe : Type := MethodName × ByteArray × Nat × Option FieldType × Nat × Nat × Nat × (Nat → Option (Instr × Nat))
def zret (ret : Option FieldType) (i : Instr) (st : List Value) : Option (Option Value) := match i with
  | .return_ => match ret, st with
    | none, [] => some none
    | _, _ => none
  | .ireturn => match ret, st with
    | some ty, [.int v] => if narrow ty (.int v) = .int v then some (some (.int v)) else none
    | _, _ => none
  | .lreturn => match ret, st with
    | some .long, [.long v] => some (some (.long v))
    | _, _ => none
  | .areturn => match ret, st with
    | some (.object _), [.ref a] => some (some (.ref a))
    | some (.object _), [.null] => some (some .null)
    | _, _ => none
  | _ => none
def zs2 (meth : Nat → Option zMe) (call : Nat → List Value → zM → Option (Option Value × zM)) (own : Nat) (pc : Nat) (ls : zL) (st : List Value) (M : zM) (i : Instr) : zR := match i with
  | .invokevirtual x => match zlk own x with
    | some (t, a, n, _) => (match meth a with
      | some r => (match st.drop n with
        | .ref b :: rest => if 1000000 ≤ b ∧ b < 1000013 then (if (t = 1 ∨ t = 2) ∧ zmn a = r.1 ∧ r.2.2.2.2.1 = n ∧ r.2.2.2.2.2.2.1 = 1 ∧ "java/lang/String" = r.1.cls ∧ (st.take n).length = n ∧ (rest.map fun v => v.category).sum ≤ 8 then (match call a (.ref b :: (st.take n).reverse) M with
                | some (v, M') => some (pc + 3, ls, v.toList ++ rest, M')
                | none => none) else none) else (match zob M b with
          | some (.inr (ci, _)) => (match zcls[ci]? with
            | some q => if (t = 1 ∨ t = 2) ∧ zmn a = r.1 ∧ r.2.2.2.2.1 = n ∧ r.2.2.2.2.2.2.1 = 1 ∧ q.1 = r.1.cls ∧ (st.take n).length = n ∧ (rest.map fun v => v.category).sum ≤ 8 then (match call a (.ref b :: (st.take n).reverse) M with
                | some (v, M') => some (pc + 3, ls, v.toList ++ rest, M')
                | none => none) else none
            | none => none)
          | _ => none)
        | _ => none)
      | none => none)
    | none => none
  | .invokespecial x => match zlk own x with
    | some (t, a, n, _) => (match meth a with
      | some r => (match st.drop n with
        | .ref b :: rest => if (t = 1 ∨ t = 2) ∧ zmn a = r.1 ∧ r.2.2.2.2.1 = n ∧ r.2.2.2.2.2.2.1 = 2 ∧ (st.take n).length = n ∧ (rest.map fun v => v.category).sum ≤ 8 then (match call a (.ref b :: (st.take n).reverse) M with
            | some (v, M') => some (pc + 3, ls, v.toList ++ rest, M')
            | none => none) else none
        | _ => none)
      | none => none)
    | none => none
  | .invokestatic x => match zlk own x with
    | some (t, a, n, _) => (match meth a with
      | some r => if (t = 1 ∨ t = 2) ∧ zmn a = r.1 ∧ r.2.2.2.2.1 = n ∧ r.2.2.2.2.2.2.1 = 0 ∧ (st.take n).length = n ∧ ((st.drop n).map fun v => v.category).sum ≤ 8 then (match call a (st.take n).reverse M with
          | some (v, M') => some (pc + 3, ls, v.toList ++ st.drop n, M')
          | none => none) else none
      | none => none)
    | none => none
  | _ => none
def zstep (X : zX) (meth : Nat → Option zMe) (call : Nat → List Value → zM → Option (Option Value × zM)) (r : zMe) (pc : Nat) (ls : zL) (st : List Value) (M : zM) (i : Instr) (len : Nat) : zR := match zs0 pc ls st r.2.2.1 i len with
  | some (pc', ls', st') => some (pc', ls', st', M)
  | none => match zs1 X r.2.2.2.2.2.1 (r.2.2.2.2.2.2.1 == 2) pc ls st M i with
    | some q => some q
    | none => match zs3 X r.2.2.2.2.2.1 pc ls st M i with
      | some q => some q
      | none => zs2 meth call r.2.2.2.2.2.1 pc ls st M i
def zrun (X : zX) (meth : Nat → Option zMe) (call : Nat → List Value → zM → Option (Option Value × zM)) (r : zMe) : Nat → Nat → zL → List Value → zM → Option (Option Value × zM)
  | 0, _, _, _, _ => none
  | n + 1, pc, ls, st, M => match r.2.2.2.2.2.2.2 pc with
    | none => none
    | some (i, len) => if zlok i len = true then (match zret r.2.2.2.1 i st with
      | some v => some (v, M)
      | none => match zstep X meth call r pc ls st M i len with
        | some (pc', ls', st', M') => zrun X meth call r n pc' ls' st' M'
        | none => none) else none
abbrev zCall : Type := Nat → List Value → zM → Option (Option Value × zM)
/-- ov: what is known of some methods, in the place of their code -/
def zev (X : zX) (meth : Nat → Option zMe) (ov : zCall) : Nat → Nat → zCall
  | 0, _, _, _, _ => none
  | d + 1, n, a, args, M => match ov a args M with
    | some q => if 7 ≤ d then some q else none
    | none => match meth a with
      | none => none
      | some r => if (lg_sl args).length ≤ r.2.2.1 then zrun X meth (zev X meth ov d n) r n 0 (lv_args 0 args) [] M else none
end
section
/-! THE ROWS OF THE EVALUATOR, 2: calls, returns, whole methods -/
def zOK (r : zMe) : Prop := Cond.code r.1 r.2.1 r.2.2.1 r.2.2.2.1 ∈ zW ∧ Cond.initialized r.1.cls ∈ zW ∧ (r.1.cls ≠ "java/lang/invoke/MethodHandle" ∧ r.1.cls ≠ "java/lang/invoke/VarHandle" ∧ (parseMethodDescriptor r.1.desc).map (fun d => d.parameters.length) = some r.2.2.2.2.1) ∧ plainName r.1.cls = true ∧ r.2.2.1 ≤ 40 ∧ (r.2.2.2.2.2.1 < 21 ∧ zown r.2.2.2.2.2.1 = r.1.cls) ∧
  (r.2.2.2.2.2.2.1 = 0 → Cond.static r.1 ∈ zW) ∧ (r.2.2.2.2.2.2.1 = 1 → Cond.instanceMethod r.1 ∈ zW ∧ Cond.selects r.1.cls r.1 r.1 ∈ zW) ∧ (r.2.2.2.2.2.2.1 = 2 → Cond.instanceMethod r.1 ∈ zW ∧ r.1.name = "<init>" ∧ r.2.2.2.1 = none) ∧
  (∀ pc x, r.2.2.2.2.2.2.2 pc = some x → decode r.2.1 pc = .ok x)
def zws (r : zMe) : List Cond := Cond.code r.1 r.2.1 r.2.2.1 r.2.2.2.1 :: zW
def zrm (d mc ms : Nat) : Room := { frames := d, cells := mc, slots := ms, locals := 200 * d }
def zWld (base : Nat) (ex : Nat → Nat) (dC : Nat → ClassId) (dI : Nat → Nat → Nat) (X : zX) (M : zM) (U : State) : Prop :=
  U.heap.size = base + M.1 ∧ zMid base ex dC dI U M U.heap [] ∧ zExt base ex X U U.heap
def zQc (base : Nat) (ex : Nat → Nat) (dC : Nat → ClassId) (dI : Nat → Nat → Nat) (X : zX) (v : Option Value) (M' : zM) : Array Value → State → Outcome → State → Prop := fun _ st o t =>
  o = .returned (v.map (zcv (zad base ex))) ∧ zWld base ex dC dI X M' t ∧ va_F (zA base) st t
def zMet (l : Launch) (base : Nat) (ex : Nat → Nat) (dC : Nat → ClassId) (dI : Nat → Nat → Nat) (X : zX) (d : Nat) (r : zMe) (args : List Value) (M : zM) (v : Option Value) (M' : zM) : Prop :=
  Met l r.1 (zws r) (zrm d (M'.1 - M.1) (M'.2.1 - M.2.1)) (va_Pc (zcs (zad base ex) args) (zWld base ex dC dI X M)) (zQc base ex dC dI X v M') (M'.1 - M.1) (M'.2.1 - M.2.1) (zA base)
theorem zExt.to {base : Nat} {ex : Nat → Nat} {X : zX} {u U : State} {H0 H1 : Heap} (h : zExt base ex X u H0) (hW : u.WarmedH U.vm) (hq : ∀ q : Nat, q < base → H1[q]? = H0[q]?) : zExt base ex X U H1 := by
  obtain ⟨h1, h2, ⟨a1, a2⟩, ⟨b1, b2⟩, ⟨c1, c2⟩, h3, h4, h5, h6, h7, h8, h9⟩ := h
  have hA := hW.alike
  have hk : ∀ a : Nat, a < H0.size → ¬ zA base a → H1[a]? = H0[a]? := fun a _ h => hq a (Nat.not_le.mp h)
  refine ⟨(h1.moved hA).kept (hq _ h2), h2, ⟨(a1.moved hA).kept hk, (a2.moved hA).kept hk⟩, ⟨(b1.moved hA).kept hk, (b2.moved hA).kept hk⟩, ⟨(c1.moved hA).kept hk, (c2.moved hA).kept hk⟩, fun w hw => ?_, h4.moved hA, h5.moved hA, fun o k r ho hr h7 => ?_, (h7.moved hA).kept hk, (h8.moved hA).kept hk, (h9.moved hA).kept hk⟩
  · have hz := (List.mem_filter.mp hw).2
    have hw2 := h3 w hw
    cases w <;> first | (exact va_Nw.warmM hW hw2) | (exact va_Nw.warmF hW hw2) | (simp at hz)
  · obtain ⟨tx, ht⟩ := h6 o k r ho hr h7
    exact ⟨tx, ht.warm hW⟩
theorem zWld.to {base : Nat} {ex : Nat → Nat} {dC : Nat → ClassId} {dI : Nat → Nat → Nat} {X : zX} {M : zM} {u U : State} (h : zWld base ex dC dI X M u) (hW : u.WarmedH U.vm) (hH : U.heap = u.heap) : zWld base ex dC dI X M U := by
  obtain ⟨h1, ⟨g1, g2, g3, g4, ws, tys, g5, g6, g7⟩, h3⟩ := h
  refine ⟨by rw [hH]; exact h1, ⟨g1, by rw [hH]; exact g2, va_S.rf, g4, ws, tys, g5, by rw [hH]; exact g6, va_K.moved hW.alike g7⟩, h3.to hW (fun q _ => by rw [hH])⟩
theorem zWld.blind {base : Nat} {ex : Nat → Nat} {dC : Nat → ClassId} {dI : Nat → Nat → Nat} {X : zX} {M : zM} {av : List Value} : FrameBlind (va_Pc av (zWld base ex dC dI X M)) := fun a U g mk q => ⟨q.1, zWld.to (U := U.calling g mk a) q.2 (State.WarmedH.refl U) rfl⟩
section ZS2
variable {p : Program} {l : Launch} {e : Env} {R : Room} {s : State} {m : MethodId} {args : Array Value} {below : List Frame} {meth : Method} {c : Code} {H : Heap} {locs : List Loc} {cells slots : Nat} {Q : State → Prop} {cc : ByteArray} {base : Nat} {ex : Nat → Nat} {dC : Nat → ClassId} {dI : Nat → Nat → Nat} {X : zX} {own : Nat} {ini : Bool} {pc nL len pc' c0 s0 : Nat} {i : Instr} {ls ls' : zL} {st st' : List Value} {M M' : zM} {L : Array Slot}
/-- what stands in the midst of a method, as another one sees it that is called there -/
theorem zMid.wld (C : zCtx p s m args meth c R cc base ex X own ini nL c0) (hM : zMid base ex dC dI s M H locs) (hsz : H.size ≤ base + M.1) {U : State} (hU : U.heap = H) (hW : s.WarmedH U.vm) : zWld base ex dC dI X M U := by
  obtain ⟨hx, hb, hown, ho, hts, hE, hini, hml, hRf, hRl, hs0⟩ := id C
  obtain ⟨h1, h2, hS, hF, ws, tys, hR, hP, hK⟩ := id hM
  have hge : base + M.1 ≤ H.size := by
    by_cases hz : M.1 = 0
    · rw [hz]
      exact Nat.le_trans h2 hS.1
    · obtain ⟨w, hw, -⟩ := hR.2 (M.1 - 1) (by omega)
      have h3 : zad base ex (M.1 - 1) < H.size := (hP (M.1 - 1) _ hw).lt
      unfold zad at h3
      rw [if_pos (by omega)] at h3
      omega
  refine ⟨by rw [hU]; omega, ⟨h1, by rw [hU]; exact Nat.le_trans h2 hS.1, va_S.rf, hF, ws, tys, hR, by rw [hU]; exact hP, va_K.moved hW.alike hK⟩, hE.to hW (fun q hq => ?_)⟩
  rw [hU]
  exact hS.2.1 q (Nat.lt_of_lt_of_le hq h2) (Nat.not_le.mpr hq)
theorem z_back {mc ms : Nat} {st0 rest : List Value} {a : Array Value} {v : Option Value} (C : zCtx p s m args meth c R cc base ex X own ini nL c0) (hr : va_Run p l e R s m args below meth c H locs cells slots mc ms (F0 m pc L st0) (zcs (zad base ex) rest) (zQc base ex dC dI X v M' a) (zA base)) (hM : zMid base ex dC dI s M H locs) (hl : lv_has L nL (zcl (zad base ex) ls)) (hcc : cells + mc + c0 = M'.1) (hss : slots + ms + s0 = M'.2.1)
    (kk : zGo p l e R s m args below meth c Q base ex dC dI nL c0 s0 (pc + 3) ls (v.toList ++ rest) M') : W p l e R s m args below meth c H locs cells slots Q (F0 m pc L st0) := by
  obtain ⟨hx, hb, hown, ho, hts, hE, hini, hml, hRf, hRl, hs0⟩ := id C
  obtain ⟨h1, h2, hS, hF, ws, tys, hR, hP, hK⟩ := id hM
  intro T hT Y
  obtain ⟨v', st₀, t, T', Lc, g0, Y', hL, e1, e2, ⟨hv, hWd, hz, hk⟩, stp⟩ := hr T hT Y
  cases hv
  rw [g0] at hz hk
  obtain ⟨f1, ⟨f2, -, -, f3, ws', tys', f4, f5, f6⟩, -⟩ := hWd
  have hmid : zMid base ex dC dI s M' T'.heap (locs ++ Lc) := by
    refine ⟨f2, h2, ⟨Nat.le_trans hS.1 (by rw [e1]; exact hz), fun q q1 q2 => ?_, fun q hq => ?_⟩, f3, ws', tys', f4, by rw [e1]; exact f5, va_K.moved ?_ f6⟩
    · rw [e1, hk q (Nat.lt_of_lt_of_le q1 hS.1) q2]
      exact hS.2.1 q q1 q2
    · rcases List.mem_append.mp hq with h | h
      · exact hS.2.2 q h
      · exact hL q h
    · rw [← e2]
      exact Y'.warmed.alike.symm
  obtain ⟨t2, a1, b1⟩ := kk L T'.heap (locs ++ Lc) (cells + mc) (slots + ms) (by omega) (by omega) hl hmid T' rfl Y'
  refine ⟨t2, stp t2 ?_, b1⟩
  have hst : (v.map (zcv (zad base ex))).toList ++ zcs (zad base ex) rest = zcs (zad base ex) (v.toList ++ rest) := by cases v <;> rfl
  rw [hst]
  exact a1
end ZS2
end
section
/-! THE ROWS OF THE EVALUATOR, 3: calls -/
theorem zws_good {r : zMe} (h : zOK r) : GoodIn zW (zws r) := by
  intro w hw
  rcases List.mem_cons.mp hw with rfl | hw
  · exact zW_good _ h.1
  · exact zW_good _ hw
section ZS3
variable {p : Program} {l : Launch} {e : Env} {R : Room} {s : State} {m : MethodId} {args : Array Value} {below : List Frame} {meth : Method} {c : Code} {H : Heap} {locs : List Loc} {cells slots : Nat} {Q : State → Prop} {cc : ByteArray} {base : Nat} {ex : Nat → Nat} {dC : Nat → ClassId} {dI : Nat → Nat → Nat} {X : zX} {own : Nat} {ini : Bool} {pc nL len pc' c0 s0 d : Nat} {i : Instr} {ls ls' : zL} {st st' : List Value} {M M' : zM} {L : Array Slot}
variable {mt : Nat → Option zMe} {call : Nat → List Value → zM → Option (Option Value × zM)}
theorem zcs_rev {ad : Nat → Nat} (st : List Value) : zcs ad st.reverse = (zcs ad st).reverse := by simp [zcs, List.map_reverse]
theorem zcs_split {ad : Nat → Nat} {st rest : List Value} {n b : Nat} (h : st.drop n = .ref b :: rest) : zcs ad st = (zcs ad (st.take n).reverse).reverse ++ .ref (ad b) :: zcs ad rest := by
  rw [zcs_rev, List.reverse_reverse]
  have : st = st.take n ++ .ref b :: rest := by rw [← h]; exact (List.take_append_drop n st).symm
  conv => lhs; rw [this]
  unfold zcs
  rw [List.map_append]
  rfl
theorem zcs_split0 {ad : Nat → Nat} (st : List Value) (n : Nat) : zcs ad st = (zcs ad (st.take n).reverse).reverse ++ zcs ad (st.drop n) := by
  rw [zcs_rev, List.reverse_reverse]
  conv => lhs; rw [← List.take_append_drop n st]
  unfold zcs
  rw [List.map_append]
theorem z_lk1 {o x a n p : Nat} (ho : o < 21) (h : zlk o x = some (1, a, n, p)) : Cond.methodLink (zown o) x (zmn a) ∈ zW := z_lk ho h (show (1 : Nat) ≠ 7 by decide) rfl rfl
theorem z_lk2 {o x a n p : Nat} (ho : o < 21) (h : zlk o x = some (2, a, n, p)) : Cond.methodLinkNest (zown o) x (zmn a) "ForthHouse" ∈ zN := z_lkN ho h (show (2 : Nat) ≠ 7 by decide) rfl rfl
theorem z_s2 (C : zCtx p s m args meth c R cc base ex X own ini nL c0) (hOK : ∀ a r, mt a = some r → zOK r) (hcall : ∀ a av M v M', call a av M = some (v, M') → ∀ r, mt a = some r → zMet l base ex dC dI X d r av M v M') (hmono : ∀ a av M v M', call a av M = some (v, M') → M.1 ≤ M'.1 ∧ M.2.1 ≤ M'.2.1)
    (hRf : d + 1 ≤ R.frames) (hRl : 200 * (d + 1) ≤ R.locals) (hd : decode cc pc = .ok (i, len)) (hk : zlok i len = true) (h : zs2 mt call own pc ls st M i = some (pc', ls', st', M')) (hl : lv_has L nL (zcl (zad base ex) ls)) (hM : zMid base ex dC dI s M H locs) (hcc : cells + c0 = M.1) (hss : slots + s0 = M.2.1) (hRc : M'.1 ≤ R.cells + c0) (hRs : M'.2.1 ≤ R.slots + s0)
    (kk : zGo p l e R s m args below meth c Q base ex dC dI nL c0 s0 pc' ls' st' M') : W p l e R s m args below meth c H locs cells slots Q (F0 m pc L (zcs (zad base ex) st)) := by
  obtain ⟨hx, hb, hown, ho, hts, hE, hini, hml, -, -, hs0⟩ := id C
  refine W.size (fun hsz => ?_)
  have hsz : H.size ≤ base + M.1 := by omega
  have hblind : ∀ (av : List Value), FrameBlind (va_Pc av (zWld base ex dC dI X M)) := fun av => zWld.blind
  have hwld : ∀ (av : List Value) (U : State), U.heap = H → s.WarmedH U.vm → va_Pc av (zWld base ex dC dI X M) av.toArray U := fun av U hU hW => ⟨rfl, hM.wld C hsz hU hW⟩
  cases i
  case invokevirtual x =>
    have hk : len = 3 := by simpa [zlok] using hk
    subst hk
    simp only [zs2] at h
    split at h
    · rename_i t a n p0 hlk
      split at h
      · rename_i r hr
        split at h
        · rename_i b rest hst
          split at h
          · rename_i hbs
            split at h
            · rename_i hcnd
              split at h
              · rename_i v M1 hcv
                cases h
                obtain ⟨ct, cn, cp, ck, cq, cl, cw⟩ := hcnd
                obtain ⟨z1, z2, z3, z4, z5, z6, -, z7, -, z8⟩ := hOK a r hr
                obtain ⟨z71, z72⟩ := z7 ck
                have hMt := hcall _ _ _ _ _ hcv r hr
                obtain ⟨m1, m2⟩ := hmono _ _ _ _ _ hcv
                obtain ⟨h1, h2, hS, hF, ws, tys, hR, hP, hK⟩ := id hM
                have hbs : @LE.le Nat _ 1000000 b ∧ @LT.lt Nat _ b 1000013 := hbs
                have hrecv := vk_recv (i := b - 1000000) hE.2.2.2.2.2.2.2.2.2.1 (by omega) hS
                have e1 : ex (b - 1000000) = zad base ex b := by
                  unfold zad
                  rw [if_neg (by omega)]
                rw [cq, e1] at hrecv
                have hn : (zcs (zad base ex) (st.take n).reverse).length = n := by rw [zcs_len, List.length_reverse]; exact cl
                have hroom : (zrm d (M'.1 - M.1) (M'.2.1 - M.2.1)).frames + 1 ≤ R.frames ∧ 8 + (r.2.2.1 + 11) + (zrm d (M'.1 - M.1) (M'.2.1 - M.2.1)).locals ≤ R.locals := ⟨hRf, by show 8 + (r.2.2.1 + 11) + 200 * d ≤ R.locals; omega⟩
                have hdd : r.1.cls ≠ "java/lang/invoke/MethodHandle" ∧ r.1.cls ≠ "java/lang/invoke/VarHandle" ∧ (parseMethodDescriptor r.1.desc).map (fun d => d.parameters.length) = some n := by rw [← cp]; exact z3
                have hw8 : 2 * (F0 m pc L (zcs (zad base ex) st)).monitorRoom + ((zcs (zad base ex) rest).map fun v => v.category).sum ≤ 8 := by
                  show 2 * 0 + _ ≤ 8
                  rw [zcs_cat]
                  omega
                refine z_back C ?_ hM hl (mc := M'.1 - M.1) (ms := M'.2.1 - M.2.1) (by omega) (by omega) kk (a := (Value.ref (zad base ex b) :: zcs (zad base ex) (st.take n).reverse).toArray)
                rcases ct with rfl | rfl
                · have hlw := z_lk1 ho hlk
                  rw [cn] at hlw
                  exact va_runV (g := F0 m pc L (zcs (zad base ex) st)) ⟨hx, hb, hml, hown, hts⟩ hMt ⟨callB_of n hts (zws_good (hOK a r hr)) rfl rfl rfl (hts _ z2) (hts _ hlw) hdd hroom, hts _ z71, hts _ z72⟩ ⟨hblind _, hrecv, hwld _⟩ rfl hn hl.1 (zcs_split hst) hw8 hd ⟨by omega, by omega⟩
                · have hlw := hE.2.2.2.2.2.1 _ (z_lk2 ho hlk)
                  rw [cn] at hlw
                  exact va_runVN (g := F0 m pc L (zcs (zad base ex) st)) ⟨hx, hb, hml, hown, hts⟩ hMt ⟨va_cnB n hts (zws_good (hOK a r hr)) rfl rfl rfl hlw (hts _ z2) hdd hroom, hts _ z71, hts _ z72⟩ ⟨hblind _, hrecv, hwld _⟩ rfl hn hl.1 (zcs_split hst) hw8 hd ⟨by omega, by omega⟩
              · cases h
            · cases h
          · split at h
            · rename_i ci fs hob
              split at h
              · rename_i q hq
                split at h
                · rename_i hcnd
                  split at h
                  · rename_i v M1 hcv
                    cases h
                    obtain ⟨ct, cn, cp, ck, cq, cl, cw⟩ := hcnd
                    obtain ⟨z1, z2, z3, z4, z5, z6, -, z7, -, z8⟩ := hOK a r hr
                    obtain ⟨z71, z72⟩ := z7 ck
                    have hMt := hcall _ _ _ _ _ hcv r hr
                    obtain ⟨m1, m2⟩ := hmono _ _ _ _ _ hcv
                    obtain ⟨h1, h2, hS, hF, ws, tys, hR, hP, hK⟩ := id hM
                    obtain ⟨w, hw, hrl, hlt⟩ := hR.ent hob
                    have hw' : w = .inr (ci, zcs (zad base ex) fs) := hrl
                    subst hw'
                    have hrecv := va_recv hK hP hq hw
                    rw [cq] at hrecv
                    have hn : (zcs (zad base ex) (st.take n).reverse).length = n := by rw [zcs_len, List.length_reverse]; exact cl
                    have hroom : (zrm d (M'.1 - M.1) (M'.2.1 - M.2.1)).frames + 1 ≤ R.frames ∧ 8 + (r.2.2.1 + 11) + (zrm d (M'.1 - M.1) (M'.2.1 - M.2.1)).locals ≤ R.locals := ⟨hRf, by show 8 + (r.2.2.1 + 11) + 200 * d ≤ R.locals; omega⟩
                    have hdd : r.1.cls ≠ "java/lang/invoke/MethodHandle" ∧ r.1.cls ≠ "java/lang/invoke/VarHandle" ∧ (parseMethodDescriptor r.1.desc).map (fun d => d.parameters.length) = some n := by rw [← cp]; exact z3
                    have hw8 : 2 * (F0 m pc L (zcs (zad base ex) st)).monitorRoom + ((zcs (zad base ex) rest).map fun v => v.category).sum ≤ 8 := by
                      show 2 * 0 + _ ≤ 8
                      rw [zcs_cat]
                      omega
                    refine z_back C ?_ hM hl (mc := M'.1 - M.1) (ms := M'.2.1 - M.2.1) (by omega) (by omega) kk (a := (Value.ref (zad base ex b) :: zcs (zad base ex) (st.take n).reverse).toArray)
                    rcases ct with rfl | rfl
                    · have hlw := z_lk1 ho hlk
                      rw [cn] at hlw
                      exact va_runV (g := F0 m pc L (zcs (zad base ex) st)) ⟨hx, hb, hml, hown, hts⟩ hMt ⟨callB_of n hts (zws_good (hOK a r hr)) rfl rfl rfl (hts _ z2) (hts _ hlw) hdd hroom, hts _ z71, hts _ z72⟩ ⟨hblind _, hrecv, hwld _⟩ rfl hn hl.1 (zcs_split hst) hw8 hd ⟨by omega, by omega⟩
                    · have hlw := hE.2.2.2.2.2.1 _ (z_lk2 ho hlk)
                      rw [cn] at hlw
                      exact va_runVN (g := F0 m pc L (zcs (zad base ex) st)) ⟨hx, hb, hml, hown, hts⟩ hMt ⟨va_cnB n hts (zws_good (hOK a r hr)) rfl rfl rfl hlw (hts _ z2) hdd hroom, hts _ z71, hts _ z72⟩ ⟨hblind _, hrecv, hwld _⟩ rfl hn hl.1 (zcs_split hst) hw8 hd ⟨by omega, by omega⟩
                  · cases h
                · cases h
              · cases h
            · cases h
        · cases h
      · cases h
    · cases h
  case invokespecial x =>
    have hk : len = 3 := by simpa [zlok] using hk
    subst hk
    simp only [zs2] at h
    split at h
    · rename_i t a n p0 hlk
      split at h
      · rename_i r hr
        split at h
        · rename_i b rest hst
          split at h
          · rename_i hcnd
            split at h
            · rename_i v M1 hcv
              cases h
              obtain ⟨ct, cn, cp, ck, cl, cw⟩ := hcnd
              obtain ⟨z1, z2, z3, z4, z5, z6, -, -, z7, z8⟩ := hOK a r hr
              obtain ⟨z71, z72, z73⟩ := z7 ck
              have hMt := hcall _ _ _ _ _ hcv r hr
              obtain ⟨m1, m2⟩ := hmono _ _ _ _ _ hcv
              have hn : (zcs (zad base ex) (st.take n).reverse).length = n := by rw [zcs_len, List.length_reverse]; exact cl
              have hroom : (zrm d (M'.1 - M.1) (M'.2.1 - M.2.1)).frames + 1 ≤ R.frames ∧ 8 + (r.2.2.1 + 11) + (zrm d (M'.1 - M.1) (M'.2.1 - M.2.1)).locals ≤ R.locals := ⟨hRf, by show 8 + (r.2.2.1 + 11) + 200 * d ≤ R.locals; omega⟩
              have hdd : r.1.cls ≠ "java/lang/invoke/MethodHandle" ∧ r.1.cls ≠ "java/lang/invoke/VarHandle" ∧ (parseMethodDescriptor r.1.desc).map (fun d => d.parameters.length) = some n := by rw [← cp]; exact z3
              have hw8 : 2 * (F0 m pc L (zcs (zad base ex) st)).monitorRoom + ((zcs (zad base ex) rest).map fun v => v.category).sum ≤ 8 := by
                show 2 * 0 + _ ≤ 8
                rw [zcs_cat]
                omega
              have hwsn : zws r = Cond.code r.1 r.2.1 r.2.2.1 none :: zW := by unfold zws; rw [z73]
              refine z_back C ?_ hM hl (mc := M'.1 - M.1) (ms := M'.2.1 - M.2.1) (by omega) (by omega) kk (a := (Value.ref (zad base ex b) :: zcs (zad base ex) (st.take n).reverse).toArray)
              rcases ct with rfl | rfl
              · have hlw := z_lk1 ho hlk
                rw [cn] at hlw
                exact va_runI (g := F0 m pc L (zcs (zad base ex) st)) ⟨hx, hb, hml, hown, hts⟩ hMt ⟨callB_of n hts (zws_good (hOK a r hr)) hwsn rfl rfl (hts _ z2) (hts _ hlw) hdd hroom, z72, hts _ z71⟩ ⟨hblind _, hwld _⟩ rfl hn hl.1 (zcs_split hst) hw8 hd ⟨by omega, by omega⟩
              · have hlw := hE.2.2.2.2.2.1 _ (z_lk2 ho hlk)
                rw [cn] at hlw
                exact va_runIN (g := F0 m pc L (zcs (zad base ex) st)) ⟨hx, hb, hml, hown, hts⟩ hMt ⟨va_cnB n hts (zws_good (hOK a r hr)) hwsn rfl rfl hlw (hts _ z2) hdd hroom, z72, hts _ z71⟩ ⟨hblind _, hwld _⟩ rfl hn hl.1 (zcs_split hst) hw8 hd ⟨by omega, by omega⟩
            · cases h
          · cases h
        · cases h
      · cases h
    · cases h
  case invokestatic x =>
    have hk : len = 3 := by simpa [zlok] using hk
    subst hk
    simp only [zs2] at h
    split at h
    · rename_i t a n p0 hlk
      split at h
      · rename_i r hr
        split at h
        · rename_i hcnd
          split at h
          · rename_i v M1 hcv
            cases h
            obtain ⟨ct, cn, cp, ck, cl, cw⟩ := hcnd
            obtain ⟨z1, z2, z3, z4, z5, z6, z7, -, -, z8⟩ := hOK a r hr
            have z71 := z7 ck
            have hMt := hcall _ _ _ _ _ hcv r hr
            obtain ⟨m1, m2⟩ := hmono _ _ _ _ _ hcv
            have hn : (zcs (zad base ex) (st.take n).reverse).length = n := by rw [zcs_len, List.length_reverse]; exact cl
            have hroom : (zrm d (M'.1 - M.1) (M'.2.1 - M.2.1)).frames + 1 ≤ R.frames ∧ 8 + (r.2.2.1 + 11) + (zrm d (M'.1 - M.1) (M'.2.1 - M.2.1)).locals ≤ R.locals := ⟨hRf, by show 8 + (r.2.2.1 + 11) + 200 * d ≤ R.locals; omega⟩
            have hdd : r.1.cls ≠ "java/lang/invoke/MethodHandle" ∧ r.1.cls ≠ "java/lang/invoke/VarHandle" ∧ (parseMethodDescriptor r.1.desc).map (fun d => d.parameters.length) = some n := by rw [← cp]; exact z3
            have hw8 : 2 * (F0 m pc L (zcs (zad base ex) st)).monitorRoom + ((zcs (zad base ex) (st.drop n)).map fun v => v.category).sum ≤ 8 := by
              show 2 * 0 + _ ≤ 8
              rw [zcs_cat]
              omega
            refine z_back C ?_ hM hl (mc := M'.1 - M.1) (ms := M'.2.1 - M.2.1) (by omega) (by omega) kk (a := (zcs (zad base ex) (st.take n).reverse).toArray)
            rcases ct with rfl | rfl
            · have hlw := z_lk1 ho hlk
              rw [cn] at hlw
              exact va_runS (g := F0 m pc L (zcs (zad base ex) st)) ⟨hx, hb, hml, hown, hts⟩ hMt ⟨callB_of n hts (zws_good (hOK a r hr)) rfl rfl rfl (hts _ z2) (hts _ hlw) hdd hroom, hts _ z71⟩ ⟨hblind _, hwld _⟩ rfl hn hl.1 (zcs_split0 st n) hw8 hd ⟨by omega, by omega⟩
            · have hlw := hE.2.2.2.2.2.1 _ (z_lk2 ho hlk)
              rw [cn] at hlw
              exact va_runSN (g := F0 m pc L (zcs (zad base ex) st)) ⟨hx, hb, hml, hown, hts⟩ hMt ⟨va_cnB n hts (zws_good (hOK a r hr)) rfl rfl rfl hlw (hts _ z2) hdd hroom, hts _ z71, trivial⟩ ⟨hblind _, hwld _⟩ rfl hn hl.1 (zcs_split0 st n) hw8 hd ⟨by omega, by omega⟩
          · cases h
        · cases h
      · cases h
    · cases h
  all_goals (exfalso; revert h; simp [zs2])
end ZS3
end
section
/-! THE ROWS OF THE EVALUATOR, 4: steps, runs, whole methods -/
theorem zset_mono {M : zM} {a : Nat} {e : zE} : M.1 ≤ (zset M a e).1 ∧ M.2.1 ≤ (zset M a e).2.1 := ⟨Nat.le_refl _, Nat.le_refl _⟩
theorem zpush_mono {M : zM} {e : zE} : M.1 ≤ (zpush M e).1 ∧ M.2.1 ≤ (zpush M e).2.1 := ⟨Nat.le_succ _, Nat.le_add_right _ _⟩
set_option maxHeartbeats 4000000 in
theorem zs1_mono {X : zX} {own : Nat} {ini : Bool} {pc : Nat} {ls : zL} {st : List Value} {M : zM} {i : Instr} {pc' : Nat} {ls' : zL} {st' : List Value} {M' : zM} (h : zs1 X own ini pc ls st M i = some (pc', ls', st', M')) : M.1 ≤ M'.1 ∧ M.2.1 ≤ M'.2.1 := by
  cases i <;> simp only [zs1, reduceCtorEq] at h
  all_goals (repeat' split at h)
  all_goals first
    | (cases h; done)
    | (cases h; exact ⟨Nat.le_refl _, Nat.le_refl _⟩)
    | (cases h; exact zset_mono)
    | (cases h; exact zpush_mono)
theorem zs3_mono {X : zX} {own : Nat} {pc : Nat} {ls : zL} {st : List Value} {M : zM} {i : Instr} {pc' : Nat} {ls' : zL} {st' : List Value} {M' : zM} (h : zs3 X own pc ls st M i = some (pc', ls', st', M')) : M.1 ≤ M'.1 ∧ M.2.1 ≤ M'.2.1 := by
  cases i <;> simp only [zs3, reduceCtorEq] at h
  all_goals (repeat' split at h)
  all_goals first
    | (cases h; done)
    | (cases h; exact ⟨Nat.le_refl _, Nat.le_refl _⟩)
set_option maxHeartbeats 4000000 in
theorem zs2_mono {mt : Nat → Option zMe} {call : Nat → List Value → zM → Option (Option Value × zM)} (hmono : ∀ a av M v M', call a av M = some (v, M') → M.1 ≤ M'.1 ∧ M.2.1 ≤ M'.2.1) {own : Nat} {pc : Nat} {ls : zL} {st : List Value} {M : zM} {i : Instr} {pc' : Nat} {ls' : zL} {st' : List Value} {M' : zM} (h : zs2 mt call own pc ls st M i = some (pc', ls', st', M')) : M.1 ≤ M'.1 ∧ M.2.1 ≤ M'.2.1 := by
  cases i <;> simp only [zs2, reduceCtorEq] at h
  all_goals (repeat' split at h)
  all_goals first
    | (cases h; done)
    | (rename_i hc; cases h; exact hmono _ _ _ _ _ hc)
theorem zstep_mono {X : zX} {mt : Nat → Option zMe} {call : Nat → List Value → zM → Option (Option Value × zM)} (hmono : ∀ a av M v M', call a av M = some (v, M') → M.1 ≤ M'.1 ∧ M.2.1 ≤ M'.2.1) {r : zMe} {pc len : Nat} {ls : zL} {st : List Value} {M : zM} {i : Instr} {pc' : Nat} {ls' : zL} {st' : List Value} {M' : zM} (h : zstep X mt call r pc ls st M i len = some (pc', ls', st', M')) : M.1 ≤ M'.1 ∧ M.2.1 ≤ M'.2.1 := by
  unfold zstep at h
  split at h
  · cases h
    exact ⟨Nat.le_refl _, Nat.le_refl _⟩
  · split at h
    · rename_i q hq
      cases h
      exact zs1_mono hq
    · split at h
      · rename_i q hq
        cases h
        exact zs3_mono hq
      · exact zs2_mono hmono h
theorem zrun_mono {X : zX} {mt : Nat → Option zMe} {call : Nat → List Value → zM → Option (Option Value × zM)} (hmono : ∀ a av M v M', call a av M = some (v, M') → M.1 ≤ M'.1 ∧ M.2.1 ≤ M'.2.1) {r : zMe} : ∀ (n pc : Nat) (ls : zL) (st : List Value) (M : zM) (v : Option Value) (M' : zM), zrun X mt call r n pc ls st M = some (v, M') → M.1 ≤ M'.1 ∧ M.2.1 ≤ M'.2.1 := by
  intro n
  induction n with
  | zero => intro pc ls st M v M' h; cases h
  | succ n ih =>
    intro pc ls st M v M' h
    unfold zrun at h
    split at h
    · cases h
    · split at h
      · split at h
        · cases h
          exact ⟨Nat.le_refl _, Nat.le_refl _⟩
        · split at h
          · rename_i hs
            have h1 := zstep_mono hmono hs
            have h2 := ih _ _ _ _ _ _ h
            omega
          · cases h
      · cases h
/-- what is said of some methods is right, at depths from 8 on -/
def zOv (l : Launch) (base : Nat) (ex : Nat → Nat) (dC : Nat → ClassId) (dI : Nat → Nat → Nat) (X : zX) (mt : Nat → Option zMe) (ov : zCall) : Prop :=
  ∀ a av M v M', ov a av M = some (v, M') → (M.1 ≤ M'.1 ∧ M.2.1 ≤ M'.2.1) ∧ ∀ d, 8 ≤ d → ∀ r, mt a = some r → zMet l base ex dC dI X d r av M v M'
theorem zev_mono {l : Launch} {base : Nat} {ex : Nat → Nat} {dC : Nat → ClassId} {dI : Nat → Nat → Nat} {X : zX} {mt : Nat → Option zMe} {ov : zCall} (hov : zOv l base ex dC dI X mt ov) : ∀ (d n a : Nat) (av : List Value) (M : zM) (v : Option Value) (M' : zM), zev X mt ov d n a av M = some (v, M') → M.1 ≤ M'.1 ∧ M.2.1 ≤ M'.2.1 := by
  intro d
  induction d with
  | zero => intro n a av M v M' h; cases h
  | succ d ih =>
    intro n a av M v M' h
    unfold zev at h
    split at h
    · rename_i q hq
      split at h
      · cases h
        exact (hov _ _ _ _ _ hq).1
      · cases h
    · split at h
      · cases h
      · split at h
        · exact zrun_mono (ih n) _ _ _ _ _ _ _ h
        · cases h
section ZS4
variable {p : Program} {l : Launch} {e : Env} {R : Room} {s : State} {m : MethodId} {args : Array Value} {below : List Frame} {meth : Method} {c : Code} {H : Heap} {locs : List Loc} {cells slots : Nat} {Q : State → Prop} {base : Nat} {ex : Nat → Nat} {dC : Nat → ClassId} {dI : Nat → Nat → Nat} {X : zX} {pc len pc' c0 s0 d : Nat} {i : Instr} {ls ls' : zL} {st st' : List Value} {M M' : zM} {L : Array Slot}
variable {mt : Nat → Option zMe} {call : Nat → List Value → zM → Option (Option Value × zM)} {r : zMe}
set_option maxHeartbeats 4000000 in
theorem z_s1 (C : zCtx p s m args meth c R r.2.1 base ex X r.2.2.2.2.2.1 (r.2.2.2.2.2.2.1 == 2) r.2.2.1 c0) (hd : decode r.2.1 pc = .ok (i, len)) (hk : zlok i len = true) (h : zs1 X r.2.2.2.2.2.1 (r.2.2.2.2.2.2.1 == 2) pc ls st M i = some (pc', ls', st', M')) (hl : lv_has L r.2.2.1 (zcl (zad base ex) ls)) (hM : zMid base ex dC dI s M H locs) (hcc : cells + c0 = M.1) (hss : slots + s0 = M.2.1) (hRc : M'.1 ≤ R.cells + c0) (hRs : M'.2.1 ≤ R.slots + s0)
    (kk : zGo p l e R s m args below meth c Q base ex dC dI r.2.2.1 c0 s0 pc' ls' st' M') : W p l e R s m args below meth c H locs cells slots Q (F0 m pc L (zcs (zad base ex) st)) := by
  cases i
  case getfield x => have hk : len = 3 := by simpa [zlok] using hk
                     subst hk; exact z_getfield C hd h hl hM hcc hss kk
  case putfield x => have hk : len = 3 := by simpa [zlok] using hk
                     subst hk; exact z_putfield C hd h hl hM hcc hss kk
  case getstatic x => have hk : len = 3 := by simpa [zlok] using hk
                      subst hk; exact z_getstatic C hd h hl hM hcc hss kk
  case iaload => have hk : len = 1 := by simpa [zlok] using hk
                 subst hk; exact z_iaload C hd h hl hM hcc hss kk
  case baload => have hk : len = 1 := by simpa [zlok] using hk
                 subst hk; exact z_baload C hd h hl hM hcc hss kk
  case aaload => have hk : len = 1 := by simpa [zlok] using hk
                 subst hk; exact z_aaload C hd h hl hM hcc hss kk
  case iastore => have hk : len = 1 := by simpa [zlok] using hk
                  subst hk; exact z_iastore C hd h hl hM hcc hss kk
  case bastore => have hk : len = 1 := by simpa [zlok] using hk
                  subst hk; exact z_bastore C hd h hl hM hcc hss kk
  case aastore => have hk : len = 1 := by simpa [zlok] using hk
                  subst hk; exact z_aastore C hd h hl hM hcc hss kk
  case arraylength => have hk : len = 1 := by simpa [zlok] using hk
                      subst hk; exact z_arraylength C hd h hl hM hcc hss kk
  case newarray t => have hk : len = 2 := by simpa [zlok] using hk
                     subst hk; exact z_newarray C hd h hl hM hcc hss hRc hRs kk
  case anewarray x => have hk : len = 3 := by simpa [zlok] using hk
                      subst hk; exact z_anewarray C hd h hl hM hcc hss hRc hRs kk
  case new x => have hk : len = 3 := by simpa [zlok] using hk
                subst hk; exact z_new C hd h hl hM hcc hss hRc hRs kk
  case ldc x => have hk : len = 2 := by simpa [zlok] using hk
                subst hk; exact z_ldc C hd h hl hM hcc hss kk
  case ldc_w x => have hk : len = 3 := by simpa [zlok] using hk
                  subst hk; exact z_ldc_w C hd h hl hM hcc hss kk
  case ldc2_w x => have hk : len = 3 := by simpa [zlok] using hk
                   subst hk; exact z_ldc2_w C hd h hl hM hcc hss kk
  case invokespecial x => have hk : len = 3 := by simpa [zlok] using hk
                          subst hk; exact z_objinit C hd h hl hM hcc hss kk
  case invokestatic x => have hk : len = 3 := by simpa [zlok] using hk
                         subst hk; exact z_arraycopy C hd h hl hM hcc hss kk
  all_goals (exfalso; revert h; simp [zs1])
theorem z_s3 (C : zCtx p s m args meth c R r.2.1 base ex X r.2.2.2.2.2.1 (r.2.2.2.2.2.2.1 == 2) r.2.2.1 c0) (hd : decode r.2.1 pc = .ok (i, len)) (hk : zlok i len = true) (h : zs3 X r.2.2.2.2.2.1 pc ls st M i = some (pc', ls', st', M')) (hl : lv_has L r.2.2.1 (zcl (zad base ex) ls)) (hM : zMid base ex dC dI s M H locs) (hcc : cells + c0 = M.1) (hss : slots + s0 = M.2.1)
    (kk : zGo p l e R s m args below meth c Q base ex dC dI r.2.2.1 c0 s0 pc' ls' st' M') : W p l e R s m args below meth c H locs cells slots Q (F0 m pc L (zcs (zad base ex) st)) := by
  cases i
  case getfield x => have hk : len = 3 := by simpa [zlok] using hk
                     subst hk; exact z_sgetfield C hd h hl hM hcc hss kk
  case getstatic x => have hk : len = 3 := by simpa [zlok] using hk
                      subst hk; exact z_sgetstatic C hd h hl hM hcc hss kk
  case baload => have hk : len = 1 := by simpa [zlok] using hk
                 subst hk; exact z_sbaload C hd h hl hM hcc hss kk
  case arraylength => have hk : len = 1 := by simpa [zlok] using hk
                      subst hk; exact z_sarraylength C hd h hl hM hcc hss kk
  all_goals (exfalso; revert h; simp [zs3])
theorem z_step (C : zCtx p s m args meth c R r.2.1 base ex X r.2.2.2.2.2.1 (r.2.2.2.2.2.2.1 == 2) r.2.2.1 c0) (hOK : ∀ a r, mt a = some r → zOK r) (hcall : ∀ a av M v M', call a av M = some (v, M') → ∀ r, mt a = some r → zMet l base ex dC dI X d r av M v M') (hmono : ∀ a av M v M', call a av M = some (v, M') → M.1 ≤ M'.1 ∧ M.2.1 ≤ M'.2.1)
    (hRf : d + 1 ≤ R.frames) (hRl : 200 * (d + 1) ≤ R.locals) (hd : decode r.2.1 pc = .ok (i, len)) (hk : zlok i len = true) (h : zstep X mt call r pc ls st M i len = some (pc', ls', st', M')) (hRc : M'.1 ≤ R.cells + c0) (hRs : M'.2.1 ≤ R.slots + s0)
    (kk : zGo p l e R s m args below meth c Q base ex dC dI r.2.2.1 c0 s0 pc' ls' st' M') : zGo p l e R s m args below meth c Q base ex dC dI r.2.2.1 c0 s0 pc ls st M := by
  intro L H locs cells slots hcc hss hl hM
  unfold zstep at h
  split at h
  · rename_i a b c' hq
    cases h
    exact z_s0 C.1 C.2.1 hd hk hq hl (fun L' h' => kk L' H locs cells slots hcc hss h' hM)
  · split at h
    · rename_i q hq
      cases h
      exact z_s1 C hd hk hq hl hM hcc hss hRc hRs kk
    · split at h
      · rename_i q hq
        cases h
        exact z_s3 C hd hk hq hl hM hcc hss kk
      · exact z_s2 C hOK hcall hmono hRf hRl hd hk h hl hM hcc hss hRc hRs kk
/-- where a method ends -/
def zFin (p : Program) (l : Launch) (e : Env) (R : Room) (s : State) (m : MethodId) (args : Array Value) (below : List Frame) (meth : Method) (c : Code) (Q : State → Prop) (base : Nat) (ex : Nat → Nat) (dC : Nat → ClassId) (dI : Nat → Nat → Nat) (r : zMe) (c0 s0 : Nat) (v : Option Value) (M : zM) : Prop :=
  ∀ (pc len : Nat) (i : Instr) (st : List Value) (L : Array Slot) (H : Heap) (locs : List Loc) (cells slots : Nat), decode r.2.1 pc = .ok (i, len) → zlok i len = true → zret r.2.2.2.1 i st = some v → cells + c0 = M.1 → slots + s0 = M.2.1 → zMid base ex dC dI s M H locs → W p l e R s m args below meth c H locs cells slots Q (F0 m pc L (zcs (zad base ex) st))
theorem z_run {v : Option Value} (C : zCtx p s m args meth c R r.2.1 base ex X r.2.2.2.2.2.1 (r.2.2.2.2.2.2.1 == 2) r.2.2.1 c0) (hOK : ∀ a r, mt a = some r → zOK r) (hcall : ∀ a av M v M', call a av M = some (v, M') → ∀ r, mt a = some r → zMet l base ex dC dI X d r av M v M') (hmono : ∀ a av M v M', call a av M = some (v, M') → M.1 ≤ M'.1 ∧ M.2.1 ≤ M'.2.1)
    (hRf : d + 1 ≤ R.frames) (hRl : 200 * (d + 1) ≤ R.locals) (hdec : ∀ pc x, r.2.2.2.2.2.2.2 pc = some x → decode r.2.1 pc = .ok x) (hRc : M'.1 ≤ R.cells + c0) (hRs : M'.2.1 ≤ R.slots + s0) (hfin : zFin p l e R s m args below meth c Q base ex dC dI r c0 s0 v M') :
    ∀ (n pc : Nat) (ls : zL) (st : List Value) (M : zM), zrun X mt call r n pc ls st M = some (v, M') → zGo p l e R s m args below meth c Q base ex dC dI r.2.2.1 c0 s0 pc ls st M := by
  intro n
  induction n with
  | zero => intro pc ls st M h; cases h
  | succ n ih =>
    intro pc ls st M h
    unfold zrun at h
    split at h
    · cases h
    · rename_i i len htb
      split at h
      · rename_i hk
        split at h
        · rename_i v1 hv1
          cases h
          intro L H locs cells slots hcc hss hl hM
          exact hfin pc len i st L H locs cells slots (hdec _ _ htb) hk hv1 hcc hss hM
        · split at h
          · rename_i pc1 ls1 st1 M1 hs
            have h2 := zrun_mono hmono _ _ _ _ _ _ _ h
            exact z_step C hOK hcall hmono hRf hRl (hdec _ _ htb) hk hs (by omega) (by omega) (ih _ _ _ _ h)
          · cases h
      · cases h
end ZS4
theorem zcl_args {ad : Nat → Nat} : ∀ (vs : List Value) (i : Nat), zcl ad (lv_args i vs) = lv_args i (zcs ad vs) := by
  intro vs
  induction vs with
  | nil => intro i; rfl
  | cons v vs ih =>
    intro i
    show (i, zcv ad v) :: zcl ad (lv_args _ vs) = (i, zcv ad v) :: lv_args _ (zcs ad vs)
    rw [ih, zcv_cat]
theorem zsl_len {ad : Nat → Nat} : ∀ (vs : List Value), (lg_sl (zcs ad vs)).length = (lg_sl vs).length := by
  intro vs
  induction vs with
  | nil => rfl
  | cons v vs ih =>
    show (lg_sl (zcv ad v :: zcs ad vs)).length = _
    unfold lg_sl at ih ⊢
    rw [List.flatMap_cons, List.flatMap_cons, List.length_append, List.length_append, ih, zcv_cat]
    by_cases h : v.category = 2
    · rw [if_pos h, if_pos h]; rfl
    · rw [if_neg h, if_neg h]; rfl
set_option maxHeartbeats 1000000 in
/-- a run of a method's code gives its contract -/
theorem zMet_of {l : Launch} {base : Nat} {ex : Nat → Nat} {dC : Nat → ClassId} {dI : Nat → Nat → Nat} {X : zX} {mt : Nat → Option zMe} (hOK : ∀ a r, mt a = some r → zOK r) {call : zCall} {d n a : Nat} {r : zMe} (hr : mt a = some r) (hcall : ∀ a av M v M', call a av M = some (v, M') → ∀ r, mt a = some r → zMet l base ex dC dI X d r av M v M') (hmono : ∀ a av M v M', call a av M = some (v, M') → M.1 ≤ M'.1 ∧ M.2.1 ≤ M'.2.1) {av : List Value} {M : zM} {v : Option Value} {M' : zM} (hlen : (lg_sl av).length ≤ r.2.2.1) (h : zrun X mt call r n 0 (lv_args 0 av) [] M = some (v, M')) : zMet l base ex dC dI X (d + 1) r av M v M' := by
  have hm := zrun_mono hmono _ _ _ _ _ _ _ h
  obtain ⟨z1, z2, z3, z4, z5, z6, z7, z8, z9, z10⟩ := hOK a r hr
  refine Met.ofW (cc := r.2.1) (maxL := r.2.2.1) (ret := r.2.2.2.1) z4 rfl ?_
  intro p e s m args below meth c s₁ B hml hPc
  obtain ⟨rfl, hsz, hMid, hExt⟩ := hPc
  have hx := B.exec
  have hb := B.bytes
  have hrt := B.returns
  have hts := atoms_spec (ws := zws r) B.pre
  have hown : s.vm.findClass r.1.cls = some m.cls := findClass_of_methodNamed B.named
  have hlocks := B.notSynchronized
  have hin : meth.name = r.1.name := (name_of_methodNamed B.named B.method).1
  have C : zCtx p s m (zcs (zad base ex) av).toArray meth c (headSpec (zws r) (zrm (d + 1) (M'.1 - M.1) (M'.2.1 - M.2.1))).room r.2.1 base ex X r.2.2.2.2.2.1 (r.2.2.2.2.2.2.1 == 2) r.2.2.1 M.1 :=
    ⟨hx, hb, by rw [z6.2]; exact hown, z6.1, fun w hw => hts w (List.mem_cons_of_mem _ hw), hExt, fun q => by rw [hin]; exact (z9 (by simpa using q)).2.1, hml, by show 1 ≤ d + 1; omega, by show 200 ≤ 200 * (d + 1); omega, hsz⟩
  have hl := lv_entry (zcs (zad base ex) av) (n := r.2.2.1) (by rw [zsl_len]; exact hlen)
  rw [lg_entry_eq, ← zcl_args] at *
  refine z_run (s0 := M.2.1) (c0 := M.1) C hOK hcall hmono (by show d + 1 ≤ d + 1; omega) (by show 200 * (d + 1) ≤ 200 * (d + 1); omega) z10 (by show M'.1 ≤ (M'.1 - M.1) + M.1; omega) (by show M'.2.1 ≤ (M'.2.1 - M.2.1) + M.2.1; omega) ?_ n 0 (lv_args 0 av) [] M h _ s.heap [] 0 0 (by omega) (by omega) hl hMid
  intro pc len i st L H locs cells slots hdg hk hret hcc hss hM
  have e1 : cells = M'.1 - M.1 := by omega
  have e2 : slots = M'.2.1 - M.2.1 := by omega
  subst e1
  subst e2
  refine W.size (fun hsz2 => ?_)
  have hsz3 : H.size ≤ base + M'.1 := by omega
  have hq : ∀ t : State, t.heap = H → s.WarmedH t.vm → zQc base ex dC dI X v M' (zcs (zad base ex) av).toArray s (.returned (v.map (zcv (zad base ex)))) t := fun t ht hW => ⟨rfl, hM.wld C hsz3 ht hW, hM.2.2.1.F ht⟩
  have hf : ∀ q ∈ locs, zA base q.base := hM.2.2.1.2.2
  cases i <;> simp only [zret, reduceCtorEq] at hret
  case return_ =>
    have hk : len = 1 := by simpa [zlok] using hk
    subst hk
    split at hret
    · rename_i h0
      cases hret
      rw [h0] at hrt
      exact W.vret hx hb hrt hq hf hdg
    · cases hret
  case ireturn =>
    have hk : len = 1 := by simpa [zlok] using hk
    subst hk
    split at hret
    · rename_i ty x h0
      split at hret
      · rename_i hn
        cases hret
        rw [h0] at hrt
        exact W.zret hx hb hrt hn hq hf hdg
      · cases hret
    · cases hret
  case lreturn =>
    have hk : len = 1 := by simpa [zlok] using hk
    subst hk
    split at hret
    · rename_i x h0
      cases hret
      rw [h0] at hrt
      exact W.lret hx hb hrt hq hf hdg
    · cases hret
  case areturn =>
    have hk : len = 1 := by simpa [zlok] using hk
    subst hk
    split at hret
    · rename_i x y h0
      cases hret
      rw [h0] at hrt
      exact W.aret hx hb hrt (Or.inl ⟨_, rfl⟩) (Or.inr ⟨_, rfl⟩) hq hf hdg
    · rename_i x h0
      cases hret
      rw [h0] at hrt
      exact W.aret hx hb hrt (Or.inl ⟨_, rfl⟩) (Or.inl rfl) hq hf hdg
    · cases hret
/-- THE EVALUATOR IS RIGHT: what it answers, the machine's method does -/
theorem zev_ok {l : Launch} {base : Nat} {ex : Nat → Nat} {dC : Nat → ClassId} {dI : Nat → Nat → Nat} {X : zX} {mt : Nat → Option zMe} {ov : zCall} (hOK : ∀ a r, mt a = some r → zOK r) (hov : zOv l base ex dC dI X mt ov) : ∀ (d n a : Nat) (av : List Value) (M : zM) (v : Option Value) (M' : zM), zev X mt ov d n a av M = some (v, M') → ∀ r, mt a = some r → zMet l base ex dC dI X d r av M v M' := by
  intro d
  induction d with
  | zero => intro n a av M v M' h; cases h
  | succ d ih =>
    intro n a av M v M' h r hr
    unfold zev at h
    split at h
    · rename_i q hq
      split at h
      · rename_i hd
        cases h
        exact (hov _ _ _ _ _ hq).2 (d + 1) (by omega) r hr
      · cases h
    · rw [hr] at h
      dsimp only at h
      split at h
      · rename_i hlen
        exact zMet_of hOK hr (fun a av M v M' h => ih n a av M v M' h) (fun a av M v M' h => zev_mono hov _ _ _ _ _ _ _ h) hlen h
      · cases h
end
